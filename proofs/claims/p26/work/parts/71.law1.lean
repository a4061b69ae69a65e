/-! P26: THE LAW. -/
/-- what the law holds between two turns -/
def LI (cI cZ cM : ClassId) (h n : Nat) (L : Int) (LN : Int → Int) (G : va_W) : Prop := ∃ (ND KN US : Int → Int32) (μ : Nat → zM) (d : Int32), GI cI cZ cM h n ND KN US μ L d G ∧ (∀ p : Int, 0 ≤ p → p < 6 → byt (KN p)) ∧ ∀ i : Int, 0 ≤ i → i < n → LN i = mle (μ i.toNat)
theorem LN_up {n : Nat} {LN : Int → Int} {μ : Nat → zM} (h : ∀ i : Int, 0 ≤ i → i < n → LN i = mle (μ i.toNat)) {k : Int} {u : zM} (hu : mle u = mle (μ k.toNat)) : ∀ i : Int, 0 ≤ i → i < n → LN i = mle (va_up μ k.toNat u i.toNat) := by
  intro i h0 h1
  by_cases e : i.toNat = k.toNat
  · rw [e, va_up_self, hu, ← e]
    exact h i h0 h1
  · rw [va_up_ne _ _ e]
    exact h i h0 h1
theorem mgS_fold {u u9 : zM} {p : Int} (h0 : 0 ≤ msn u) (e1 : mle u9 = mle u) (e2 : msn u9 = msn u + 1) (e3 : mP u9 = zup (mP u) (msn u) p) : mgS u9 = max p (mgS u - p) := by
  unfold mgS
  rw [e1, e2, e3, show (msn u + 1).toNat = (msn u).toNat + 1 by omega]
  have e4 : gS (mle u) (zup (mP u) (msn u) p) (msn u).toNat = gS (mle u) (mP u) (msn u).toNat := gS_c _ (fun i _ hi => zup_ne _ _ (by omega))
  show max (zup (mP u) (msn u) p ((msn u).toNat : Nat)) (gS (mle u) (zup (mP u) (msn u) p) (msn u).toNat - zup (mP u) (msn u) p ((msn u).toNat : Nat)) = _
  rw [e4, show (((msn u).toNat : Nat) : Int) = msn u by omega, zup_self]
theorem mgS_new {u : zM} (h : msn u = 0) : mgS u = mle u := by
  unfold mgS
  rw [h]
  rfl
theorem mgS_r {u : zM} (h : mdO u) : 1 ≤ mgS u ∧ mgS u ≤ 32 := by
  obtain ⟨f1, f2, -⟩ := strip_z h
  obtain ⟨-, g2, -⟩ := mdO_f h
  omega
theorem byt_set {a b : Int} (h0 : 0 ≤ a) (h1 : a < 256) : ∃ z : Int, iI a &&& iI b = iI z ∧ 0 ≤ z ∧ z < 256 := by
  obtain ⟨z, g0, g1, g2⟩ := byt_int (byt_and (byt_z h0 h1) : byt (iI a &&& iI b))
  exact ⟨z, g2, g0, g1⟩
theorem and_20 {a b : Int} (h0 : 0 ≤ a) (h1 : a < 1048576) : ∃ z : Int, iI a &&& iI b = iI z ∧ 0 ≤ z ∧ z ≤ 1048575 := by
  have e : iI a &&& iI 1048575 = iI a := by
    obtain ⟨n, rfl⟩ := Int.eq_ofNat_of_zero_le h0
    rw [iI_nat (by omega), show iI 1048575 = nI (2 ^ 20 - 1) from by decide]
    refine Int32.toBitVec_inj.mp ?_
    rw [Int32.toBitVec_and]
    show BitVec.ofNat 32 n &&& BitVec.ofNat 32 (2 ^ 20 - 1) = BitVec.ofNat 32 n
    refine BitVec.eq_of_toNat_eq ?_
    rw [BitVec.toNat_and, BitVec.toNat_ofNat, BitVec.toNat_ofNat, Nat.mod_eq_of_lt (show n < 2 ^ 32 by omega), Nat.mod_eq_of_lt (show 2 ^ 20 - 1 < 2 ^ 32 by decide), Nat.and_two_pow_sub_one_eq_mod, Nat.mod_eq_of_lt (by omega)]
  have e2 : iI a &&& iI b = (iI a &&& iI b) &&& iI 1048575 := by
    rw [Int32.and_assoc, Int32.and_comm (iI b), ← Int32.and_assoc, e]
  have h2 : ((iI a &&& iI b) &&& iI 1048575).toBitVec.toNat ≤ 1048575 := by
    rw [Int32.toBitVec_and, BitVec.toNat_and]
    refine Nat.le_trans Nat.and_le_right ?_
    decide
  rw [← e2] at h2
  refine ⟨(iI a &&& iI b).toBitVec.toNat, ?_, by omega, by omega⟩
  rw [iI_nat (by omega)]
  exact Int32.toBitVec_inj.mp (BitVec.eq_of_toNat_eq (by
    show _ = (BitVec.ofNat 32 (iI a &&& iI b).toBitVec.toNat).toNat
    rw [BitVec.ofNat_toNat, BitVec.setWidth_eq]))
set_option maxHeartbeats 2000000 in
set_option maxRecDepth 100000 in
theorem law_fold {E : zE} {Q : State → Prop} {l : Launch} (hl : l.stackTraces = false) {D : va_G} {cI cZ cM cL : ClassId} {b h ln n : Nat} {LN : Int → Int} {L tu kk i j kd p so : Int} {v : Int32} {G : va_W} {c9 s9 : Nat} (C : zC E cL_law RL wsL_law room_1) (hE : zOf E l D (zTy cI cZ cM cL)) (hLI : LI cI cZ cM h n L LN G) (hi : 0 ≤ i ∧ i < n) (hj : 0 ≤ j ∧ j < n) (hkd : 0 ≤ kd ∧ kd < 8) (hp0 : 0 ≤ p ∧ p < 6) (hc9 : c9 + 600 ≤ 600104) (hs9 : s9 + 8000 ≤ 7301314)
    (k : ∀ (L1 : Int) (G : va_W), LI cI cZ cM h n L1 LN G → zG E Q (c9 + 600) (s9 + 8000) ([(ln, ai cI 8 LN)] ++ G) [some (.ref b), some (.ref h), some (.ref ln), some (.int (iI ↑n)), some (.int (iI L1)), some (.int (iI 1)), some (.int (iI tu)), some (.int (iI kk)), some (.int v), some (.int (iI i)), some (.int (iI j)), some (.int (iI kd)), some (.int (iI p)), some (.int (iI so)), none, none, none] 774 []) : zG E Q c9 s9 ([(ln, ai cI 8 LN)] ++ G) [some (.ref b), some (.ref h), some (.ref ln), some (.int (iI ↑n)), some (.int (iI L)), some (.int (iI 1)), some (.int (iI tu)), some (.int (iI kk)), some (.int v), some (.int (iI i)), some (.int (iI j)), some (.int (iI kd)), some (.int (iI p)), some (.int (iI so)), none, none, none] 256 [] := by
  obtain ⟨ND, KN, US, μ, d, hG, hK, hLN⟩ := hLI
  have hn8 := hG.O.1
  have hO : mdO (μ i.toNat) := hG.O.2.1 i.toNat (by omega)
  have hS := mgS_r hO
  obtain ⟨-, -, g3, -, -, -⟩ := mdO_f hO
  have k307 : ∀ (G : va_W), GI cI cZ cM h n ND KN US μ L d G → ∀ lf : Int, (lf = 0 ∨ lf = 1) → ¬ mgS (μ i.toNat) = 1 → zG E Q (c9 + 20) (s9 + 100) ([(ln, ai cI 8 LN)] ++ G) [some (.ref b), some (.ref h), some (.ref ln), some (.int (iI ↑n)), some (.int (iI L)), some (.int (iI 1)), some (.int (iI tu)), some (.int (iI kk)), some (.int v), some (.int (iI i)), some (.int (iI j)), some (.int (iI kd)), some (.int (iI p)), some (.int (iI so)), some (.int (iI (mgS (μ i.toNat)))), none, none] 307 [.int (iI lf), .int (iI (1 + lo v (mgS (μ i.toNat) - 1))), .int (iI kd), .int (iI i), .ref h] := by
    intro G hG lf hlf h1
    have hlo := lo_r v (m := mgS (μ i.toNat) - 1) (by omega)
    refine z_callSH (n := 5) (As := [.ref h, .int (iI i), .int (iI kd), .int (iI (1 + lo v (mgS (μ i.toNat) - 1))), .int (iI lf)]) (st := []) (fr := [(ln, ai cI 8 LN)]) C hE (h_fold l hl D cL hG i kd (1 + lo v (mgS (μ i.toNat) - 1)) lf hi hkd ⟨by omega, by omega⟩ (by omega) hlf) gL_law_L_fold rfl ⟨rfl, rfl⟩ (by decide +kernel) ⟨Nat.le_of_ble_eq_true rfl, Nat.le_of_ble_eq_true rfl⟩ rfl rfl List.perm_append_comm (Nat.le_of_ble_eq_true rfl) ⟨by show c9 + 20 + 4 ≤ 600104; omega, by show s9 + 100 + 24 ≤ 7301314; omega⟩ dL_law_307 (fun r G hpo => ?_)
    rcases hpo with ⟨hc, rfl, u9, e1, e2, e3, e4, hG⟩ | ⟨hc, rfl, hG⟩
    · refine (show zG E Q (c9 + 20 + 4) (s9 + 100 + 24) (G ++ [(ln, ai cI 8 LN)]) [some (.ref b), some (.ref h), some (.ref ln), some (.int (iI ↑n)), some (.int (iI L)), some (.int (iI 1)), some (.int (iI tu)), some (.int (iI kk)), some (.int v), some (.int (iI i)), some (.int (iI j)), some (.int (iI kd)), some (.int (iI p)), some (.int (iI so)), some (.int (iI (mgS (μ i.toNat)))), none, none] 310 [.int (iI (max (1 + lo v (mgS (μ i.toNat) - 1)) (mgS (μ i.toNat) - (1 + lo v (mgS (μ i.toNat) - 1)))))] from ?_)
      refine z_perm (ws' := [(ln, ai cI 8 LN)] ++ G) List.perm_append_comm ?_
      refine z_istore (lv' := [some (.ref b), some (.ref h), some (.ref ln), some (.int (iI ↑n)), some (.int (iI L)), some (.int (iI 1)), some (.int (iI tu)), some (.int (iI kk)), some (.int v), some (.int (iI i)), some (.int (iI j)), some (.int (iI kd)), some (.int (iI p)), some (.int (iI so)), some (.int (iI (mgS (μ i.toNat)))), some (.int (iI (max (1 + lo v (mgS (μ i.toNat) - 1)) (mgS (μ i.toNat) - (1 + lo v (mgS (μ i.toNat) - 1)))))), none]) C dL_law_310 rfl rfl ?_
      refine z_iload C dL_law_312 rfl ?_
      refine z_iconst (v := iI 1) C dL_law_314 rfl ?_
      refine z_icmp_neI (tgt := 322) C dL_law_315 (by decide) ⟨by omega, by omega⟩ ⟨by omega, by omega⟩ (fun _ => ?_) (fun h => by exfalso; omega)
      refine z_iconst (v := iI 1) C dL_law_322 rfl ?_
      refine z_iload C dL_law_323 rfl ?_
      refine z_iload C dL_law_325 rfl ?_
      refine z_iconst (v := iI 1) C dL_law_327 rfl ?_
      refine z_isubI (v := (mgS (μ i.toNat)) - 1) C dL_law_328 (by omega) ?_
      refine z_callS (n := 2) (As := [.int v, .int (iI ((mgS (μ i.toNat)) - 1))]) (st := [.int (iI 1)]) (fr := ([(ln, ai cI 8 LN)] ++ G)) C hE (k_low l D cI cZ cM cL v (mgS (μ i.toNat) - 1) ⟨by omega, by omega⟩) gL_law_L_low rfl ⟨rfl, rfl⟩ (by decide +kernel) ⟨Nat.le_of_ble_eq_true rfl, Nat.le_of_ble_eq_true rfl⟩ rfl rfl (List.Perm.refl _) (Nat.le_of_ble_eq_true rfl) ⟨by show c9 + 20 + 4 + 0 ≤ 600104; omega, by show s9 + 100 + 24 + 0 ≤ 7301314; omega⟩ dL_law_329 (fun r w1 hpo => ?_)
      obtain ⟨rfl, rfl⟩ := hpo
      refine (show zG E Q (c9 + 20 + 4) (s9 + 100 + 24) ([(ln, ai cI 8 LN)] ++ G) [some (.ref b), some (.ref h), some (.ref ln), some (.int (iI ↑n)), some (.int (iI L)), some (.int (iI 1)), some (.int (iI tu)), some (.int (iI kk)), some (.int v), some (.int (iI i)), some (.int (iI j)), some (.int (iI kd)), some (.int (iI p)), some (.int (iI so)), some (.int (iI (mgS (μ i.toNat)))), some (.int (iI (max (1 + lo v (mgS (μ i.toNat) - 1)) (mgS (μ i.toNat) - (1 + lo v (mgS (μ i.toNat) - 1)))))), none] 332 [.int (iI (lo v (mgS (μ i.toNat) - 1))), .int (iI 1)] from ?_)
      refine z_iaddI (v := 1 + (lo v (mgS (μ i.toNat) - 1))) C dL_law_332 (by omega) ?_
      refine z_istore (lv' := [some (.ref b), some (.ref h), some (.ref ln), some (.int (iI ↑n)), some (.int (iI L)), some (.int (iI 1)), some (.int (iI tu)), some (.int (iI kk)), some (.int v), some (.int (iI i)), some (.int (iI j)), some (.int (iI kd)), some (.int (iI p)), some (.int (iI so)), some (.int (iI (mgS (μ i.toNat)))), some (.int (iI (max (1 + lo v (mgS (μ i.toNat) - 1)) (mgS (μ i.toNat) - (1 + lo v (mgS (μ i.toNat) - 1)))))), some (.int (iI (1 + (lo v (mgS (μ i.toNat) - 1)))))]) C dL_law_333 rfl rfl ?_
      refine z_iload C dL_law_335 rfl ?_
      refine z_bipush (v := iI (-3)) C dL_law_337 (by decide) ?_
      refine z_icmp_neI (tgt := 361) C dL_law_339 (by decide) ⟨by omega, by omega⟩ ⟨by omega, by omega⟩ (fun _ => ?_) (fun h => by exfalso; omega)
      refine z_iload C dL_law_361 rfl ?_
      refine z_iload C dL_law_363 rfl ?_
      refine z_iload C dL_law_365 rfl ?_
      refine z_iload C dL_law_367 rfl ?_
      refine z_isubI (v := (mgS (μ i.toNat)) - (1 + (lo v (mgS (μ i.toNat) - 1)))) C dL_law_369 (by omega) ?_
      refine z_icmp_leI (tgt := 378) C dL_law_370 (by decide) ⟨by omega, by omega⟩ ⟨by omega, by omega⟩ (fun hv370 => ?_) (fun hv370 => ?_)
      · refine z_iload C dL_law_378 rfl ?_
        refine z_iload C dL_law_380 rfl ?_
        refine z_isubI (v := (mgS (μ i.toNat)) - (1 + (lo v (mgS (μ i.toNat) - 1)))) C dL_law_382 (by omega) ?_
        refine z_icmp_neI (tgt := 416) C dL_law_383 (by decide) ⟨by omega, by omega⟩ ⟨by omega, by omega⟩ (fun h => by exfalso; omega) (fun _ => ?_)
        refine z_aload_n (i := 1) C dL_law_386 rfl rfl ?_
        refine z_iload C dL_law_387 rfl ?_
        obtain ⟨PH, hM, hp⟩ := c_places l hl D cL hG i ⟨by omega, by omega⟩
        obtain ⟨fs, hG0⟩ := hG.g0
        refine z_callVx (n := 1) (As := [.int (iI i)]) (st := []) (fr := [(ln, ai cI 8 LN)]) C hE hM gL_law_X4_places rfl ⟨rfl, rfl⟩ (by decide +kernel) ⟨Nat.le_of_ble_eq_true rfl, Nat.le_of_ble_eq_true rfl⟩ rfl rfl List.perm_append_comm 0 hG0 rfl rfl (Nat.le_of_ble_eq_true rfl) ⟨by show c9 + 20 + 4 + 2 ≤ 600104; omega, by show s9 + 100 + 24 + 12 ≤ 7301314; omega⟩ dL_law_389 (fun Ex hpx => absurd hpx (pX_no (cM1_ok hi))) (fun r G hpo => ?_)
        obtain ⟨rfl, hG⟩ := hp _ _ hpo
        rw [va_up_self, mgS_fold g3.1 e1 e2 e4]
        refine (show zG E Q (c9 + 20 + 4 + 2) (s9 + 100 + 24 + 12) (G ++ [(ln, ai cI 8 LN)]) [some (.ref b), some (.ref h), some (.ref ln), some (.int (iI ↑n)), some (.int (iI L)), some (.int (iI 1)), some (.int (iI tu)), some (.int (iI kk)), some (.int v), some (.int (iI i)), some (.int (iI j)), some (.int (iI kd)), some (.int (iI p)), some (.int (iI so)), some (.int (iI (mgS (μ i.toNat)))), some (.int (iI (max (1 + lo v (mgS (μ i.toNat) - 1)) (mgS (μ i.toNat) - (1 + lo v (mgS (μ i.toNat) - 1)))))), some (.int (iI (1 + (lo v (mgS (μ i.toNat) - 1)))))] 392 [.int (iI (max (1 + lo v (mgS (μ i.toNat) - 1)) (mgS (μ i.toNat) - (1 + lo v (mgS (μ i.toNat) - 1)))))] from ?_)
        refine z_perm (ws' := [(ln, ai cI 8 LN)] ++ G) List.perm_append_comm ?_
        refine z_iload C dL_law_392 rfl ?_
        refine z_icmp_neI (tgt := 416) C dL_law_394 (by decide) ⟨by omega, by omega⟩ ⟨by omega, by omega⟩ (fun h => by exfalso; omega) (fun _ => ?_)
        refine z_aload_n (i := 1) C dL_law_397 rfl rfl ?_
        refine z_iload C dL_law_398 rfl ?_
        obtain ⟨PH, hM, hp⟩ := c_kindsOf l hl D cL hG i ⟨by omega, by omega⟩
        obtain ⟨fs, hG0⟩ := hG.g0
        refine z_callVx (n := 1) (As := [.int (iI i)]) (st := []) (fr := [(ln, ai cI 8 LN)]) C hE hM gL_law_X4_kindsOf rfl ⟨rfl, rfl⟩ (by decide +kernel) ⟨Nat.le_of_ble_eq_true rfl, Nat.le_of_ble_eq_true rfl⟩ rfl rfl List.perm_append_comm 0 hG0 rfl rfl (Nat.le_of_ble_eq_true rfl) ⟨by show c9 + 20 + 4 + 2 + 17 ≤ 600104; omega, by show s9 + 100 + 24 + 12 + 102 ≤ 7301314; omega⟩ dL_law_400 (fun Ex hpx => absurd hpx (pX_no (cM1_ok hi))) (fun r G hpo => ?_)
        obtain ⟨rfl, hG⟩ := hp _ _ hpo
        refine (show zG E Q (c9 + 20 + 4 + 2 + 17) (s9 + 100 + 24 + 12 + 102) (G ++ [(ln, ai cI 8 LN)]) [some (.ref b), some (.ref h), some (.ref ln), some (.int (iI ↑n)), some (.int (iI L)), some (.int (iI 1)), some (.int (iI tu)), some (.int (iI kk)), some (.int v), some (.int (iI i)), some (.int (iI j)), some (.int (iI kd)), some (.int (iI p)), some (.int (iI so)), some (.int (iI (mgS (μ i.toNat)))), some (.int (iI (max (1 + lo v (mgS (μ i.toNat) - 1)) (mgS (μ i.toNat) - (1 + lo v (mgS (μ i.toNat) - 1)))))), some (.int (iI (1 + (lo v (mgS (μ i.toNat) - 1)))))] 403 [.int (kcB (va_up μ i.toNat u9) (mcB US i) n)] from ?_)
        refine z_perm (ws' := [(ln, ai cI 8 LN)] ++ G) List.perm_append_comm ?_
        refine z_iload C dL_law_403 rfl ?_
        refine z_ishr C dL_law_405 ?_
        refine z_iconst (v := iI 1) C dL_law_406 rfl ?_
        refine z_iand C dL_law_407 ?_
        refine z_top (y := iI 1) (kc_new hn8 hi hkd g3.1 (by rw [va_up_self]; exact e2) (by rw [va_up_self]; exact e3)) ?_
        refine z_iconst (v := iI 1) C dL_law_408 rfl ?_
        refine z_icmp_neI (tgt := 416) C dL_law_409 (by decide) ⟨by omega, by omega⟩ ⟨by omega, by omega⟩ (fun h => by exfalso; omega) (fun _ => ?_)
        refine z_iconst (v := iI 1) C dL_law_412 rfl ?_
        refine z_goto (tgt := 417) C dL_law_413 (by decide) ?_
        refine z_istore (lv' := [some (.ref b), some (.ref h), some (.ref ln), some (.int (iI ↑n)), some (.int (iI L)), some (.int (iI 1)), some (.int (iI tu)), some (.int (iI kk)), some (.int v), some (.int (iI i)), some (.int (iI j)), some (.int (iI kd)), some (.int (iI p)), some (.int (iI so)), some (.int (iI (mgS (μ i.toNat)))), some (.int (iI (max (1 + lo v (mgS (μ i.toNat) - 1)) (mgS (μ i.toNat) - (1 + lo v (mgS (μ i.toNat) - 1)))))), some (.int (iI (1 + (lo v (mgS (μ i.toNat) - 1)))))]) C dL_law_417 rfl rfl ?_
        refine z_goto (tgt := 774) C dL_law_419 (by decide) ?_
        refine z_le (r := [some (.ref b), some (.ref h), some (.ref ln), some (.int (iI ↑n)), some (.int (iI L)), some (.int (iI 1)), some (.int (iI tu)), some (.int (iI kk)), some (.int v), some (.int (iI i)), some (.int (iI j)), some (.int (iI kd)), some (.int (iI p)), some (.int (iI so)), none, none, none]) ⟨Or.inr rfl, Or.inr rfl, Or.inr rfl, Or.inr rfl, Or.inr rfl, Or.inr rfl, Or.inr rfl, Or.inr rfl, Or.inr rfl, Or.inr rfl, Or.inr rfl, Or.inr rfl, Or.inr rfl, Or.inr rfl, Or.inl rfl, Or.inl rfl, Or.inl rfl, trivial⟩ ?_
        exact z_widen (k := c9 + 600) (n := s9 + 8000) (by omega) (by omega) (k _ G ⟨ND, KN, US, va_up μ i.toNat u9, d, hG, hK, LN_up hLN e1⟩)
      · refine z_iload C dL_law_373 rfl ?_
        refine z_goto (tgt := 383) C dL_law_375 (by decide) ?_
        refine z_icmp_neI (tgt := 416) C dL_law_383 (by decide) ⟨by omega, by omega⟩ ⟨by omega, by omega⟩ (fun h => by exfalso; omega) (fun _ => ?_)
        refine z_aload_n (i := 1) C dL_law_386 rfl rfl ?_
        refine z_iload C dL_law_387 rfl ?_
        obtain ⟨PH, hM, hp⟩ := c_places l hl D cL hG i ⟨by omega, by omega⟩
        obtain ⟨fs, hG0⟩ := hG.g0
        refine z_callVx (n := 1) (As := [.int (iI i)]) (st := []) (fr := [(ln, ai cI 8 LN)]) C hE hM gL_law_X4_places rfl ⟨rfl, rfl⟩ (by decide +kernel) ⟨Nat.le_of_ble_eq_true rfl, Nat.le_of_ble_eq_true rfl⟩ rfl rfl List.perm_append_comm 0 hG0 rfl rfl (Nat.le_of_ble_eq_true rfl) ⟨by show c9 + 20 + 4 + 2 ≤ 600104; omega, by show s9 + 100 + 24 + 12 ≤ 7301314; omega⟩ dL_law_389 (fun Ex hpx => absurd hpx (pX_no (cM1_ok hi))) (fun r G hpo => ?_)
        obtain ⟨rfl, hG⟩ := hp _ _ hpo
        rw [va_up_self, mgS_fold g3.1 e1 e2 e4]
        refine (show zG E Q (c9 + 20 + 4 + 2) (s9 + 100 + 24 + 12) (G ++ [(ln, ai cI 8 LN)]) [some (.ref b), some (.ref h), some (.ref ln), some (.int (iI ↑n)), some (.int (iI L)), some (.int (iI 1)), some (.int (iI tu)), some (.int (iI kk)), some (.int v), some (.int (iI i)), some (.int (iI j)), some (.int (iI kd)), some (.int (iI p)), some (.int (iI so)), some (.int (iI (mgS (μ i.toNat)))), some (.int (iI (max (1 + lo v (mgS (μ i.toNat) - 1)) (mgS (μ i.toNat) - (1 + lo v (mgS (μ i.toNat) - 1)))))), some (.int (iI (1 + (lo v (mgS (μ i.toNat) - 1)))))] 392 [.int (iI (max (1 + lo v (mgS (μ i.toNat) - 1)) (mgS (μ i.toNat) - (1 + lo v (mgS (μ i.toNat) - 1)))))] from ?_)
        refine z_perm (ws' := [(ln, ai cI 8 LN)] ++ G) List.perm_append_comm ?_
        refine z_iload C dL_law_392 rfl ?_
        refine z_icmp_neI (tgt := 416) C dL_law_394 (by decide) ⟨by omega, by omega⟩ ⟨by omega, by omega⟩ (fun h => by exfalso; omega) (fun _ => ?_)
        refine z_aload_n (i := 1) C dL_law_397 rfl rfl ?_
        refine z_iload C dL_law_398 rfl ?_
        obtain ⟨PH, hM, hp⟩ := c_kindsOf l hl D cL hG i ⟨by omega, by omega⟩
        obtain ⟨fs, hG0⟩ := hG.g0
        refine z_callVx (n := 1) (As := [.int (iI i)]) (st := []) (fr := [(ln, ai cI 8 LN)]) C hE hM gL_law_X4_kindsOf rfl ⟨rfl, rfl⟩ (by decide +kernel) ⟨Nat.le_of_ble_eq_true rfl, Nat.le_of_ble_eq_true rfl⟩ rfl rfl List.perm_append_comm 0 hG0 rfl rfl (Nat.le_of_ble_eq_true rfl) ⟨by show c9 + 20 + 4 + 2 + 17 ≤ 600104; omega, by show s9 + 100 + 24 + 12 + 102 ≤ 7301314; omega⟩ dL_law_400 (fun Ex hpx => absurd hpx (pX_no (cM1_ok hi))) (fun r G hpo => ?_)
        obtain ⟨rfl, hG⟩ := hp _ _ hpo
        refine (show zG E Q (c9 + 20 + 4 + 2 + 17) (s9 + 100 + 24 + 12 + 102) (G ++ [(ln, ai cI 8 LN)]) [some (.ref b), some (.ref h), some (.ref ln), some (.int (iI ↑n)), some (.int (iI L)), some (.int (iI 1)), some (.int (iI tu)), some (.int (iI kk)), some (.int v), some (.int (iI i)), some (.int (iI j)), some (.int (iI kd)), some (.int (iI p)), some (.int (iI so)), some (.int (iI (mgS (μ i.toNat)))), some (.int (iI (max (1 + lo v (mgS (μ i.toNat) - 1)) (mgS (μ i.toNat) - (1 + lo v (mgS (μ i.toNat) - 1)))))), some (.int (iI (1 + (lo v (mgS (μ i.toNat) - 1)))))] 403 [.int (kcB (va_up μ i.toNat u9) (mcB US i) n)] from ?_)
        refine z_perm (ws' := [(ln, ai cI 8 LN)] ++ G) List.perm_append_comm ?_
        refine z_iload C dL_law_403 rfl ?_
        refine z_ishr C dL_law_405 ?_
        refine z_iconst (v := iI 1) C dL_law_406 rfl ?_
        refine z_iand C dL_law_407 ?_
        refine z_top (y := iI 1) (kc_new hn8 hi hkd g3.1 (by rw [va_up_self]; exact e2) (by rw [va_up_self]; exact e3)) ?_
        refine z_iconst (v := iI 1) C dL_law_408 rfl ?_
        refine z_icmp_neI (tgt := 416) C dL_law_409 (by decide) ⟨by omega, by omega⟩ ⟨by omega, by omega⟩ (fun h => by exfalso; omega) (fun _ => ?_)
        refine z_iconst (v := iI 1) C dL_law_412 rfl ?_
        refine z_goto (tgt := 417) C dL_law_413 (by decide) ?_
        refine z_istore (lv' := [some (.ref b), some (.ref h), some (.ref ln), some (.int (iI ↑n)), some (.int (iI L)), some (.int (iI 1)), some (.int (iI tu)), some (.int (iI kk)), some (.int v), some (.int (iI i)), some (.int (iI j)), some (.int (iI kd)), some (.int (iI p)), some (.int (iI so)), some (.int (iI (mgS (μ i.toNat)))), some (.int (iI (max (1 + lo v (mgS (μ i.toNat) - 1)) (mgS (μ i.toNat) - (1 + lo v (mgS (μ i.toNat) - 1)))))), some (.int (iI (1 + (lo v (mgS (μ i.toNat) - 1)))))]) C dL_law_417 rfl rfl ?_
        refine z_goto (tgt := 774) C dL_law_419 (by decide) ?_
        refine z_le (r := [some (.ref b), some (.ref h), some (.ref ln), some (.int (iI ↑n)), some (.int (iI L)), some (.int (iI 1)), some (.int (iI tu)), some (.int (iI kk)), some (.int v), some (.int (iI i)), some (.int (iI j)), some (.int (iI kd)), some (.int (iI p)), some (.int (iI so)), none, none, none]) ⟨Or.inr rfl, Or.inr rfl, Or.inr rfl, Or.inr rfl, Or.inr rfl, Or.inr rfl, Or.inr rfl, Or.inr rfl, Or.inr rfl, Or.inr rfl, Or.inr rfl, Or.inr rfl, Or.inr rfl, Or.inr rfl, Or.inl rfl, Or.inl rfl, Or.inl rfl, trivial⟩ ?_
        exact z_widen (k := c9 + 600) (n := s9 + 8000) (by omega) (by omega) (k _ G ⟨ND, KN, US, va_up μ i.toNat u9, d, hG, hK, LN_up hLN e1⟩)
    · refine (show zG E Q (c9 + 20 + 4) (s9 + 100 + 24) (G ++ [(ln, ai cI 8 LN)]) [some (.ref b), some (.ref h), some (.ref ln), some (.int (iI ↑n)), some (.int (iI L)), some (.int (iI 1)), some (.int (iI tu)), some (.int (iI kk)), some (.int v), some (.int (iI i)), some (.int (iI j)), some (.int (iI kd)), some (.int (iI p)), some (.int (iI so)), some (.int (iI (mgS (μ i.toNat)))), none, none] 310 [.int (iI (-3))] from ?_)
      refine z_perm (ws' := [(ln, ai cI 8 LN)] ++ G) List.perm_append_comm ?_
      refine z_istore (lv' := [some (.ref b), some (.ref h), some (.ref ln), some (.int (iI ↑n)), some (.int (iI L)), some (.int (iI 1)), some (.int (iI tu)), some (.int (iI kk)), some (.int v), some (.int (iI i)), some (.int (iI j)), some (.int (iI kd)), some (.int (iI p)), some (.int (iI so)), some (.int (iI (mgS (μ i.toNat)))), some (.int (iI (-3))), none]) C dL_law_310 rfl rfl ?_
      refine z_iload C dL_law_312 rfl ?_
      refine z_iconst (v := iI 1) C dL_law_314 rfl ?_
      refine z_icmp_neI (tgt := 322) C dL_law_315 (by decide) ⟨by omega, by omega⟩ ⟨by omega, by omega⟩ (fun _ => ?_) (fun h => by exfalso; omega)
      refine z_iconst (v := iI 1) C dL_law_322 rfl ?_
      refine z_iload C dL_law_323 rfl ?_
      refine z_iload C dL_law_325 rfl ?_
      refine z_iconst (v := iI 1) C dL_law_327 rfl ?_
      refine z_isubI (v := (mgS (μ i.toNat)) - 1) C dL_law_328 (by omega) ?_
      refine z_callS (n := 2) (As := [.int v, .int (iI ((mgS (μ i.toNat)) - 1))]) (st := [.int (iI 1)]) (fr := ([(ln, ai cI 8 LN)] ++ G)) C hE (k_low l D cI cZ cM cL v (mgS (μ i.toNat) - 1) ⟨by omega, by omega⟩) gL_law_L_low rfl ⟨rfl, rfl⟩ (by decide +kernel) ⟨Nat.le_of_ble_eq_true rfl, Nat.le_of_ble_eq_true rfl⟩ rfl rfl (List.Perm.refl _) (Nat.le_of_ble_eq_true rfl) ⟨by show c9 + 20 + 4 + 0 ≤ 600104; omega, by show s9 + 100 + 24 + 0 ≤ 7301314; omega⟩ dL_law_329 (fun r w1 hpo => ?_)
      obtain ⟨rfl, rfl⟩ := hpo
      refine (show zG E Q (c9 + 20 + 4) (s9 + 100 + 24) ([(ln, ai cI 8 LN)] ++ G) [some (.ref b), some (.ref h), some (.ref ln), some (.int (iI ↑n)), some (.int (iI L)), some (.int (iI 1)), some (.int (iI tu)), some (.int (iI kk)), some (.int v), some (.int (iI i)), some (.int (iI j)), some (.int (iI kd)), some (.int (iI p)), some (.int (iI so)), some (.int (iI (mgS (μ i.toNat)))), some (.int (iI (-3))), none] 332 [.int (iI (lo v (mgS (μ i.toNat) - 1))), .int (iI 1)] from ?_)
      refine z_iaddI (v := 1 + (lo v (mgS (μ i.toNat) - 1))) C dL_law_332 (by omega) ?_
      refine z_istore (lv' := [some (.ref b), some (.ref h), some (.ref ln), some (.int (iI ↑n)), some (.int (iI L)), some (.int (iI 1)), some (.int (iI tu)), some (.int (iI kk)), some (.int v), some (.int (iI i)), some (.int (iI j)), some (.int (iI kd)), some (.int (iI p)), some (.int (iI so)), some (.int (iI (mgS (μ i.toNat)))), some (.int (iI (-3))), some (.int (iI (1 + (lo v (mgS (μ i.toNat) - 1)))))]) C dL_law_333 rfl rfl ?_
      refine z_iload C dL_law_335 rfl ?_
      refine z_bipush (v := iI (-3)) C dL_law_337 (by decide) ?_
      refine z_icmp_neI (tgt := 361) C dL_law_339 (by decide) ⟨by omega, by omega⟩ ⟨by omega, by omega⟩ (fun h => by exfalso; omega) (fun _ => ?_)
      refine z_aload_n (i := 1) C dL_law_342 rfl rfl ?_
      refine z_iload C dL_law_343 rfl ?_
      obtain ⟨PH, hM, hp⟩ := c_places l hl D cL hG i ⟨by omega, by omega⟩
      obtain ⟨fs, hG0⟩ := hG.g0
      refine z_callVx (n := 1) (As := [.int (iI i)]) (st := []) (fr := [(ln, ai cI 8 LN)]) C hE hM gL_law_X4_places rfl ⟨rfl, rfl⟩ (by decide +kernel) ⟨Nat.le_of_ble_eq_true rfl, Nat.le_of_ble_eq_true rfl⟩ rfl rfl List.perm_append_comm 0 hG0 rfl rfl (Nat.le_of_ble_eq_true rfl) ⟨by show c9 + 20 + 4 + 2 ≤ 600104; omega, by show s9 + 100 + 24 + 12 ≤ 7301314; omega⟩ dL_law_345 (fun Ex hpx => absurd hpx (pX_no (cM1_ok hi))) (fun r G hpo => ?_)
      obtain ⟨rfl, hG⟩ := hp _ _ hpo
      refine (show zG E Q (c9 + 20 + 4 + 2) (s9 + 100 + 24 + 12) (G ++ [(ln, ai cI 8 LN)]) [some (.ref b), some (.ref h), some (.ref ln), some (.int (iI ↑n)), some (.int (iI L)), some (.int (iI 1)), some (.int (iI tu)), some (.int (iI kk)), some (.int v), some (.int (iI i)), some (.int (iI j)), some (.int (iI kd)), some (.int (iI p)), some (.int (iI so)), some (.int (iI (mgS (μ i.toNat)))), some (.int (iI (-3))), some (.int (iI (1 + (lo v (mgS (μ i.toNat) - 1)))))] 348 [.int (iI (mgS (μ i.toNat)))] from ?_)
      refine z_perm (ws' := [(ln, ai cI 8 LN)] ++ G) List.perm_append_comm ?_
      refine z_iload C dL_law_348 rfl ?_
      refine z_icmp_neI (tgt := 357) C dL_law_350 (by decide) ⟨by omega, by omega⟩ ⟨by omega, by omega⟩ (fun h => by exfalso; omega) (fun _ => ?_)
      refine z_iconst (v := iI 1) C dL_law_353 rfl ?_
      refine z_goto (tgt := 417) C dL_law_354 (by decide) ?_
      refine z_istore (lv' := [some (.ref b), some (.ref h), some (.ref ln), some (.int (iI ↑n)), some (.int (iI L)), some (.int (iI 1)), some (.int (iI tu)), some (.int (iI kk)), some (.int v), some (.int (iI i)), some (.int (iI j)), some (.int (iI kd)), some (.int (iI p)), some (.int (iI so)), some (.int (iI (mgS (μ i.toNat)))), some (.int (iI (-3))), some (.int (iI (1 + (lo v (mgS (μ i.toNat) - 1)))))]) C dL_law_417 rfl rfl ?_
      refine z_goto (tgt := 774) C dL_law_419 (by decide) ?_
      refine z_le (r := [some (.ref b), some (.ref h), some (.ref ln), some (.int (iI ↑n)), some (.int (iI L)), some (.int (iI 1)), some (.int (iI tu)), some (.int (iI kk)), some (.int v), some (.int (iI i)), some (.int (iI j)), some (.int (iI kd)), some (.int (iI p)), some (.int (iI so)), none, none, none]) ⟨Or.inr rfl, Or.inr rfl, Or.inr rfl, Or.inr rfl, Or.inr rfl, Or.inr rfl, Or.inr rfl, Or.inr rfl, Or.inr rfl, Or.inr rfl, Or.inr rfl, Or.inr rfl, Or.inr rfl, Or.inr rfl, Or.inl rfl, Or.inl rfl, Or.inl rfl, trivial⟩ ?_
      exact z_widen (k := c9 + 600) (n := s9 + 8000) (by omega) (by omega) (k _ G ⟨ND, KN, US, μ, d, hG, hK, hLN⟩)
  refine z_aload_n (i := 1) C dL_law_256 rfl rfl ?_
  refine z_iload C dL_law_257 rfl ?_
  obtain ⟨PH, hM, hp⟩ := c_places l hl D cL hG i ⟨by omega, by omega⟩
  obtain ⟨fs, hG0⟩ := hG.g0
  refine z_callVx (n := 1) (As := [.int (iI i)]) (st := []) (fr := [(ln, ai cI 8 LN)]) C hE hM gL_law_X4_places rfl ⟨rfl, rfl⟩ (by decide +kernel) ⟨Nat.le_of_ble_eq_true rfl, Nat.le_of_ble_eq_true rfl⟩ rfl rfl List.perm_append_comm 0 hG0 rfl rfl (Nat.le_of_ble_eq_true rfl) ⟨by show c9 + 2 ≤ 600104; omega, by show s9 + 12 ≤ 7301314; omega⟩ dL_law_259 (fun Ex hpx => absurd hpx (pX_no (cM1_ok hi))) (fun r G hpo => ?_)
  obtain ⟨rfl, hG⟩ := hp _ _ hpo
  refine (show zG E Q (c9 + 2) (s9 + 12) (G ++ [(ln, ai cI 8 LN)]) [some (.ref b), some (.ref h), some (.ref ln), some (.int (iI ↑n)), some (.int (iI L)), some (.int (iI 1)), some (.int (iI tu)), some (.int (iI kk)), some (.int v), some (.int (iI i)), some (.int (iI j)), some (.int (iI kd)), some (.int (iI p)), some (.int (iI so)), none, none, none] 262 [.int (iI (mgS (μ i.toNat)))] from ?_)
  refine z_perm (ws' := [(ln, ai cI 8 LN)] ++ G) List.perm_append_comm ?_
  refine z_istore (lv' := [some (.ref b), some (.ref h), some (.ref ln), some (.int (iI ↑n)), some (.int (iI L)), some (.int (iI 1)), some (.int (iI tu)), some (.int (iI kk)), some (.int v), some (.int (iI i)), some (.int (iI j)), some (.int (iI kd)), some (.int (iI p)), some (.int (iI so)), some (.int (iI (mgS (μ i.toNat)))), none, none]) C dL_law_262 rfl rfl ?_
  refine z_iload C dL_law_264 rfl ?_
  refine z_iconst (v := iI 1) C dL_law_266 rfl ?_
  refine z_icmp_neI (tgt := 275) C dL_law_267 (by decide) ⟨by omega, by omega⟩ ⟨by omega, by omega⟩ (fun h1 => ?_) (fun h1 => ?_)
  · have hlo := lo_r v (m := mgS (μ i.toNat) - 1) (by omega)
    have hlo2 := lo_r (v >>> (iI 2 &&& 31)) (m := 2) (by omega)
    refine z_aload_n (i := 1) C dL_law_275 rfl rfl ?_
    refine z_iload C dL_law_276 rfl ?_
    refine z_iload C dL_law_278 rfl ?_
    refine z_iconst (v := iI 1) C dL_law_280 rfl ?_
    refine z_iload C dL_law_281 rfl ?_
    refine z_iload C dL_law_283 rfl ?_
    refine z_iconst (v := iI 1) C dL_law_285 rfl ?_
    refine z_isubI (v := (mgS (μ i.toNat)) - 1) C dL_law_286 (by omega) ?_
    refine z_callS (n := 2) (As := [.int v, .int (iI ((mgS (μ i.toNat)) - 1))]) (st := [.int (iI 1), .int (iI kd), .int (iI i), .ref h]) (fr := ([(ln, ai cI 8 LN)] ++ G)) C hE (k_low l D cI cZ cM cL v (mgS (μ i.toNat) - 1) ⟨by omega, by omega⟩) gL_law_L_low rfl ⟨rfl, rfl⟩ (by decide +kernel) ⟨Nat.le_of_ble_eq_true rfl, Nat.le_of_ble_eq_true rfl⟩ rfl rfl (List.Perm.refl _) (Nat.le_of_ble_eq_true rfl) ⟨by show c9 + 2 + 0 ≤ 600104; omega, by show s9 + 12 + 0 ≤ 7301314; omega⟩ dL_law_287 (fun r w1 hpo => ?_)
    obtain ⟨rfl, rfl⟩ := hpo
    refine (show zG E Q (c9 + 2) (s9 + 12) ([(ln, ai cI 8 LN)] ++ G) [some (.ref b), some (.ref h), some (.ref ln), some (.int (iI ↑n)), some (.int (iI L)), some (.int (iI 1)), some (.int (iI tu)), some (.int (iI kk)), some (.int v), some (.int (iI i)), some (.int (iI j)), some (.int (iI kd)), some (.int (iI p)), some (.int (iI so)), some (.int (iI (mgS (μ i.toNat)))), none, none] 290 [.int (iI (lo v (mgS (μ i.toNat) - 1))), .int (iI 1), .int (iI kd), .int (iI i), .ref h] from ?_)
    refine z_iaddI (v := 1 + (lo v (mgS (μ i.toNat) - 1))) C dL_law_290 (by omega) ?_
    refine z_iload C dL_law_291 rfl ?_
    refine z_iconst (v := iI 2) C dL_law_293 rfl ?_
    refine z_ishr C dL_law_294 ?_
    refine z_iconst (v := iI 2) C dL_law_295 rfl ?_
    refine z_callS (n := 2) (As := [.int (v >>> ((iI 2) &&& 31)), .int (iI 2)]) (st := [.int (iI (1 + (lo v (mgS (μ i.toNat) - 1)))), .int (iI kd), .int (iI i), .ref h]) (fr := ([(ln, ai cI 8 LN)] ++ G)) C hE (k_low l D cI cZ cM cL (v >>> (iI 2 &&& 31)) (2) ⟨by omega, by omega⟩) gL_law_L_low rfl ⟨rfl, rfl⟩ (by decide +kernel) ⟨Nat.le_of_ble_eq_true rfl, Nat.le_of_ble_eq_true rfl⟩ rfl rfl (List.Perm.refl _) (Nat.le_of_ble_eq_true rfl) ⟨by show c9 + 2 + 0 ≤ 600104; omega, by show s9 + 12 + 0 ≤ 7301314; omega⟩ dL_law_296 (fun r w1 hpo => ?_)
    obtain ⟨rfl, rfl⟩ := hpo
    refine (show zG E Q (c9 + 2) (s9 + 12) ([(ln, ai cI 8 LN)] ++ G) [some (.ref b), some (.ref h), some (.ref ln), some (.int (iI ↑n)), some (.int (iI L)), some (.int (iI 1)), some (.int (iI tu)), some (.int (iI kk)), some (.int v), some (.int (iI i)), some (.int (iI j)), some (.int (iI kd)), some (.int (iI p)), some (.int (iI so)), some (.int (iI (mgS (μ i.toNat)))), none, none] 299 [.int (iI (lo (v >>> (iI 2 &&& 31)) (2))), .int (iI (1 + (lo v (mgS (μ i.toNat) - 1)))), .int (iI kd), .int (iI i), .ref h] from ?_)
    refine z_if_neI (tgt := 306) C dL_law_299 (by decide) ⟨by omega, by omega⟩ (fun hlf => ?_) (fun hlf => ?_)
    · refine z_iconst (v := iI 0) C dL_law_306 rfl ?_
      exact z_widen (k := c9 + 20) (n := s9 + 100) (by omega) (by omega) (k307 G hG 0 (by omega) (by omega))
    · refine z_iconst (v := iI 1) C dL_law_302 rfl ?_
      refine z_goto (tgt := 307) C dL_law_303 (by decide) ?_
      exact z_widen (k := c9 + 20) (n := s9 + 100) (by omega) (by omega) (k307 G hG 1 (by omega) (by omega))
  · refine z_bipush (v := iI (-3)) C dL_law_270 (by decide) ?_
    refine z_goto (tgt := 310) C dL_law_272 (by decide) ?_
    refine z_istore (lv' := [some (.ref b), some (.ref h), some (.ref ln), some (.int (iI ↑n)), some (.int (iI L)), some (.int (iI 1)), some (.int (iI tu)), some (.int (iI kk)), some (.int v), some (.int (iI i)), some (.int (iI j)), some (.int (iI kd)), some (.int (iI p)), some (.int (iI so)), some (.int (iI (mgS (μ i.toNat)))), some (.int (iI (-3))), none]) C dL_law_310 rfl rfl ?_
    refine z_iload C dL_law_312 rfl ?_
    refine z_iconst (v := iI 1) C dL_law_314 rfl ?_
    refine z_icmp_neI (tgt := 322) C dL_law_315 (by decide) ⟨by omega, by omega⟩ ⟨by omega, by omega⟩ (fun h => by exfalso; omega) (fun _ => ?_)
    refine z_iconst (v := iI 0) C dL_law_318 rfl ?_
    refine z_goto (tgt := 333) C dL_law_319 (by decide) ?_
    refine z_istore (lv' := [some (.ref b), some (.ref h), some (.ref ln), some (.int (iI ↑n)), some (.int (iI L)), some (.int (iI 1)), some (.int (iI tu)), some (.int (iI kk)), some (.int v), some (.int (iI i)), some (.int (iI j)), some (.int (iI kd)), some (.int (iI p)), some (.int (iI so)), some (.int (iI (mgS (μ i.toNat)))), some (.int (iI (-3))), some (.int (iI 0))]) C dL_law_333 rfl rfl ?_
    refine z_iload C dL_law_335 rfl ?_
    refine z_bipush (v := iI (-3)) C dL_law_337 (by decide) ?_
    refine z_icmp_neI (tgt := 361) C dL_law_339 (by decide) ⟨by omega, by omega⟩ ⟨by omega, by omega⟩ (fun h => by exfalso; omega) (fun _ => ?_)
    refine z_aload_n (i := 1) C dL_law_342 rfl rfl ?_
    refine z_iload C dL_law_343 rfl ?_
    obtain ⟨PH, hM, hp⟩ := c_places l hl D cL hG i ⟨by omega, by omega⟩
    obtain ⟨fs, hG0⟩ := hG.g0
    refine z_callVx (n := 1) (As := [.int (iI i)]) (st := []) (fr := [(ln, ai cI 8 LN)]) C hE hM gL_law_X4_places rfl ⟨rfl, rfl⟩ (by decide +kernel) ⟨Nat.le_of_ble_eq_true rfl, Nat.le_of_ble_eq_true rfl⟩ rfl rfl List.perm_append_comm 0 hG0 rfl rfl (Nat.le_of_ble_eq_true rfl) ⟨by show c9 + 2 + 2 ≤ 600104; omega, by show s9 + 12 + 12 ≤ 7301314; omega⟩ dL_law_345 (fun Ex hpx => absurd hpx (pX_no (cM1_ok hi))) (fun r G hpo => ?_)
    obtain ⟨rfl, hG⟩ := hp _ _ hpo
    refine (show zG E Q (c9 + 2 + 2) (s9 + 12 + 12) (G ++ [(ln, ai cI 8 LN)]) [some (.ref b), some (.ref h), some (.ref ln), some (.int (iI ↑n)), some (.int (iI L)), some (.int (iI 1)), some (.int (iI tu)), some (.int (iI kk)), some (.int v), some (.int (iI i)), some (.int (iI j)), some (.int (iI kd)), some (.int (iI p)), some (.int (iI so)), some (.int (iI (mgS (μ i.toNat)))), some (.int (iI (-3))), some (.int (iI 0))] 348 [.int (iI (mgS (μ i.toNat)))] from ?_)
    refine z_perm (ws' := [(ln, ai cI 8 LN)] ++ G) List.perm_append_comm ?_
    refine z_iload C dL_law_348 rfl ?_
    refine z_icmp_neI (tgt := 357) C dL_law_350 (by decide) ⟨by omega, by omega⟩ ⟨by omega, by omega⟩ (fun h => by exfalso; omega) (fun _ => ?_)
    refine z_iconst (v := iI 1) C dL_law_353 rfl ?_
    refine z_goto (tgt := 417) C dL_law_354 (by decide) ?_
    refine z_istore (lv' := [some (.ref b), some (.ref h), some (.ref ln), some (.int (iI ↑n)), some (.int (iI L)), some (.int (iI 1)), some (.int (iI tu)), some (.int (iI kk)), some (.int v), some (.int (iI i)), some (.int (iI j)), some (.int (iI kd)), some (.int (iI p)), some (.int (iI so)), some (.int (iI (mgS (μ i.toNat)))), some (.int (iI (-3))), some (.int (iI 0))]) C dL_law_417 rfl rfl ?_
    refine z_goto (tgt := 774) C dL_law_419 (by decide) ?_
    refine z_le (r := [some (.ref b), some (.ref h), some (.ref ln), some (.int (iI ↑n)), some (.int (iI L)), some (.int (iI 1)), some (.int (iI tu)), some (.int (iI kk)), some (.int v), some (.int (iI i)), some (.int (iI j)), some (.int (iI kd)), some (.int (iI p)), some (.int (iI so)), none, none, none]) ⟨Or.inr rfl, Or.inr rfl, Or.inr rfl, Or.inr rfl, Or.inr rfl, Or.inr rfl, Or.inr rfl, Or.inr rfl, Or.inr rfl, Or.inr rfl, Or.inr rfl, Or.inr rfl, Or.inr rfl, Or.inr rfl, Or.inl rfl, Or.inl rfl, Or.inl rfl, trivial⟩ ?_
    exact z_widen (k := c9 + 600) (n := s9 + 8000) (by omega) (by omega) (k _ G ⟨ND, KN, US, μ, d, hG, hK, hLN⟩)
set_option maxHeartbeats 2000000 in
set_option maxRecDepth 100000 in
theorem law_unfold {E : zE} {Q : State → Prop} {l : Launch} (hl : l.stackTraces = false) {D : va_G} {cI cZ cM cL : ClassId} {b h ln n : Nat} {LN : Int → Int} {L tu kk i j kd p so : Int} {v : Int32} {G : va_W} {c9 s9 : Nat} (C : zC E cL_law RL wsL_law room_1) (hE : zOf E l D (zTy cI cZ cM cL)) (hLI : LI cI cZ cM h n L LN G) (hi : 0 ≤ i ∧ i < n) (hj : 0 ≤ j ∧ j < n) (hkd : 0 ≤ kd ∧ kd < 8) (hp0 : 0 ≤ p ∧ p < 6) (hc9 : c9 + 600 ≤ 600104) (hs9 : s9 + 8000 ≤ 7301314)
    (k : ∀ (L1 : Int) (G : va_W), LI cI cZ cM h n L1 LN G → zG E Q (c9 + 600) (s9 + 8000) ([(ln, ai cI 8 LN)] ++ G) [some (.ref b), some (.ref h), some (.ref ln), some (.int (iI ↑n)), some (.int (iI L1)), some (.int (iI 1)), some (.int (iI tu)), some (.int (iI kk)), some (.int v), some (.int (iI i)), some (.int (iI j)), some (.int (iI kd)), some (.int (iI p)), some (.int (iI so)), none, none, none] 774 []) : zG E Q c9 s9 ([(ln, ai cI 8 LN)] ++ G) [some (.ref b), some (.ref h), some (.ref ln), some (.int (iI ↑n)), some (.int (iI L)), some (.int (iI 1)), some (.int (iI tu)), some (.int (iI kk)), some (.int v), some (.int (iI i)), some (.int (iI j)), some (.int (iI kd)), some (.int (iI p)), some (.int (iI so)), none, none, none] 429 [] := by
  obtain ⟨ND, KN, US, μ, d, hG, hK, hLN⟩ := hLI
  have hn8 := hG.O.1
  have hO : mdO (μ i.toNat) := hG.O.2.1 i.toNat (by omega)
  obtain ⟨-, -, g3, -, -, -⟩ := mdO_f hO
  refine z_aload_n (i := 1) C dL_law_429 rfl rfl ?_
  refine z_iload C dL_law_430 rfl ?_
  obtain ⟨PH, hM, hp⟩ := c_steps l hl D cL hG i ⟨by omega, by omega⟩
  obtain ⟨fs, hG0⟩ := hG.g0
  refine z_callVx (n := 1) (As := [.int (iI i)]) (st := []) (fr := [(ln, ai cI 8 LN)]) C hE hM gL_law_X4_steps rfl ⟨rfl, rfl⟩ (by decide +kernel) ⟨Nat.le_of_ble_eq_true rfl, Nat.le_of_ble_eq_true rfl⟩ rfl rfl List.perm_append_comm 0 hG0 rfl rfl (Nat.le_of_ble_eq_true rfl) ⟨by show c9 + 2 ≤ 600104; omega, by show s9 + 12 ≤ 7301314; omega⟩ dL_law_432 (fun Ex hpx => absurd hpx (pX_no (cM1_ok hi))) (fun r G hpo => ?_)
  obtain ⟨rfl, hG⟩ := hp _ _ hpo
  refine (show zG E Q (c9 + 2) (s9 + 12) (G ++ [(ln, ai cI 8 LN)]) [some (.ref b), some (.ref h), some (.ref ln), some (.int (iI ↑n)), some (.int (iI L)), some (.int (iI 1)), some (.int (iI tu)), some (.int (iI kk)), some (.int v), some (.int (iI i)), some (.int (iI j)), some (.int (iI kd)), some (.int (iI p)), some (.int (iI so)), none, none, none] 435 [.int (iI (msn (μ i.toNat)))] from ?_)
  refine z_perm (ws' := [(ln, ai cI 8 LN)] ++ G) List.perm_append_comm ?_
  refine z_istore (lv' := [some (.ref b), some (.ref h), some (.ref ln), some (.int (iI ↑n)), some (.int (iI L)), some (.int (iI 1)), some (.int (iI tu)), some (.int (iI kk)), some (.int v), some (.int (iI i)), some (.int (iI j)), some (.int (iI kd)), some (.int (iI p)), some (.int (iI so)), some (.int (iI (msn (μ i.toNat)))), none, none]) C dL_law_435 rfl rfl ?_
  refine z_aload_n (i := 1) C dL_law_437 rfl rfl ?_
  refine z_iload C dL_law_438 rfl ?_
  refine z_callSH (n := 2) (As := [.ref h, .int (iI i)]) (st := []) (fr := [(ln, ai cI 8 LN)]) C hE (h_unfold l hl D cL hG i hi) gL_law_L_unfold rfl ⟨rfl, rfl⟩ (by decide +kernel) ⟨Nat.le_of_ble_eq_true rfl, Nat.le_of_ble_eq_true rfl⟩ rfl rfl List.perm_append_comm (Nat.le_of_ble_eq_true rfl) ⟨by show c9 + 2 + 3 ≤ 600104; omega, by show s9 + 12 + 18 ≤ 7301314; omega⟩ dL_law_440 (fun r G hpo => ?_)
  rcases hpo with ⟨hc, ⟨k9, rfl, k0, k1⟩, u9, e1, e2, hG⟩ | ⟨hc, rfl, hG⟩
  · refine (show zG E Q (c9 + 2 + 3) (s9 + 12 + 18) (G ++ [(ln, ai cI 8 LN)]) [some (.ref b), some (.ref h), some (.ref ln), some (.int (iI ↑n)), some (.int (iI L)), some (.int (iI 1)), some (.int (iI tu)), some (.int (iI kk)), some (.int v), some (.int (iI i)), some (.int (iI j)), some (.int (iI kd)), some (.int (iI p)), some (.int (iI so)), some (.int (iI (msn (μ i.toNat)))), none, none] 443 [.int (iI k9)] from ?_)
    refine z_perm (ws' := [(ln, ai cI 8 LN)] ++ G) List.perm_append_comm ?_
    refine z_istore (lv' := [some (.ref b), some (.ref h), some (.ref ln), some (.int (iI ↑n)), some (.int (iI L)), some (.int (iI 1)), some (.int (iI tu)), some (.int (iI kk)), some (.int v), some (.int (iI i)), some (.int (iI j)), some (.int (iI kd)), some (.int (iI p)), some (.int (iI so)), some (.int (iI (msn (μ i.toNat)))), some (.int (iI k9)), none]) C dL_law_443 rfl rfl ?_
    refine z_iload C dL_law_445 rfl ?_
    refine z_bipush (v := iI (-3)) C dL_law_447 (by decide) ?_
    refine z_icmp_neI (tgt := 465) C dL_law_449 (by decide) ⟨by omega, by omega⟩ ⟨by omega, by omega⟩ (fun _ => ?_) (fun h => by exfalso; omega)
    refine z_aload_n (i := 1) C dL_law_465 rfl rfl ?_
    refine z_iload C dL_law_466 rfl ?_
    obtain ⟨PH, hM, hp⟩ := c_steps l hl D cL hG i ⟨by omega, by omega⟩
    obtain ⟨fs, hG0⟩ := hG.g0
    refine z_callVx (n := 1) (As := [.int (iI i)]) (st := []) (fr := [(ln, ai cI 8 LN)]) C hE hM gL_law_X4_steps rfl ⟨rfl, rfl⟩ (by decide +kernel) ⟨Nat.le_of_ble_eq_true rfl, Nat.le_of_ble_eq_true rfl⟩ rfl rfl List.perm_append_comm 0 hG0 rfl rfl (Nat.le_of_ble_eq_true rfl) ⟨by show c9 + 2 + 3 + 2 ≤ 600104; omega, by show s9 + 12 + 18 + 12 ≤ 7301314; omega⟩ dL_law_468 (fun Ex hpx => absurd hpx (pX_no (cM1_ok hi))) (fun r G hpo => ?_)
    obtain ⟨rfl, hG⟩ := hp _ _ hpo
    rw [va_up_self, e2]
    refine (show zG E Q (c9 + 2 + 3 + 2) (s9 + 12 + 18 + 12) (G ++ [(ln, ai cI 8 LN)]) [some (.ref b), some (.ref h), some (.ref ln), some (.int (iI ↑n)), some (.int (iI L)), some (.int (iI 1)), some (.int (iI tu)), some (.int (iI kk)), some (.int v), some (.int (iI i)), some (.int (iI j)), some (.int (iI kd)), some (.int (iI p)), some (.int (iI so)), some (.int (iI (msn (μ i.toNat)))), some (.int (iI k9)), none] 471 [.int (iI (msn (μ i.toNat) - 1))] from ?_)
    refine z_perm (ws' := [(ln, ai cI 8 LN)] ++ G) List.perm_append_comm ?_
    refine z_iload C dL_law_471 rfl ?_
    refine z_iconst (v := iI 1) C dL_law_473 rfl ?_
    refine z_isubI (v := (msn (μ i.toNat)) - 1) C dL_law_474 (by omega) ?_
    refine z_icmp_neI (tgt := 482) C dL_law_475 (by decide) ⟨by omega, by omega⟩ ⟨by omega, by omega⟩ (fun h => by exfalso; omega) (fun _ => ?_)
    refine z_iconst (v := iI 1) C dL_law_478 rfl ?_
    refine z_goto (tgt := 483) C dL_law_479 (by decide) ?_
    refine z_istore (lv' := [some (.ref b), some (.ref h), some (.ref ln), some (.int (iI ↑n)), some (.int (iI L)), some (.int (iI 1)), some (.int (iI tu)), some (.int (iI kk)), some (.int v), some (.int (iI i)), some (.int (iI j)), some (.int (iI kd)), some (.int (iI p)), some (.int (iI so)), some (.int (iI (msn (μ i.toNat)))), some (.int (iI k9)), none]) C dL_law_483 rfl rfl ?_
    refine z_goto (tgt := 774) C dL_law_485 (by decide) ?_
    refine z_le (r := [some (.ref b), some (.ref h), some (.ref ln), some (.int (iI ↑n)), some (.int (iI L)), some (.int (iI 1)), some (.int (iI tu)), some (.int (iI kk)), some (.int v), some (.int (iI i)), some (.int (iI j)), some (.int (iI kd)), some (.int (iI p)), some (.int (iI so)), none, none, none]) ⟨Or.inr rfl, Or.inr rfl, Or.inr rfl, Or.inr rfl, Or.inr rfl, Or.inr rfl, Or.inr rfl, Or.inr rfl, Or.inr rfl, Or.inr rfl, Or.inr rfl, Or.inr rfl, Or.inr rfl, Or.inr rfl, Or.inl rfl, Or.inl rfl, Or.inr rfl, trivial⟩ ?_
    exact z_widen (k := c9 + 600) (n := s9 + 8000) (by omega) (by omega) (k _ G ⟨ND, KN, US, va_up μ i.toNat u9, d, hG, hK, LN_up hLN e1⟩)
  · refine (show zG E Q (c9 + 2 + 3) (s9 + 12 + 18) (G ++ [(ln, ai cI 8 LN)]) [some (.ref b), some (.ref h), some (.ref ln), some (.int (iI ↑n)), some (.int (iI L)), some (.int (iI 1)), some (.int (iI tu)), some (.int (iI kk)), some (.int v), some (.int (iI i)), some (.int (iI j)), some (.int (iI kd)), some (.int (iI p)), some (.int (iI so)), some (.int (iI (msn (μ i.toNat)))), none, none] 443 [.int (iI (-3))] from ?_)
    refine z_perm (ws' := [(ln, ai cI 8 LN)] ++ G) List.perm_append_comm ?_
    have hs : msn (μ i.toNat) = 0 := by rcases cUN_r (u := (μ i.toNat)) hi with h9 | h9 <;> omega
    refine z_istore (lv' := [some (.ref b), some (.ref h), some (.ref ln), some (.int (iI ↑n)), some (.int (iI L)), some (.int (iI 1)), some (.int (iI tu)), some (.int (iI kk)), some (.int v), some (.int (iI i)), some (.int (iI j)), some (.int (iI kd)), some (.int (iI p)), some (.int (iI so)), some (.int (iI (msn (μ i.toNat)))), some (.int (iI (-3))), none]) C dL_law_443 rfl rfl ?_
    refine z_iload C dL_law_445 rfl ?_
    refine z_bipush (v := iI (-3)) C dL_law_447 (by decide) ?_
    refine z_icmp_neI (tgt := 465) C dL_law_449 (by decide) ⟨by omega, by omega⟩ ⟨by omega, by omega⟩ (fun h => by exfalso; omega) (fun _ => ?_)
    refine z_iload C dL_law_452 rfl ?_
    refine z_if_neI (tgt := 461) C dL_law_454 (by decide) ⟨by omega, by omega⟩ (fun h => by exfalso; omega) (fun _ => ?_)
    refine z_iconst (v := iI 1) C dL_law_457 rfl ?_
    refine z_goto (tgt := 483) C dL_law_458 (by decide) ?_
    refine z_istore (lv' := [some (.ref b), some (.ref h), some (.ref ln), some (.int (iI ↑n)), some (.int (iI L)), some (.int (iI 1)), some (.int (iI tu)), some (.int (iI kk)), some (.int v), some (.int (iI i)), some (.int (iI j)), some (.int (iI kd)), some (.int (iI p)), some (.int (iI so)), some (.int (iI (msn (μ i.toNat)))), some (.int (iI (-3))), none]) C dL_law_483 rfl rfl ?_
    refine z_goto (tgt := 774) C dL_law_485 (by decide) ?_
    refine z_le (r := [some (.ref b), some (.ref h), some (.ref ln), some (.int (iI ↑n)), some (.int (iI L)), some (.int (iI 1)), some (.int (iI tu)), some (.int (iI kk)), some (.int v), some (.int (iI i)), some (.int (iI j)), some (.int (iI kd)), some (.int (iI p)), some (.int (iI so)), none, none, none]) ⟨Or.inr rfl, Or.inr rfl, Or.inr rfl, Or.inr rfl, Or.inr rfl, Or.inr rfl, Or.inr rfl, Or.inr rfl, Or.inr rfl, Or.inr rfl, Or.inr rfl, Or.inr rfl, Or.inr rfl, Or.inr rfl, Or.inl rfl, Or.inl rfl, Or.inr rfl, trivial⟩ ?_
    exact z_widen (k := c9 + 600) (n := s9 + 8000) (by omega) (by omega) (k _ G ⟨ND, KN, US, μ, d, hG, hK, hLN⟩)
set_option maxHeartbeats 2000000 in
set_option maxRecDepth 100000 in
theorem law_needs {E : zE} {Q : State → Prop} {l : Launch} (hl : l.stackTraces = false) {D : va_G} {cI cZ cM cL : ClassId} {b h ln n : Nat} {LN : Int → Int} {L tu kk i j kd p so : Int} {v : Int32} {G : va_W} {c9 s9 : Nat} (C : zC E cL_law RL wsL_law room_1) (hE : zOf E l D (zTy cI cZ cM cL)) (hLI : LI cI cZ cM h n L LN G) (hi : 0 ≤ i ∧ i < n) (hj : 0 ≤ j ∧ j < n) (hkd : 0 ≤ kd ∧ kd < 8) (hp0 : 0 ≤ p ∧ p < 6) (hc9 : c9 + 600 ≤ 600104) (hs9 : s9 + 8000 ≤ 7301314)
    (k : ∀ (L1 : Int) (G : va_W), LI cI cZ cM h n L1 LN G → zG E Q (c9 + 600) (s9 + 8000) ([(ln, ai cI 8 LN)] ++ G) [some (.ref b), some (.ref h), some (.ref ln), some (.int (iI ↑n)), some (.int (iI L1)), some (.int (iI 1)), some (.int (iI tu)), some (.int (iI kk)), some (.int v), some (.int (iI i)), some (.int (iI j)), some (.int (iI kd)), some (.int (iI p)), some (.int (iI so)), none, none, none] 774 []) : zG E Q c9 s9 ([(ln, ai cI 8 LN)] ++ G) [some (.ref b), some (.ref h), some (.ref ln), some (.int (iI ↑n)), some (.int (iI L)), some (.int (iI 1)), some (.int (iI tu)), some (.int (iI kk)), some (.int v), some (.int (iI i)), some (.int (iI j)), some (.int (iI kd)), some (.int (iI p)), some (.int (iI so)), none, none, none] 495 [] := by
  obtain ⟨ND, KN, US, μ, d, hG, hK, hLN⟩ := hLI
  have hn8 := hG.O.1
  have l1 := lo_r v (m := 256) (by omega)
  obtain ⟨z, hz, z0, z1⟩ := byt_set (b := lo (v >>> (iI 5 &&& 31)) 256) l1.1 l1.2
  refine z_iload C dL_law_495 rfl ?_
  refine z_sipush (v := iI 256) C dL_law_497 (by decide) ?_
  refine z_callS (n := 2) (As := [.int v, .int (iI 256)]) (st := []) (fr := ([(ln, ai cI 8 LN)] ++ G)) C hE (k_low l D cI cZ cM cL v (256) ⟨by omega, by omega⟩) gL_law_L_low rfl ⟨rfl, rfl⟩ (by decide +kernel) ⟨Nat.le_of_ble_eq_true rfl, Nat.le_of_ble_eq_true rfl⟩ rfl rfl (List.Perm.refl _) (Nat.le_of_ble_eq_true rfl) ⟨by show c9 + 0 ≤ 600104; omega, by show s9 + 0 ≤ 7301314; omega⟩ dL_law_500 (fun r w1 hpo => ?_)
  obtain ⟨rfl, rfl⟩ := hpo
  refine (show zG E Q (c9) (s9) ([(ln, ai cI 8 LN)] ++ G) [some (.ref b), some (.ref h), some (.ref ln), some (.int (iI ↑n)), some (.int (iI L)), some (.int (iI 1)), some (.int (iI tu)), some (.int (iI kk)), some (.int v), some (.int (iI i)), some (.int (iI j)), some (.int (iI kd)), some (.int (iI p)), some (.int (iI so)), none, none, none] 503 [.int (iI (lo v (256)))] from ?_)
  refine z_iload C dL_law_503 rfl ?_
  refine z_iconst (v := iI 5) C dL_law_505 rfl ?_
  refine z_ishr C dL_law_506 ?_
  refine z_sipush (v := iI 256) C dL_law_507 (by decide) ?_
  refine z_callS (n := 2) (As := [.int (v >>> ((iI 5) &&& 31)), .int (iI 256)]) (st := [.int (iI (lo v (256)))]) (fr := ([(ln, ai cI 8 LN)] ++ G)) C hE (k_low l D cI cZ cM cL (v >>> (iI 5 &&& 31)) (256) ⟨by omega, by omega⟩) gL_law_L_low rfl ⟨rfl, rfl⟩ (by decide +kernel) ⟨Nat.le_of_ble_eq_true rfl, Nat.le_of_ble_eq_true rfl⟩ rfl rfl (List.Perm.refl _) (Nat.le_of_ble_eq_true rfl) ⟨by show c9 + 0 ≤ 600104; omega, by show s9 + 0 ≤ 7301314; omega⟩ dL_law_510 (fun r w1 hpo => ?_)
  obtain ⟨rfl, rfl⟩ := hpo
  refine (show zG E Q (c9) (s9) ([(ln, ai cI 8 LN)] ++ G) [some (.ref b), some (.ref h), some (.ref ln), some (.int (iI ↑n)), some (.int (iI L)), some (.int (iI 1)), some (.int (iI tu)), some (.int (iI kk)), some (.int v), some (.int (iI i)), some (.int (iI j)), some (.int (iI kd)), some (.int (iI p)), some (.int (iI so)), none, none, none] 513 [.int (iI (lo (v >>> (iI 5 &&& 31)) (256))), .int (iI (lo v (256)))] from ?_)
  refine z_iand C dL_law_513 ?_
  refine z_top (y := iI z) (hz) ?_
  refine z_istore (lv' := [some (.ref b), some (.ref h), some (.ref ln), some (.int (iI ↑n)), some (.int (iI L)), some (.int (iI 1)), some (.int (iI tu)), some (.int (iI kk)), some (.int v), some (.int (iI i)), some (.int (iI j)), some (.int (iI kd)), some (.int (iI p)), some (.int (iI so)), some (.int (iI z)), none, none]) C dL_law_514 rfl rfl ?_
  refine z_aload_n (i := 1) C dL_law_516 rfl rfl ?_
  refine z_iload C dL_law_517 rfl ?_
  refine z_iload C dL_law_519 rfl ?_
  refine z_callSH (n := 3) (As := [.ref h, .int (iI kd), .int (iI z)]) (st := []) (fr := [(ln, ai cI 8 LN)]) C hE (h_needs l hl D cL hG kd z hkd ⟨by omega, by omega⟩) gL_law_L_needs rfl ⟨rfl, rfl⟩ (by decide +kernel) ⟨Nat.le_of_ble_eq_true rfl, Nat.le_of_ble_eq_true rfl⟩ rfl rfl List.perm_append_comm (Nat.le_of_ble_eq_true rfl) ⟨by show c9 + 2 ≤ 600104; omega, by show s9 + 12 ≤ 7301314; omega⟩ dL_law_521 (fun r G hpo => ?_)
  rcases hpo with ⟨hc, rfl, hG⟩ | ⟨hc, rfl, hG⟩
  · refine (show zG E Q (c9 + 2) (s9 + 12) (G ++ [(ln, ai cI 8 LN)]) [some (.ref b), some (.ref h), some (.ref ln), some (.int (iI ↑n)), some (.int (iI L)), some (.int (iI 1)), some (.int (iI tu)), some (.int (iI kk)), some (.int v), some (.int (iI i)), some (.int (iI j)), some (.int (iI kd)), some (.int (iI p)), some (.int (iI so)), some (.int (iI z)), none, none] 524 [.int (ND kd)] from ?_)
    refine z_perm (ws' := [(ln, ai cI 8 LN)] ++ G) List.perm_append_comm ?_
    refine z_istore (lv' := [some (.ref b), some (.ref h), some (.ref ln), some (.int (iI ↑n)), some (.int (iI L)), some (.int (iI 1)), some (.int (iI tu)), some (.int (iI kk)), some (.int v), some (.int (iI i)), some (.int (iI j)), some (.int (iI kd)), some (.int (iI p)), some (.int (iI so)), some (.int (iI z)), some (.int (ND kd)), none]) C dL_law_524 rfl rfl ?_
    refine z_iload C dL_law_526 rfl ?_
    refine z_bipush (v := iI (-2)) C dL_law_528 (by decide) ?_
    refine z_icmp_eq (tgt := 556) C dL_law_530 (by decide) (fun hv => ?_) (fun hv => ?_)
    · refine z_iconst (v := iI 1) C dL_law_556 rfl ?_
      refine z_goto (tgt := 561) C dL_law_557 (by decide) ?_
      refine z_istore (lv' := [some (.ref b), some (.ref h), some (.ref ln), some (.int (iI ↑n)), some (.int (iI L)), some (.int (iI 1)), some (.int (iI tu)), some (.int (iI kk)), some (.int v), some (.int (iI i)), some (.int (iI j)), some (.int (iI kd)), some (.int (iI p)), some (.int (iI so)), some (.int (iI z)), some (.int (ND kd)), none]) C dL_law_561 rfl rfl ?_
      refine z_goto (tgt := 774) C dL_law_563 (by decide) ?_
      refine z_le (r := [some (.ref b), some (.ref h), some (.ref ln), some (.int (iI ↑n)), some (.int (iI L)), some (.int (iI 1)), some (.int (iI tu)), some (.int (iI kk)), some (.int v), some (.int (iI i)), some (.int (iI j)), some (.int (iI kd)), some (.int (iI p)), some (.int (iI so)), none, none, none]) ⟨Or.inr rfl, Or.inr rfl, Or.inr rfl, Or.inr rfl, Or.inr rfl, Or.inr rfl, Or.inr rfl, Or.inr rfl, Or.inr rfl, Or.inr rfl, Or.inr rfl, Or.inr rfl, Or.inr rfl, Or.inr rfl, Or.inl rfl, Or.inl rfl, Or.inr rfl, trivial⟩ ?_
      exact z_widen (k := c9 + 600) (n := s9 + 8000) (by omega) (by omega) (k _ G ⟨zup ND kd (iI z), KN, US, μ, d, hG, hK, hLN⟩)
    · refine z_iload C dL_law_533 rfl ?_
      refine z_iload C dL_law_535 rfl ?_
      refine z_ishr C dL_law_537 ?_
      refine z_iconst (v := iI 1) C dL_law_538 rfl ?_
      refine z_iand C dL_law_539 ?_
      refine z_top (y := iI 0) ((SN_self hc).trans i0) ?_
      refine z_if_neI (tgt := 560) C dL_law_540 (by decide) ⟨by omega, by omega⟩ (fun h => by exfalso; exact absurd rfl h) (fun _ => ?_)
      refine z_aload_n (i := 1) C dL_law_543 rfl rfl ?_
      refine z_iload C dL_law_544 rfl ?_
      refine z_iload C dL_law_546 rfl ?_
      refine z_callSH (n := 3) (As := [.ref h, .int (iI kd), .int (iI z)]) (st := []) (fr := [(ln, ai cI 8 LN)]) C hE (h_needs l hl D cL hG kd z hkd ⟨by omega, by omega⟩) gL_law_L_needs rfl ⟨rfl, rfl⟩ (by decide +kernel) ⟨Nat.le_of_ble_eq_true rfl, Nat.le_of_ble_eq_true rfl⟩ rfl rfl List.perm_append_comm (Nat.le_of_ble_eq_true rfl) ⟨by show c9 + 2 + 2 ≤ 600104; omega, by show s9 + 12 + 12 ≤ 7301314; omega⟩ dL_law_548 (fun r G hpo => ?_)
      rcases hpo with ⟨hc2, rfl, hG⟩ | ⟨hc2, rfl, hG⟩
      · refine (show zG E Q (c9 + 2 + 2) (s9 + 12 + 12) (G ++ [(ln, ai cI 8 LN)]) [some (.ref b), some (.ref h), some (.ref ln), some (.int (iI ↑n)), some (.int (iI L)), some (.int (iI 1)), some (.int (iI tu)), some (.int (iI kk)), some (.int v), some (.int (iI i)), some (.int (iI j)), some (.int (iI kd)), some (.int (iI p)), some (.int (iI so)), some (.int (iI z)), some (.int (ND kd)), none] 551 [.int (zup ND kd (iI z) kd)] from ?_)
        refine z_perm (ws' := [(ln, ai cI 8 LN)] ++ G) List.perm_append_comm ?_
        refine z_top (y := iI z) (zup_self _ _ _) ?_
        refine z_iload C dL_law_551 rfl ?_
        refine z_icmp_neI (tgt := 560) C dL_law_553 (by decide) ⟨by omega, by omega⟩ ⟨by omega, by omega⟩ (fun h => by exfalso; omega) (fun _ => ?_)
        refine z_iconst (v := iI 1) C dL_law_556 rfl ?_
        refine z_goto (tgt := 561) C dL_law_557 (by decide) ?_
        refine z_istore (lv' := [some (.ref b), some (.ref h), some (.ref ln), some (.int (iI ↑n)), some (.int (iI L)), some (.int (iI 1)), some (.int (iI tu)), some (.int (iI kk)), some (.int v), some (.int (iI i)), some (.int (iI j)), some (.int (iI kd)), some (.int (iI p)), some (.int (iI so)), some (.int (iI z)), some (.int (ND kd)), none]) C dL_law_561 rfl rfl ?_
        refine z_goto (tgt := 774) C dL_law_563 (by decide) ?_
        refine z_le (r := [some (.ref b), some (.ref h), some (.ref ln), some (.int (iI ↑n)), some (.int (iI L)), some (.int (iI 1)), some (.int (iI tu)), some (.int (iI kk)), some (.int v), some (.int (iI i)), some (.int (iI j)), some (.int (iI kd)), some (.int (iI p)), some (.int (iI so)), none, none, none]) ⟨Or.inr rfl, Or.inr rfl, Or.inr rfl, Or.inr rfl, Or.inr rfl, Or.inr rfl, Or.inr rfl, Or.inr rfl, Or.inr rfl, Or.inr rfl, Or.inr rfl, Or.inr rfl, Or.inr rfl, Or.inr rfl, Or.inl rfl, Or.inl rfl, Or.inr rfl, trivial⟩ ?_
        exact z_widen (k := c9 + 600) (n := s9 + 8000) (by omega) (by omega) (k _ G ⟨zup (zup ND kd (iI z)) kd (iI z), KN, US, μ, d, hG, hK, hLN⟩)
      · exact absurd (SN_again (v := iI z) hc) (by omega)
  · refine (show zG E Q (c9 + 2) (s9 + 12) (G ++ [(ln, ai cI 8 LN)]) [some (.ref b), some (.ref h), some (.ref ln), some (.int (iI ↑n)), some (.int (iI L)), some (.int (iI 1)), some (.int (iI tu)), some (.int (iI kk)), some (.int v), some (.int (iI i)), some (.int (iI j)), some (.int (iI kd)), some (.int (iI p)), some (.int (iI so)), some (.int (iI z)), none, none] 524 [.int (iI (-2))] from ?_)
    refine z_perm (ws' := [(ln, ai cI 8 LN)] ++ G) List.perm_append_comm ?_
    refine z_istore (lv' := [some (.ref b), some (.ref h), some (.ref ln), some (.int (iI ↑n)), some (.int (iI L)), some (.int (iI 1)), some (.int (iI tu)), some (.int (iI kk)), some (.int v), some (.int (iI i)), some (.int (iI j)), some (.int (iI kd)), some (.int (iI p)), some (.int (iI so)), some (.int (iI z)), some (.int (iI (-2))), none]) C dL_law_524 rfl rfl ?_
    refine z_iload C dL_law_526 rfl ?_
    refine z_bipush (v := iI (-2)) C dL_law_528 (by decide) ?_
    refine z_icmp_eqI (tgt := 556) C dL_law_530 (by decide) ⟨by omega, by omega⟩ ⟨by omega, by omega⟩ (fun _ => ?_) (fun h => by exfalso; omega)
    refine z_iconst (v := iI 1) C dL_law_556 rfl ?_
    refine z_goto (tgt := 561) C dL_law_557 (by decide) ?_
    refine z_istore (lv' := [some (.ref b), some (.ref h), some (.ref ln), some (.int (iI ↑n)), some (.int (iI L)), some (.int (iI 1)), some (.int (iI tu)), some (.int (iI kk)), some (.int v), some (.int (iI i)), some (.int (iI j)), some (.int (iI kd)), some (.int (iI p)), some (.int (iI so)), some (.int (iI z)), some (.int (iI (-2))), none]) C dL_law_561 rfl rfl ?_
    refine z_goto (tgt := 774) C dL_law_563 (by decide) ?_
    refine z_le (r := [some (.ref b), some (.ref h), some (.ref ln), some (.int (iI ↑n)), some (.int (iI L)), some (.int (iI 1)), some (.int (iI tu)), some (.int (iI kk)), some (.int v), some (.int (iI i)), some (.int (iI j)), some (.int (iI kd)), some (.int (iI p)), some (.int (iI so)), none, none, none]) ⟨Or.inr rfl, Or.inr rfl, Or.inr rfl, Or.inr rfl, Or.inr rfl, Or.inr rfl, Or.inr rfl, Or.inr rfl, Or.inr rfl, Or.inr rfl, Or.inr rfl, Or.inr rfl, Or.inr rfl, Or.inr rfl, Or.inl rfl, Or.inl rfl, Or.inr rfl, trivial⟩ ?_
    exact z_widen (k := c9 + 600) (n := s9 + 8000) (by omega) (by omega) (k _ G ⟨ND, KN, US, μ, d, hG, hK, hLN⟩)
set_option maxHeartbeats 2000000 in
set_option maxRecDepth 100000 in
theorem law_use {E : zE} {Q : State → Prop} {l : Launch} (hl : l.stackTraces = false) {D : va_G} {cI cZ cM cL : ClassId} {b h ln n : Nat} {LN : Int → Int} {L tu kk i j kd p so : Int} {v : Int32} {G : va_W} {c9 s9 : Nat} (C : zC E cL_law RL wsL_law room_1) (hE : zOf E l D (zTy cI cZ cM cL)) (hLI : LI cI cZ cM h n L LN G) (hi : 0 ≤ i ∧ i < n) (hj : 0 ≤ j ∧ j < n) (hkd : 0 ≤ kd ∧ kd < 8) (hp0 : 0 ≤ p ∧ p < 6) (hc9 : c9 + 600 ≤ 600104) (hs9 : s9 + 8000 ≤ 7301314)
    (k : ∀ (L1 : Int) (G : va_W), LI cI cZ cM h n L1 LN G → zG E Q (c9 + 600) (s9 + 8000) ([(ln, ai cI 8 LN)] ++ G) [some (.ref b), some (.ref h), some (.ref ln), some (.int (iI ↑n)), some (.int (iI L1)), some (.int (iI 1)), some (.int (iI tu)), some (.int (iI kk)), some (.int v), some (.int (iI i)), some (.int (iI j)), some (.int (iI kd)), some (.int (iI p)), some (.int (iI so)), none, none, none] 774 []) : zG E Q c9 s9 ([(ln, ai cI 8 LN)] ++ G) [some (.ref b), some (.ref h), some (.ref ln), some (.int (iI ↑n)), some (.int (iI L)), some (.int (iI 1)), some (.int (iI tu)), some (.int (iI kk)), some (.int v), some (.int (iI i)), some (.int (iI j)), some (.int (iI kd)), some (.int (iI p)), some (.int (iI so)), none, none, none] 573 [] := by
  obtain ⟨ND, KN, US, μ, d, hG, hK, hLN⟩ := hLI
  have hn8 := hG.O.1
  refine z_aload_n (i := 1) C dL_law_573 rfl rfl ?_
  refine z_iload C dL_law_574 rfl ?_
  refine z_iload C dL_law_576 rfl ?_
  refine z_callSH (n := 3) (As := [.ref h, .int (iI i), .int (iI j)]) (st := []) (fr := [(ln, ai cI 8 LN)]) C hE (h_use l hl D cL hG i j hi hj) gL_law_L_use rfl ⟨rfl, rfl⟩ (by decide +kernel) ⟨Nat.le_of_ble_eq_true rfl, Nat.le_of_ble_eq_true rfl⟩ rfl rfl List.perm_append_comm (Nat.le_of_ble_eq_true rfl) ⟨by show c9 + 3 ≤ 600104; omega, by show s9 + 18 ≤ 7301314; omega⟩ dL_law_578 (fun r G hpo => ?_)
  rcases hpo with ⟨hc, rfl, hG⟩ | ⟨hc, rfl, hG⟩
  · refine (show zG E Q (c9 + 3) (s9 + 18) (G ++ [(ln, ai cI 8 LN)]) [some (.ref b), some (.ref h), some (.ref ln), some (.int (iI ↑n)), some (.int (iI L)), some (.int (iI 1)), some (.int (iI tu)), some (.int (iI kk)), some (.int v), some (.int (iI i)), some (.int (iI j)), some (.int (iI kd)), some (.int (iI p)), some (.int (iI so)), none, none, none] 581 [.int (iI (b2 (¬ hb (US i) (iI j))))] from ?_)
    refine z_perm (ws' := [(ln, ai cI 8 LN)] ++ G) List.perm_append_comm ?_
    have hbr := b2r (¬ hb (US i) (iI j))
    have hne := US_ne hn8 hc
    refine z_istore (lv' := [some (.ref b), some (.ref h), some (.ref ln), some (.int (iI ↑n)), some (.int (iI L)), some (.int (iI 1)), some (.int (iI tu)), some (.int (iI kk)), some (.int v), some (.int (iI i)), some (.int (iI j)), some (.int (iI kd)), some (.int (iI p)), some (.int (iI so)), some (.int (iI (b2 (¬ hb (US i) (iI j))))), none, none]) C dL_law_581 rfl rfl ?_
    refine z_iload C dL_law_583 rfl ?_
    refine z_bipush (v := iI (-2)) C dL_law_585 (by decide) ?_
    refine z_icmp_neI (tgt := 594) C dL_law_587 (by decide) ⟨by omega, by omega⟩ ⟨by omega, by omega⟩ (fun _ => ?_) (fun h => by exfalso; omega)
    refine z_iload C dL_law_594 rfl ?_
    refine z_iload C dL_law_596 rfl ?_
    refine z_icmp_eqI (tgt := 647) C dL_law_598 (by decide) ⟨by omega, by omega⟩ ⟨by omega, by omega⟩ (fun h => by exfalso; exact hne h) (fun _ => ?_)
    refine z_aload_n (i := 1) C dL_law_601 rfl rfl ?_
    refine z_iload C dL_law_602 rfl ?_
    refine z_iload C dL_law_604 rfl ?_
    refine z_callSH (n := 3) (As := [.ref h, .int (iI i), .int (iI j)]) (st := []) (fr := [(ln, ai cI 8 LN)]) C hE (h_use l hl D cL hG i j hi hj) gL_law_L_use rfl ⟨rfl, rfl⟩ (by decide +kernel) ⟨Nat.le_of_ble_eq_true rfl, Nat.le_of_ble_eq_true rfl⟩ rfl rfl List.perm_append_comm (Nat.le_of_ble_eq_true rfl) ⟨by show c9 + 3 + 3 ≤ 600104; omega, by show s9 + 18 + 18 ≤ 7301314; omega⟩ dL_law_606 (fun r G hpo => ?_)
    rcases hpo with ⟨hc2, rfl, hG⟩ | ⟨hc2, rfl, hG⟩
    · refine (show zG E Q (c9 + 3 + 3) (s9 + 18 + 18) (G ++ [(ln, ai cI 8 LN)]) [some (.ref b), some (.ref h), some (.ref ln), some (.int (iI ↑n)), some (.int (iI L)), some (.int (iI 1)), some (.int (iI tu)), some (.int (iI kk)), some (.int v), some (.int (iI i)), some (.int (iI j)), some (.int (iI kd)), some (.int (iI p)), some (.int (iI so)), some (.int (iI (b2 (¬ hb (US i) (iI j))))), none, none] 609 [.int (iI (b2 (¬ hb ((zup US i (US i ||| (iI 1 <<< (iI j &&& 31)))) i) (iI j))))] from ?_)
      refine z_perm (ws' := [(ln, ai cI 8 LN)] ++ G) List.perm_append_comm ?_
      have hb1 : hb ((zup US i (US i ||| (iI 1 <<< (iI j &&& 31)))) i) (iI j) := by rw [zup_self]; exact hb_or2 hj.1 (by omega)
      have hb0 : b2 (¬ hb ((zup US i (US i ||| (iI 1 <<< (iI j &&& 31)))) i) (iI j)) = 0 := b2f (fun h9 => h9 hb1)
      have hbb : hb ((zup (zup US i (US i ||| (iI 1 <<< (iI j &&& 31)))) i ((zup US i (US i ||| (iI 1 <<< (iI j &&& 31)))) i ||| (iI 1 <<< (iI j &&& 31)))) i) (iI j) := by rw [zup_self]; exact hb_or2 hj.1 (by omega)
      refine z_if_neI (tgt := 647) C dL_law_609 (by decide) ⟨by omega, by omega⟩ (fun h => by exfalso; omega) (fun _ => ?_)
      refine z_aload_n (i := 1) C dL_law_612 rfl rfl ?_
      refine z_iload C dL_law_613 rfl ?_
      refine z_iload C dL_law_615 rfl ?_
      refine z_callSH (n := 3) (As := [.ref h, .int (iI j), .int (iI i)]) (st := []) (fr := [(ln, ai cI 8 LN)]) C hE (h_use l hl D cL hG j i hj hi) gL_law_L_use rfl ⟨rfl, rfl⟩ (by decide +kernel) ⟨Nat.le_of_ble_eq_true rfl, Nat.le_of_ble_eq_true rfl⟩ rfl rfl List.perm_append_comm (Nat.le_of_ble_eq_true rfl) ⟨by show c9 + 3 + 3 + 3 ≤ 600104; omega, by show s9 + 18 + 18 + 18 ≤ 7301314; omega⟩ dL_law_617 (fun r G hpo => ?_)
      rcases hpo with ⟨hc3, rfl, hG⟩ | ⟨hc3, rfl, hG⟩
      · exact absurd (US_back hn8 hi hj hbb) (by omega)
      · refine (show zG E Q (c9 + 3 + 3 + 3) (s9 + 18 + 18 + 18) (G ++ [(ln, ai cI 8 LN)]) [some (.ref b), some (.ref h), some (.ref ln), some (.int (iI ↑n)), some (.int (iI L)), some (.int (iI 1)), some (.int (iI tu)), some (.int (iI kk)), some (.int v), some (.int (iI i)), some (.int (iI j)), some (.int (iI kd)), some (.int (iI p)), some (.int (iI so)), some (.int (iI (b2 (¬ hb (US i) (iI j))))), none, none] 620 [.int (iI (-2))] from ?_)
        refine z_perm (ws' := [(ln, ai cI 8 LN)] ++ G) List.perm_append_comm ?_
        refine z_bipush (v := iI (-2)) C dL_law_620 (by decide) ?_
        refine z_icmp_neI (tgt := 647) C dL_law_622 (by decide) ⟨by omega, by omega⟩ ⟨by omega, by omega⟩ (fun h => by exfalso; omega) (fun _ => ?_)
        refine z_aload_n (i := 1) C dL_law_625 rfl rfl ?_
        refine z_iload C dL_law_626 rfl ?_
        obtain ⟨PH, hM, hp⟩ := c_kindsOf l hl D cL hG j ⟨by omega, by omega⟩
        obtain ⟨fs, hG0⟩ := hG.g0
        refine z_callVx (n := 1) (As := [.int (iI j)]) (st := []) (fr := [(ln, ai cI 8 LN)]) C hE hM gL_law_X4_kindsOf rfl ⟨rfl, rfl⟩ (by decide +kernel) ⟨Nat.le_of_ble_eq_true rfl, Nat.le_of_ble_eq_true rfl⟩ rfl rfl List.perm_append_comm 0 hG0 rfl rfl (Nat.le_of_ble_eq_true rfl) ⟨by show c9 + 3 + 3 + 3 + 17 ≤ 600104; omega, by show s9 + 18 + 18 + 18 + 102 ≤ 7301314; omega⟩ dL_law_628 (fun Ex hpx => absurd hpx (pX_no (cM1_ok hj))) (fun r G hpo => ?_)
        obtain ⟨rfl, hG⟩ := hp _ _ hpo
        refine (show zG E Q (c9 + 3 + 3 + 3 + 17) (s9 + 18 + 18 + 18 + 102) (G ++ [(ln, ai cI 8 LN)]) [some (.ref b), some (.ref h), some (.ref ln), some (.int (iI ↑n)), some (.int (iI L)), some (.int (iI 1)), some (.int (iI tu)), some (.int (iI kk)), some (.int v), some (.int (iI i)), some (.int (iI j)), some (.int (iI kd)), some (.int (iI p)), some (.int (iI so)), some (.int (iI (b2 (¬ hb (US i) (iI j))))), none, none] 631 [.int (kcB μ (mcB (zup (zup US i (US i ||| (iI 1 <<< (iI j &&& 31)))) i ((zup US i (US i ||| (iI 1 <<< (iI j &&& 31)))) i ||| (iI 1 <<< (iI j &&& 31)))) j) n)] from ?_)
        refine z_perm (ws' := [(ln, ai cI 8 LN)] ++ G) List.perm_append_comm ?_
        refine z_aload_n (i := 1) C dL_law_631 rfl rfl ?_
        refine z_iload C dL_law_632 rfl ?_
        obtain ⟨PH, hM, hp⟩ := c_kindsOf l hl D cL hG i ⟨by omega, by omega⟩
        obtain ⟨fs, hG0⟩ := hG.g0
        refine z_callVx (n := 1) (As := [.int (iI i)]) (st := [.int (kcB μ (mcB (zup (zup US i (US i ||| (iI 1 <<< (iI j &&& 31)))) i ((zup US i (US i ||| (iI 1 <<< (iI j &&& 31)))) i ||| (iI 1 <<< (iI j &&& 31)))) j) n)]) (fr := [(ln, ai cI 8 LN)]) C hE hM gL_law_X4_kindsOf rfl ⟨rfl, rfl⟩ (by decide +kernel) ⟨Nat.le_of_ble_eq_true rfl, Nat.le_of_ble_eq_true rfl⟩ rfl rfl List.perm_append_comm 0 hG0 rfl rfl (Nat.le_of_ble_eq_true rfl) ⟨by show c9 + 3 + 3 + 3 + 17 + 17 ≤ 600104; omega, by show s9 + 18 + 18 + 18 + 102 + 102 ≤ 7301314; omega⟩ dL_law_634 (fun Ex hpx => absurd hpx (pX_no (cM1_ok hi))) (fun r G hpo => ?_)
        obtain ⟨rfl, hG⟩ := hp _ _ hpo
        refine (show zG E Q (c9 + 3 + 3 + 3 + 17 + 17) (s9 + 18 + 18 + 18 + 102 + 102) (G ++ [(ln, ai cI 8 LN)]) [some (.ref b), some (.ref h), some (.ref ln), some (.int (iI ↑n)), some (.int (iI L)), some (.int (iI 1)), some (.int (iI tu)), some (.int (iI kk)), some (.int v), some (.int (iI i)), some (.int (iI j)), some (.int (iI kd)), some (.int (iI p)), some (.int (iI so)), some (.int (iI (b2 (¬ hb (US i) (iI j))))), none, none] 637 [.int (kcB μ (mcB (zup (zup US i (US i ||| (iI 1 <<< (iI j &&& 31)))) i ((zup US i (US i ||| (iI 1 <<< (iI j &&& 31)))) i ||| (iI 1 <<< (iI j &&& 31)))) i) n), .int (kcB μ (mcB (zup (zup US i (US i ||| (iI 1 <<< (iI j &&& 31)))) i ((zup US i (US i ||| (iI 1 <<< (iI j &&& 31)))) i ||| (iI 1 <<< (iI j &&& 31)))) j) n)] from ?_)
        refine z_perm (ws' := [(ln, ai cI 8 LN)] ++ G) List.perm_append_comm ?_
        refine z_iconst (v := iI (-1)) C dL_law_637 rfl ?_
        refine z_ixor C dL_law_638 ?_
        refine z_iand C dL_law_639 ?_
        refine z_top (y := iI 0) ((sub_not (kcB_sub (mcB_sub ⟨by omega, by omega⟩ ⟨by omega, by omega⟩ hbb) n (by omega))).trans i0) ?_
        refine z_if_neI (tgt := 647) C dL_law_640 (by decide) ⟨by omega, by omega⟩ (fun h => by exfalso; omega) (fun _ => ?_)
        refine z_iconst (v := iI 1) C dL_law_643 rfl ?_
        refine z_goto (tgt := 648) C dL_law_644 (by decide) ?_
        refine z_istore (lv' := [some (.ref b), some (.ref h), some (.ref ln), some (.int (iI ↑n)), some (.int (iI L)), some (.int (iI 1)), some (.int (iI tu)), some (.int (iI kk)), some (.int v), some (.int (iI i)), some (.int (iI j)), some (.int (iI kd)), some (.int (iI p)), some (.int (iI so)), some (.int (iI (b2 (¬ hb (US i) (iI j))))), none, none]) C dL_law_648 rfl rfl ?_
        refine z_goto (tgt := 774) C dL_law_650 (by decide) ?_
        refine z_le (r := [some (.ref b), some (.ref h), some (.ref ln), some (.int (iI ↑n)), some (.int (iI L)), some (.int (iI 1)), some (.int (iI tu)), some (.int (iI kk)), some (.int v), some (.int (iI i)), some (.int (iI j)), some (.int (iI kd)), some (.int (iI p)), some (.int (iI so)), none, none, none]) ⟨Or.inr rfl, Or.inr rfl, Or.inr rfl, Or.inr rfl, Or.inr rfl, Or.inr rfl, Or.inr rfl, Or.inr rfl, Or.inr rfl, Or.inr rfl, Or.inr rfl, Or.inr rfl, Or.inr rfl, Or.inr rfl, Or.inl rfl, Or.inr rfl, Or.inr rfl, trivial⟩ ?_
        exact z_widen (k := c9 + 600) (n := s9 + 8000) (by omega) (by omega) (k _ G ⟨ND, KN, (zup (zup US i (US i ||| (iI 1 <<< (iI j &&& 31)))) i ((zup US i (US i ||| (iI 1 <<< (iI j &&& 31)))) i ||| (iI 1 <<< (iI j &&& 31)))), μ, d, hG, hK, hLN⟩)
    · exact absurd (US_again (v := US i ||| (iI 1 <<< (iI j &&& 31))) hn8 hc) (by omega)
  · refine (show zG E Q (c9 + 3) (s9 + 18) (G ++ [(ln, ai cI 8 LN)]) [some (.ref b), some (.ref h), some (.ref ln), some (.int (iI ↑n)), some (.int (iI L)), some (.int (iI 1)), some (.int (iI tu)), some (.int (iI kk)), some (.int v), some (.int (iI i)), some (.int (iI j)), some (.int (iI kd)), some (.int (iI p)), some (.int (iI so)), none, none, none] 581 [.int (iI (-2))] from ?_)
    refine z_perm (ws' := [(ln, ai cI 8 LN)] ++ G) List.perm_append_comm ?_
    refine z_istore (lv' := [some (.ref b), some (.ref h), some (.ref ln), some (.int (iI ↑n)), some (.int (iI L)), some (.int (iI 1)), some (.int (iI tu)), some (.int (iI kk)), some (.int v), some (.int (iI i)), some (.int (iI j)), some (.int (iI kd)), some (.int (iI p)), some (.int (iI so)), some (.int (iI (-2))), none, none]) C dL_law_581 rfl rfl ?_
    refine z_iload C dL_law_583 rfl ?_
    refine z_bipush (v := iI (-2)) C dL_law_585 (by decide) ?_
    refine z_icmp_neI (tgt := 594) C dL_law_587 (by decide) ⟨by omega, by omega⟩ ⟨by omega, by omega⟩ (fun h => by exfalso; omega) (fun _ => ?_)
    refine z_iconst (v := iI 1) C dL_law_590 rfl ?_
    refine z_goto (tgt := 648) C dL_law_591 (by decide) ?_
    refine z_istore (lv' := [some (.ref b), some (.ref h), some (.ref ln), some (.int (iI ↑n)), some (.int (iI L)), some (.int (iI 1)), some (.int (iI tu)), some (.int (iI kk)), some (.int v), some (.int (iI i)), some (.int (iI j)), some (.int (iI kd)), some (.int (iI p)), some (.int (iI so)), some (.int (iI (-2))), none, none]) C dL_law_648 rfl rfl ?_
    refine z_goto (tgt := 774) C dL_law_650 (by decide) ?_
    refine z_le (r := [some (.ref b), some (.ref h), some (.ref ln), some (.int (iI ↑n)), some (.int (iI L)), some (.int (iI 1)), some (.int (iI tu)), some (.int (iI kk)), some (.int v), some (.int (iI i)), some (.int (iI j)), some (.int (iI kd)), some (.int (iI p)), some (.int (iI so)), none, none, none]) ⟨Or.inr rfl, Or.inr rfl, Or.inr rfl, Or.inr rfl, Or.inr rfl, Or.inr rfl, Or.inr rfl, Or.inr rfl, Or.inr rfl, Or.inr rfl, Or.inr rfl, Or.inr rfl, Or.inr rfl, Or.inr rfl, Or.inl rfl, Or.inr rfl, Or.inr rfl, trivial⟩ ?_
    exact z_widen (k := c9 + 600) (n := s9 + 8000) (by omega) (by omega) (k _ G ⟨ND, KN, US, μ, d, hG, hK, hLN⟩)
theorem kn_up {KN : Int → Int32} (h : ∀ q : Int, 0 ≤ q → q < 6 → byt (KN q)) {p k : Int} (hk : 0 ≤ k ∧ k < 8) : ∀ q : Int, 0 ≤ q → q < 6 → byt (zup KN p (KN p ||| (iI 1 <<< (iI k &&& 31))) q) := by
  intro q h0 h1
  by_cases e : q = p
  · subst e
    rw [zup_self]
    exact byt_or (h q h0 h1) (byt_1 hk.1 hk.2)
  · rw [zup_ne _ _ e]
    exact h q h0 h1
set_option maxHeartbeats 2000000 in
set_option maxRecDepth 100000 in
theorem law_teach {E : zE} {Q : State → Prop} {l : Launch} (hl : l.stackTraces = false) {D : va_G} {cI cZ cM cL : ClassId} {b h ln n : Nat} {LN : Int → Int} {L tu kk i j kd p so : Int} {v : Int32} {G : va_W} {c9 s9 : Nat} (C : zC E cL_law RL wsL_law room_1) (hE : zOf E l D (zTy cI cZ cM cL)) (hLI : LI cI cZ cM h n L LN G) (hi : 0 ≤ i ∧ i < n) (hj : 0 ≤ j ∧ j < n) (hkd : 0 ≤ kd ∧ kd < 8) (hp0 : 0 ≤ p ∧ p < 6) (hc9 : c9 + 600 ≤ 600104) (hs9 : s9 + 8000 ≤ 7301314)
    (k : ∀ (L1 : Int) (G : va_W), LI cI cZ cM h n L1 LN G → zG E Q (c9 + 600) (s9 + 8000) ([(ln, ai cI 8 LN)] ++ G) [some (.ref b), some (.ref h), some (.ref ln), some (.int (iI ↑n)), some (.int (iI L1)), some (.int (iI 1)), some (.int (iI tu)), some (.int (iI kk)), some (.int v), some (.int (iI i)), some (.int (iI j)), some (.int (iI kd)), some (.int (iI p)), some (.int (iI so)), none, none, none] 774 []) : zG E Q c9 s9 ([(ln, ai cI 8 LN)] ++ G) [some (.ref b), some (.ref h), some (.ref ln), some (.int (iI ↑n)), some (.int (iI L)), some (.int (iI 1)), some (.int (iI tu)), some (.int (iI kk)), some (.int v), some (.int (iI i)), some (.int (iI j)), some (.int (iI kd)), some (.int (iI p)), some (.int (iI so)), none, none, none] 660 [] := by
  obtain ⟨ND, KN, US, μ, d, hG, hK, hLN⟩ := hLI
  have hn8 := hG.O.1
  refine z_aload_n (i := 1) C dL_law_660 rfl rfl ?_
  refine z_iload C dL_law_661 rfl ?_
  refine z_iload C dL_law_663 rfl ?_
  refine z_callSH (n := 3) (As := [.ref h, .int (iI p), .int (iI kd)]) (st := []) (fr := [(ln, ai cI 8 LN)]) C hE (h_teach l hl D cL hG p kd hp0 hkd) gL_law_L_teach rfl ⟨rfl, rfl⟩ (by decide +kernel) ⟨Nat.le_of_ble_eq_true rfl, Nat.le_of_ble_eq_true rfl⟩ rfl rfl List.perm_append_comm (Nat.le_of_ble_eq_true rfl) ⟨by show c9 + 3 ≤ 600104; omega, by show s9 + 18 ≤ 7301314; omega⟩ dL_law_665 (fun r G hpo => ?_)
  rcases hpo with ⟨hc, rfl, hG⟩ | ⟨hc, rfl, hG⟩
  · refine (show zG E Q (c9 + 3) (s9 + 18) (G ++ [(ln, ai cI 8 LN)]) [some (.ref b), some (.ref h), some (.ref ln), some (.int (iI ↑n)), some (.int (iI L)), some (.int (iI 1)), some (.int (iI tu)), some (.int (iI kk)), some (.int v), some (.int (iI i)), some (.int (iI j)), some (.int (iI kd)), some (.int (iI p)), some (.int (iI so)), none, none, none] 668 [.int (bcE (KN p ||| (iI 1 <<< (iI kd &&& 31))))] from ?_)
    refine z_perm (ws' := [(ln, ai cI 8 LN)] ++ G) List.perm_append_comm ?_
    obtain ⟨m, hm, m0, m1⟩ := teach_z (hK p hp0.1 hp0.2) hkd
    refine z_top (y := iI m) hm ?_
    refine z_istore (lv' := [some (.ref b), some (.ref h), some (.ref ln), some (.int (iI ↑n)), some (.int (iI L)), some (.int (iI 1)), some (.int (iI tu)), some (.int (iI kk)), some (.int v), some (.int (iI i)), some (.int (iI j)), some (.int (iI kd)), some (.int (iI p)), some (.int (iI so)), some (.int (iI m)), none, none]) C dL_law_668 rfl rfl ?_
    refine z_iload C dL_law_670 rfl ?_
    refine z_bipush (v := iI (-3)) C dL_law_672 (by decide) ?_
    refine z_icmp_eqI (tgt := 703) C dL_law_674 (by decide) ⟨by omega, by omega⟩ ⟨by omega, by omega⟩ (fun h => by exfalso; omega) (fun _ => ?_)
    refine z_iload C dL_law_677 rfl ?_
    refine z_iconst (v := iI 1) C dL_law_679 rfl ?_
    refine z_icmp_ltI (tgt := 707) C dL_law_680 (by decide) ⟨by omega, by omega⟩ ⟨by omega, by omega⟩ (fun h => by exfalso; omega) (fun _ => ?_)
    refine z_iload C dL_law_683 rfl ?_
    refine z_bipush (v := iI 8) C dL_law_685 (by decide) ?_
    refine z_icmp_gtI (tgt := 707) C dL_law_687 (by decide) ⟨by omega, by omega⟩ ⟨by omega, by omega⟩ (fun h => by exfalso; omega) (fun _ => ?_)
    refine z_aload_n (i := 1) C dL_law_690 rfl rfl ?_
    refine z_iload C dL_law_691 rfl ?_
    refine z_iload C dL_law_693 rfl ?_
    refine z_callSH (n := 3) (As := [.ref h, .int (iI p), .int (iI kd)]) (st := []) (fr := [(ln, ai cI 8 LN)]) C hE (h_teach l hl D cL hG p kd hp0 hkd) gL_law_L_teach rfl ⟨rfl, rfl⟩ (by decide +kernel) ⟨Nat.le_of_ble_eq_true rfl, Nat.le_of_ble_eq_true rfl⟩ rfl rfl List.perm_append_comm (Nat.le_of_ble_eq_true rfl) ⟨by show c9 + 3 + 3 ≤ 600104; omega, by show s9 + 18 + 18 ≤ 7301314; omega⟩ dL_law_695 (fun r G hpo => ?_)
    rcases hpo with ⟨hc2, rfl, hG⟩ | ⟨hc2, rfl, hG⟩
    · refine (show zG E Q (c9 + 3 + 3) (s9 + 18 + 18) (G ++ [(ln, ai cI 8 LN)]) [some (.ref b), some (.ref h), some (.ref ln), some (.int (iI ↑n)), some (.int (iI L)), some (.int (iI 1)), some (.int (iI tu)), some (.int (iI kk)), some (.int v), some (.int (iI i)), some (.int (iI j)), some (.int (iI kd)), some (.int (iI p)), some (.int (iI so)), some (.int (iI m)), none, none] 698 [.int (bcE ((zup KN p (KN p ||| (iI 1 <<< (iI kd &&& 31)))) p ||| (iI 1 <<< (iI kd &&& 31))))] from ?_)
      refine z_perm (ws' := [(ln, ai cI 8 LN)] ++ G) List.perm_append_comm ?_
      refine z_top (y := iI m) (by rw [zup_self, or_again]; exact hm) ?_
      have hK2 : ∀ q : Int, 0 ≤ q → q < 6 → byt ((zup (zup KN p (KN p ||| (iI 1 <<< (iI kd &&& 31)))) p ((zup KN p (KN p ||| (iI 1 <<< (iI kd &&& 31)))) p ||| (iI 1 <<< (iI kd &&& 31)))) q) := kn_up (kn_up hK hkd) hkd
      refine z_iload C dL_law_698 rfl ?_
      refine z_icmp_neI (tgt := 707) C dL_law_700 (by decide) ⟨by omega, by omega⟩ ⟨by omega, by omega⟩ (fun h => by exfalso; omega) (fun _ => ?_)
      refine z_iconst (v := iI 1) C dL_law_703 rfl ?_
      refine z_goto (tgt := 708) C dL_law_704 (by decide) ?_
      refine z_istore (lv' := [some (.ref b), some (.ref h), some (.ref ln), some (.int (iI ↑n)), some (.int (iI L)), some (.int (iI 1)), some (.int (iI tu)), some (.int (iI kk)), some (.int v), some (.int (iI i)), some (.int (iI j)), some (.int (iI kd)), some (.int (iI p)), some (.int (iI so)), some (.int (iI m)), none, none]) C dL_law_708 rfl rfl ?_
      refine z_goto (tgt := 774) C dL_law_710 (by decide) ?_
      refine z_le (r := [some (.ref b), some (.ref h), some (.ref ln), some (.int (iI ↑n)), some (.int (iI L)), some (.int (iI 1)), some (.int (iI tu)), some (.int (iI kk)), some (.int v), some (.int (iI i)), some (.int (iI j)), some (.int (iI kd)), some (.int (iI p)), some (.int (iI so)), none, none, none]) ⟨Or.inr rfl, Or.inr rfl, Or.inr rfl, Or.inr rfl, Or.inr rfl, Or.inr rfl, Or.inr rfl, Or.inr rfl, Or.inr rfl, Or.inr rfl, Or.inr rfl, Or.inr rfl, Or.inr rfl, Or.inr rfl, Or.inl rfl, Or.inr rfl, Or.inr rfl, trivial⟩ ?_
      exact z_widen (k := c9 + 600) (n := s9 + 8000) (by omega) (by omega) (k _ G ⟨ND, (zup (zup KN p (KN p ||| (iI 1 <<< (iI kd &&& 31)))) p ((zup KN p (KN p ||| (iI 1 <<< (iI kd &&& 31)))) p ||| (iI 1 <<< (iI kd &&& 31)))), US, μ, d, hG, hK2, hLN⟩)
    · exact absurd (TE_again (y := (iI 1 <<< (iI kd &&& 31))) hc) (by omega)
  · refine (show zG E Q (c9 + 3) (s9 + 18) (G ++ [(ln, ai cI 8 LN)]) [some (.ref b), some (.ref h), some (.ref ln), some (.int (iI ↑n)), some (.int (iI L)), some (.int (iI 1)), some (.int (iI tu)), some (.int (iI kk)), some (.int v), some (.int (iI i)), some (.int (iI j)), some (.int (iI kd)), some (.int (iI p)), some (.int (iI so)), none, none, none] 668 [.int (iI (-3))] from ?_)
    refine z_perm (ws' := [(ln, ai cI 8 LN)] ++ G) List.perm_append_comm ?_
    refine z_istore (lv' := [some (.ref b), some (.ref h), some (.ref ln), some (.int (iI ↑n)), some (.int (iI L)), some (.int (iI 1)), some (.int (iI tu)), some (.int (iI kk)), some (.int v), some (.int (iI i)), some (.int (iI j)), some (.int (iI kd)), some (.int (iI p)), some (.int (iI so)), some (.int (iI (-3))), none, none]) C dL_law_668 rfl rfl ?_
    refine z_iload C dL_law_670 rfl ?_
    refine z_bipush (v := iI (-3)) C dL_law_672 (by decide) ?_
    refine z_icmp_eqI (tgt := 703) C dL_law_674 (by decide) ⟨by omega, by omega⟩ ⟨by omega, by omega⟩ (fun _ => ?_) (fun h => by exfalso; omega)
    refine z_iconst (v := iI 1) C dL_law_703 rfl ?_
    refine z_goto (tgt := 708) C dL_law_704 (by decide) ?_
    refine z_istore (lv' := [some (.ref b), some (.ref h), some (.ref ln), some (.int (iI ↑n)), some (.int (iI L)), some (.int (iI 1)), some (.int (iI tu)), some (.int (iI kk)), some (.int v), some (.int (iI i)), some (.int (iI j)), some (.int (iI kd)), some (.int (iI p)), some (.int (iI so)), some (.int (iI (-3))), none, none]) C dL_law_708 rfl rfl ?_
    refine z_goto (tgt := 774) C dL_law_710 (by decide) ?_
    refine z_le (r := [some (.ref b), some (.ref h), some (.ref ln), some (.int (iI ↑n)), some (.int (iI L)), some (.int (iI 1)), some (.int (iI tu)), some (.int (iI kk)), some (.int v), some (.int (iI i)), some (.int (iI j)), some (.int (iI kd)), some (.int (iI p)), some (.int (iI so)), none, none, none]) ⟨Or.inr rfl, Or.inr rfl, Or.inr rfl, Or.inr rfl, Or.inr rfl, Or.inr rfl, Or.inr rfl, Or.inr rfl, Or.inr rfl, Or.inr rfl, Or.inr rfl, Or.inr rfl, Or.inr rfl, Or.inr rfl, Or.inl rfl, Or.inr rfl, Or.inr rfl, trivial⟩ ?_
    exact z_widen (k := c9 + 600) (n := s9 + 8000) (by omega) (by omega) (k _ G ⟨ND, KN, US, μ, d, hG, hK, hLN⟩)
set_option maxHeartbeats 2000000 in
set_option maxRecDepth 100000 in
theorem law_roll {E : zE} {Q : State → Prop} {l : Launch} (hl : l.stackTraces = false) {D : va_G} {cI cZ cM cL : ClassId} {b h ln n : Nat} {LN : Int → Int} {L tu kk i j kd p so : Int} {v : Int32} {G : va_W} {c9 s9 : Nat} (C : zC E cL_law RL wsL_law room_1) (hE : zOf E l D (zTy cI cZ cM cL)) (hLI : LI cI cZ cM h n L LN G) (hi : 0 ≤ i ∧ i < n) (hj : 0 ≤ j ∧ j < n) (hkd : 0 ≤ kd ∧ kd < 8) (hp0 : 0 ≤ p ∧ p < 6) (hc9 : c9 + 600 ≤ 600104) (hs9 : s9 + 8000 ≤ 7301314)
    (k : ∀ (L1 : Int) (G : va_W), LI cI cZ cM h n L1 LN G → zG E Q (c9 + 600) (s9 + 8000) ([(ln, ai cI 8 LN)] ++ G) [some (.ref b), some (.ref h), some (.ref ln), some (.int (iI ↑n)), some (.int (iI L1)), some (.int (iI 1)), some (.int (iI tu)), some (.int (iI kk)), some (.int v), some (.int (iI i)), some (.int (iI j)), some (.int (iI kd)), some (.int (iI p)), some (.int (iI so)), none, none, none] 774 []) : zG E Q c9 s9 ([(ln, ai cI 8 LN)] ++ G) [some (.ref b), some (.ref h), some (.ref ln), some (.int (iI ↑n)), some (.int (iI L)), some (.int (iI 1)), some (.int (iI tu)), some (.int (iI kk)), some (.int v), some (.int (iI i)), some (.int (iI j)), some (.int (iI kd)), some (.int (iI p)), some (.int (iI so)), none, none, none] 713 [] := by
  obtain ⟨ND, KN, US, μ, d, hG, hK, hLN⟩ := hLI
  have hn8 := hG.O.1
  have l1 := lo_r v (m := 201) (by omega)
  have l2 := lo_r (v >>> (iI 3 &&& 31)) (m := 1048576) (by omega)
  obtain ⟨z, hz, z0, z1⟩ := and_20 (b := lo (v >>> (iI 7 &&& 31)) 1048576) l2.1 l2.2
  obtain ⟨-, -, hL0, hL1⟩ := hG.O
  refine z_iload C dL_law_713 rfl ?_
  refine z_sipush (v := iI 201) C dL_law_715 (by decide) ?_
  refine z_callS (n := 2) (As := [.int v, .int (iI 201)]) (st := []) (fr := ([(ln, ai cI 8 LN)] ++ G)) C hE (k_low l D cI cZ cM cL v (201) ⟨by omega, by omega⟩) gL_law_L_low rfl ⟨rfl, rfl⟩ (by decide +kernel) ⟨Nat.le_of_ble_eq_true rfl, Nat.le_of_ble_eq_true rfl⟩ rfl rfl (List.Perm.refl _) (Nat.le_of_ble_eq_true rfl) ⟨by show c9 + 0 ≤ 600104; omega, by show s9 + 0 ≤ 7301314; omega⟩ dL_law_718 (fun r w1 hpo => ?_)
  obtain ⟨rfl, rfl⟩ := hpo
  refine (show zG E Q (c9) (s9) ([(ln, ai cI 8 LN)] ++ G) [some (.ref b), some (.ref h), some (.ref ln), some (.int (iI ↑n)), some (.int (iI L)), some (.int (iI 1)), some (.int (iI tu)), some (.int (iI kk)), some (.int v), some (.int (iI i)), some (.int (iI j)), some (.int (iI kd)), some (.int (iI p)), some (.int (iI so)), none, none, none] 721 [.int (iI (lo v (201)))] from ?_)
  refine z_istore (lv' := [some (.ref b), some (.ref h), some (.ref ln), some (.int (iI ↑n)), some (.int (iI L)), some (.int (iI 1)), some (.int (iI tu)), some (.int (iI kk)), some (.int v), some (.int (iI i)), some (.int (iI j)), some (.int (iI kd)), some (.int (iI p)), some (.int (iI so)), some (.int (iI (lo v (201)))), none, none]) C dL_law_721 rfl rfl ?_
  refine z_aload_n (i := 1) C dL_law_723 rfl rfl ?_
  refine z_iload C dL_law_724 rfl ?_
  refine z_iload C dL_law_726 rfl ?_
  refine z_iconst (v := iI 3) C dL_law_728 rfl ?_
  refine z_ishr C dL_law_729 ?_
  refine z_ldc (v := iI 1048576) C dL_law_730 (by decide +kernel) ?_
  refine z_callS (n := 2) (As := [.int (v >>> ((iI 3) &&& 31)), .int (iI 1048576)]) (st := [.int (iI (lo v (201))), .ref h]) (fr := ([(ln, ai cI 8 LN)] ++ G)) C hE (k_low l D cI cZ cM cL (v >>> (iI 3 &&& 31)) (1048576) ⟨by omega, by omega⟩) gL_law_L_low rfl ⟨rfl, rfl⟩ (by decide +kernel) ⟨Nat.le_of_ble_eq_true rfl, Nat.le_of_ble_eq_true rfl⟩ rfl rfl (List.Perm.refl _) (Nat.le_of_ble_eq_true rfl) ⟨by show c9 + 0 ≤ 600104; omega, by show s9 + 0 ≤ 7301314; omega⟩ dL_law_732 (fun r w1 hpo => ?_)
  obtain ⟨rfl, rfl⟩ := hpo
  refine (show zG E Q (c9) (s9) ([(ln, ai cI 8 LN)] ++ G) [some (.ref b), some (.ref h), some (.ref ln), some (.int (iI ↑n)), some (.int (iI L)), some (.int (iI 1)), some (.int (iI tu)), some (.int (iI kk)), some (.int v), some (.int (iI i)), some (.int (iI j)), some (.int (iI kd)), some (.int (iI p)), some (.int (iI so)), some (.int (iI (lo v (201)))), none, none] 735 [.int (iI (lo (v >>> (iI 3 &&& 31)) (1048576))), .int (iI (lo v (201))), .ref h] from ?_)
  refine z_iload C dL_law_735 rfl ?_
  refine z_bipush (v := iI 7) C dL_law_737 (by decide) ?_
  refine z_ishr C dL_law_739 ?_
  refine z_ldc (v := iI 1048576) C dL_law_740 (by decide +kernel) ?_
  refine z_callS (n := 2) (As := [.int (v >>> ((iI 7) &&& 31)), .int (iI 1048576)]) (st := [.int (iI (lo (v >>> (iI 3 &&& 31)) (1048576))), .int (iI (lo v (201))), .ref h]) (fr := ([(ln, ai cI 8 LN)] ++ G)) C hE (k_low l D cI cZ cM cL (v >>> (iI 7 &&& 31)) (1048576) ⟨by omega, by omega⟩) gL_law_L_low rfl ⟨rfl, rfl⟩ (by decide +kernel) ⟨Nat.le_of_ble_eq_true rfl, Nat.le_of_ble_eq_true rfl⟩ rfl rfl (List.Perm.refl _) (Nat.le_of_ble_eq_true rfl) ⟨by show c9 + 0 ≤ 600104; omega, by show s9 + 0 ≤ 7301314; omega⟩ dL_law_742 (fun r w1 hpo => ?_)
  obtain ⟨rfl, rfl⟩ := hpo
  refine (show zG E Q (c9) (s9) ([(ln, ai cI 8 LN)] ++ G) [some (.ref b), some (.ref h), some (.ref ln), some (.int (iI ↑n)), some (.int (iI L)), some (.int (iI 1)), some (.int (iI tu)), some (.int (iI kk)), some (.int v), some (.int (iI i)), some (.int (iI j)), some (.int (iI kd)), some (.int (iI p)), some (.int (iI so)), some (.int (iI (lo v (201)))), none, none] 745 [.int (iI (lo (v >>> (iI 7 &&& 31)) (1048576))), .int (iI (lo (v >>> (iI 3 &&& 31)) (1048576))), .int (iI (lo v (201))), .ref h] from ?_)
  refine z_iand C dL_law_745 ?_
  refine z_top (y := iI z) (hz) ?_
  obtain ⟨PH, hM, hp⟩ := c_setRoll l hl D cL hG (lo v 201) z ⟨by omega, by omega⟩ ⟨by omega, by omega⟩
  obtain ⟨fs, hG0⟩ := hG.g0
  refine z_callVx (n := 2) (As := [.int (iI (lo v (201))), .int (iI z)]) (st := []) (fr := [(ln, ai cI 8 LN)]) C hE hM gL_law_X4_setRoll rfl ⟨rfl, rfl⟩ (by decide +kernel) ⟨Nat.le_of_ble_eq_true rfl, Nat.le_of_ble_eq_true rfl⟩ rfl rfl List.perm_append_comm 0 hG0 rfl rfl (Nat.le_of_ble_eq_true rfl) ⟨by show c9 + 1 ≤ 600104; omega, by show s9 + 6 ≤ 7301314; omega⟩ dL_law_746 (fun Ex hpx => absurd hpx (pX_no (cSR_ok ⟨by omega, by omega⟩ ⟨by omega, by omega⟩))) (fun r G hpo => ?_)
  obtain ⟨rfl, hG⟩ := hp _ _ hpo
  refine (show zG E Q (c9 + 1) (s9 + 6) (G ++ [(ln, ai cI 8 LN)]) [some (.ref b), some (.ref h), some (.ref ln), some (.int (iI ↑n)), some (.int (iI L)), some (.int (iI 1)), some (.int (iI tu)), some (.int (iI kk)), some (.int v), some (.int (iI i)), some (.int (iI j)), some (.int (iI kd)), some (.int (iI p)), some (.int (iI so)), some (.int (iI (lo v (201)))), none, none] 749 [.int (iI L)] from ?_)
  refine z_perm (ws' := [(ln, ai cI 8 LN)] ++ G) List.perm_append_comm ?_
  refine z_iload C dL_law_749 rfl ?_
  refine z_icmp_neI (tgt := 767) C dL_law_751 (by decide) ⟨by omega, by omega⟩ ⟨by omega, by omega⟩ (fun h => by exfalso; omega) (fun _ => ?_)
  refine z_aload_n (i := 1) C dL_law_754 rfl rfl ?_
  refine z_iload C dL_law_755 rfl ?_
  refine z_callS (n := 2) (As := [.ref h, .int (iI (lo v (201)))]) (st := []) (fr := [(ln, ai cI 8 LN)]) C hE (s_mill l hl D cL hG) gL_law_L_mill rfl ⟨rfl, rfl⟩ (by decide +kernel) ⟨Nat.le_of_ble_eq_true rfl, Nat.le_of_ble_eq_true rfl⟩ rfl rfl List.perm_append_comm (Nat.le_of_ble_eq_true rfl) ⟨by show c9 + 1 + 0 ≤ 600104; omega, by show s9 + 6 + 0 ≤ 7301314; omega⟩ dL_law_757 (fun r G hpo => ?_)
  obtain ⟨rfl, hG⟩ := hpo
  refine (show zG E Q (c9 + 1 + 0) (s9 + 6 + 0) (G ++ [(ln, ai cI 8 LN)]) [some (.ref b), some (.ref h), some (.ref ln), some (.int (iI ↑n)), some (.int (iI L)), some (.int (iI 1)), some (.int (iI tu)), some (.int (iI kk)), some (.int v), some (.int (iI i)), some (.int (iI j)), some (.int (iI kd)), some (.int (iI p)), some (.int (iI so)), some (.int (iI (lo v (201)))), none, none] 760 [.int (iI 1)] from ?_)
  refine z_perm (ws' := [(ln, ai cI 8 LN)] ++ G) List.perm_append_comm ?_
  refine z_if_eqI (tgt := 767) C dL_law_760 (by decide) ⟨by omega, by omega⟩ (fun h => by exfalso; omega) (fun _ => ?_)
  refine z_iconst (v := iI 1) C dL_law_763 rfl ?_
  refine z_goto (tgt := 768) C dL_law_764 (by decide) ?_
  refine z_istore (lv' := [some (.ref b), some (.ref h), some (.ref ln), some (.int (iI ↑n)), some (.int (iI L)), some (.int (iI 1)), some (.int (iI tu)), some (.int (iI kk)), some (.int v), some (.int (iI i)), some (.int (iI j)), some (.int (iI kd)), some (.int (iI p)), some (.int (iI so)), some (.int (iI (lo v (201)))), none, none]) C dL_law_768 rfl rfl ?_
  refine z_iload C dL_law_770 rfl ?_
  refine z_istore (lv' := [some (.ref b), some (.ref h), some (.ref ln), some (.int (iI ↑n)), some (.int (iI (lo v (201)))), some (.int (iI 1)), some (.int (iI tu)), some (.int (iI kk)), some (.int v), some (.int (iI i)), some (.int (iI j)), some (.int (iI kd)), some (.int (iI p)), some (.int (iI so)), some (.int (iI (lo v (201)))), none, none]) C dL_law_772 rfl rfl ?_
  refine z_le (r := [some (.ref b), some (.ref h), some (.ref ln), some (.int (iI ↑n)), some (.int (iI (lo v 201))), some (.int (iI 1)), some (.int (iI tu)), some (.int (iI kk)), some (.int v), some (.int (iI i)), some (.int (iI j)), some (.int (iI kd)), some (.int (iI p)), some (.int (iI so)), none, none, none]) ⟨Or.inr rfl, Or.inr rfl, Or.inr rfl, Or.inr rfl, Or.inr rfl, Or.inr rfl, Or.inr rfl, Or.inr rfl, Or.inr rfl, Or.inr rfl, Or.inr rfl, Or.inr rfl, Or.inr rfl, Or.inr rfl, Or.inl rfl, Or.inr rfl, Or.inr rfl, trivial⟩ ?_
  exact z_widen (k := c9 + 600) (n := s9 + 8000) (by omega) (by omega) (k _ G ⟨ND, KN, US, μ, iI z, hG, hK, hLN⟩)
