/-! P26: THE LAW, second part. -/
theorem LN_add {n : Nat} {LN : Int → Int} {μ : Nat → zM} (h : ∀ i : Int, 0 ≤ i → i < n → LN i = mle (μ i.toNat)) {x : Int} {u : zM} (hu : mle u = x) : ∀ i : Int, 0 ≤ i → i < (n + 1 : Nat) → zup LN n x i = mle (va_up μ n u i.toNat) := by
  intro i h0 h1
  by_cases e : i = n
  · subst e
    rw [zup_self, Int.toNat_natCast, va_up_self, hu]
  · rw [zup_ne _ _ e, va_up_ne _ _ (by omega)]
    exact h i h0 (by omega)
set_option maxHeartbeats 2000000 in
set_option maxRecDepth 100000 in
theorem law_add {E : zE} {Q : State → Prop} {l : Launch} (hl : l.stackTraces = false) {D : va_G} {cI cZ cM cL : ClassId} {b h ln n : Nat} {LN : Int → Int} {L tu kk i j kd p so : Int} {v : Int32} {G : va_W} {c9 s9 : Nat} (C : zC E cL_law RL wsL_law room_1) (hE : zOf E l D (zTy cI cZ cM cL)) (hLI : LI cI cZ cM h n L LN G) (hn : n < 8) (hc9 : c9 + 600 ≤ 600104) (hs9 : s9 + 8000 ≤ 7301314)
    (k : ∀ (LN1 : Int → Int) (G : va_W), LI cI cZ cM h (n + 1) L LN1 G → zG E Q (c9 + 600) (s9 + 8000) ([(ln, ai cI 8 LN1)] ++ G) [some (.ref b), some (.ref h), some (.ref ln), some (.int (iI ↑(n + 1))), some (.int (iI L)), some (.int (iI 1)), some (.int (iI tu)), some (.int (iI kk)), some (.int v), some (.int (iI i)), some (.int (iI j)), some (.int (iI kd)), some (.int (iI p)), some (.int (iI so)), none, none, none] 774 []) : zG E Q c9 s9 ([(ln, ai cI 8 LN)] ++ G) [some (.ref b), some (.ref h), some (.ref ln), some (.int (iI ↑n)), some (.int (iI L)), some (.int (iI 1)), some (.int (iI tu)), some (.int (iI kk)), some (.int v), some (.int (iI i)), some (.int (iI j)), some (.int (iI kd)), some (.int (iI p)), some (.int (iI so)), none, none, none] 176 [] := by
  obtain ⟨ND, KN, US, μ, d, hG, hK, hLN⟩ := hLI
  have k200 : ∀ M : Int, M = 8 ∨ M = 17 → zG E Q c9 s9 ([(ln, ai cI 8 LN)] ++ G) [some (.ref b), some (.ref h), some (.ref ln), some (.int (iI ↑n)), some (.int (iI L)), some (.int (iI 1)), some (.int (iI tu)), some (.int (iI kk)), some (.int v), some (.int (iI i)), some (.int (iI j)), some (.int (iI kd)), some (.int (iI p)), some (.int (iI so)), none, none, none] 200 [.int (iI M), .int v, .int (iI 2), .int (iI ↑n), .ref ln] := by
    intro M hM
    have l1 := lo_r v (m := M) (by omega)
    have l2 := lo_r (v >>> (iI 5 &&& 31)) (m := 10) (by omega)
    refine z_callS (n := 2) (As := [.int v, .int (iI M)]) (st := [.int (iI 2), .int (iI ↑n), .ref ln]) (fr := ([(ln, ai cI 8 LN)] ++ G)) C hE (k_low l D cI cZ cM cL v (M) ⟨by omega, by omega⟩) gL_law_L_low rfl ⟨rfl, rfl⟩ (by decide +kernel) ⟨Nat.le_of_ble_eq_true rfl, Nat.le_of_ble_eq_true rfl⟩ rfl rfl (List.Perm.refl _) (Nat.le_of_ble_eq_true rfl) ⟨by show c9 + 0 ≤ 600104; omega, by show s9 + 0 ≤ 7301314; omega⟩ dL_law_200 (fun r w1 hpo => ?_)
    obtain ⟨rfl, rfl⟩ := hpo
    refine (show zG E Q (c9) (s9) ([(ln, ai cI 8 LN)] ++ G) [some (.ref b), some (.ref h), some (.ref ln), some (.int (iI ↑n)), some (.int (iI L)), some (.int (iI 1)), some (.int (iI tu)), some (.int (iI kk)), some (.int v), some (.int (iI i)), some (.int (iI j)), some (.int (iI kd)), some (.int (iI p)), some (.int (iI so)), none, none, none] 203 [.int (iI (lo v (M))), .int (iI 2), .int (iI ↑n), .ref ln] from ?_)
    refine z_iaddI (v := 2 + (lo v (M))) C dL_law_203 (by omega) ?_
    refine z_iastoreI 0 (he := rfl) (ws' := ([(ln, ai cI 8 (zup LN (↑n) (2 + (lo v (M)))))] ++ G)) C (zT_of hE (t0 := 0) rfl) (by omega) (by omega) (by decide) rfl dL_law_204 ?_
    refine z_aload_n (i := 1) C dL_law_205 rfl rfl ?_
    refine z_iload C dL_law_206 rfl ?_
    refine z_iconst (v := iI 5) C dL_law_208 rfl ?_
    refine z_ishr C dL_law_209 ?_
    refine z_bipush (v := iI 10) C dL_law_210 (by decide) ?_
    refine z_callS (n := 2) (As := [.int (v >>> ((iI 5) &&& 31)), .int (iI 10)]) (st := [.ref h]) (fr := ([(ln, ai cI 8 (zup LN (↑n) (2 + (lo v (M)))))] ++ G)) C hE (k_low l D cI cZ cM cL (v >>> (iI 5 &&& 31)) (10) ⟨by omega, by omega⟩) gL_law_L_low rfl ⟨rfl, rfl⟩ (by decide +kernel) ⟨Nat.le_of_ble_eq_true rfl, Nat.le_of_ble_eq_true rfl⟩ rfl rfl (List.Perm.refl _) (Nat.le_of_ble_eq_true rfl) ⟨by show c9 + 0 ≤ 600104; omega, by show s9 + 0 ≤ 7301314; omega⟩ dL_law_212 (fun r w1 hpo => ?_)
    obtain ⟨rfl, rfl⟩ := hpo
    refine (show zG E Q (c9) (s9) ([(ln, ai cI 8 (zup LN (↑n) (2 + (lo v (M)))))] ++ G) [some (.ref b), some (.ref h), some (.ref ln), some (.int (iI ↑n)), some (.int (iI L)), some (.int (iI 1)), some (.int (iI tu)), some (.int (iI kk)), some (.int v), some (.int (iI i)), some (.int (iI j)), some (.int (iI kd)), some (.int (iI p)), some (.int (iI so)), none, none, none] 215 [.int (iI (lo (v >>> (iI 5 &&& 31)) (10))), .ref h] from ?_)
    refine z_aload_n (i := 2) C dL_law_215 rfl rfl ?_
    refine z_iload_n (i := 3) C dL_law_216 rfl rfl ?_
    refine z_ialoadI 0 (he := rfl) C (zT_of hE (t0 := 0) rfl) (by omega) (by omega) (by decide) dL_law_217 ?_
    refine z_top (y := iI (2 + lo v M)) (by rw [zup_self]) ?_
    obtain ⟨PH, hM, hp⟩ := c_addModel l hl D cL hG (lo (v >>> (iI 5 &&& 31)) 10) (2 + lo v M) ⟨by omega, by omega⟩ ⟨by omega, by omega⟩
    obtain ⟨fs, hG0⟩ := hG.g0
    refine z_callVx (n := 2) (As := [.int (iI (lo (v >>> (iI 5 &&& 31)) (10))), .int (iI (2 + lo v M))]) (st := []) (fr := [(ln, ai cI 8 (zup LN (↑n) (2 + (lo v (M)))))]) C hE hM gL_law_X4_addModel rfl ⟨rfl, rfl⟩ (by decide +kernel) ⟨Nat.le_of_ble_eq_true rfl, Nat.le_of_ble_eq_true rfl⟩ rfl rfl List.perm_append_comm 0 hG0 rfl rfl (Nat.le_of_ble_eq_true rfl) ⟨by show c9 + 11 ≤ 600104; omega, by show s9 + 185 ≤ 7301314; omega⟩ dL_law_218 (fun Ex hpx => absurd hpx (pX_no (cAM_ok ⟨by omega, by omega⟩ ⟨by omega, by omega⟩ hn))) (fun r G hpo => ?_)
    obtain ⟨-, rfl, u9, e1, e2, hG⟩ := hp _ _ hpo
    refine (show zG E Q (c9 + 11) (s9 + 185) (G ++ [(ln, ai cI 8 (zup LN (↑n) (2 + (lo v (M)))))]) [some (.ref b), some (.ref h), some (.ref ln), some (.int (iI ↑n)), some (.int (iI L)), some (.int (iI 1)), some (.int (iI tu)), some (.int (iI kk)), some (.int v), some (.int (iI i)), some (.int (iI j)), some (.int (iI kd)), some (.int (iI p)), some (.int (iI so)), none, none, none] 221 [.int (iI ↑n)] from ?_)
    refine z_perm (ws' := [(ln, ai cI 8 (zup LN (↑n) (2 + (lo v (M)))))] ++ G) List.perm_append_comm ?_
    refine z_iload_n (i := 3) C dL_law_221 rfl rfl ?_
    refine z_icmp_neI (tgt := 240) C dL_law_222 (by decide) ⟨by omega, by omega⟩ ⟨by omega, by omega⟩ (fun h => by exfalso; omega) (fun _ => ?_)
    refine z_aload_n (i := 1) C dL_law_225 rfl rfl ?_
    refine z_iload_n (i := 3) C dL_law_226 rfl rfl ?_
    obtain ⟨PH, hM, hp⟩ := c_places l hl D cL hG n ⟨by omega, by omega⟩
    obtain ⟨fs, hG0⟩ := hG.g0
    refine z_callVx (n := 1) (As := [.int (iI ↑n)]) (st := []) (fr := [(ln, ai cI 8 (zup LN (↑n) (2 + (lo v (M)))))]) C hE hM gL_law_X4_places rfl ⟨rfl, rfl⟩ (by decide +kernel) ⟨Nat.le_of_ble_eq_true rfl, Nat.le_of_ble_eq_true rfl⟩ rfl rfl List.perm_append_comm 0 hG0 rfl rfl (Nat.le_of_ble_eq_true rfl) ⟨by show c9 + 11 + 2 ≤ 600104; omega, by show s9 + 185 + 12 ≤ 7301314; omega⟩ dL_law_227 (fun Ex hpx => absurd hpx (pX_no (cM1_ok ⟨by omega, by omega⟩))) (fun r G hpo => ?_)
    obtain ⟨rfl, hG⟩ := hp _ _ hpo
    rw [Int.toNat_natCast, va_up_self, mgS_new e2, e1]
    refine (show zG E Q (c9 + 11 + 2) (s9 + 185 + 12) (G ++ [(ln, ai cI 8 (zup LN (↑n) (2 + (lo v (M)))))]) [some (.ref b), some (.ref h), some (.ref ln), some (.int (iI ↑n)), some (.int (iI L)), some (.int (iI 1)), some (.int (iI tu)), some (.int (iI kk)), some (.int v), some (.int (iI i)), some (.int (iI j)), some (.int (iI kd)), some (.int (iI p)), some (.int (iI so)), none, none, none] 230 [.int (iI (2 + lo v M))] from ?_)
    refine z_perm (ws' := [(ln, ai cI 8 (zup LN (↑n) (2 + (lo v (M)))))] ++ G) List.perm_append_comm ?_
    refine z_aload_n (i := 2) C dL_law_230 rfl rfl ?_
    refine z_iload_n (i := 3) C dL_law_231 rfl rfl ?_
    refine z_ialoadI 0 (he := rfl) C (zT_of hE (t0 := 0) rfl) (by omega) (by omega) (by decide) dL_law_232 ?_
    refine z_top (y := iI (2 + lo v M)) (by rw [zup_self]) ?_
    refine z_icmp_neI (tgt := 240) C dL_law_233 (by decide) ⟨by omega, by omega⟩ ⟨by omega, by omega⟩ (fun h => by exfalso; omega) (fun _ => ?_)
    refine z_iconst (v := iI 1) C dL_law_236 rfl ?_
    refine z_goto (tgt := 241) C dL_law_237 (by decide) ?_
    refine z_istore (lv' := [some (.ref b), some (.ref h), some (.ref ln), some (.int (iI ↑n)), some (.int (iI L)), some (.int (iI 1)), some (.int (iI tu)), some (.int (iI kk)), some (.int v), some (.int (iI i)), some (.int (iI j)), some (.int (iI kd)), some (.int (iI p)), some (.int (iI so)), none, none, none]) C dL_law_241 rfl rfl ?_
    refine z_iincI (v := ↑(n + 1)) (lv' := [some (.ref b), some (.ref h), some (.ref ln), some (.int (iI (↑(n + 1)))), some (.int (iI L)), some (.int (iI 1)), some (.int (iI tu)), some (.int (iI kk)), some (.int v), some (.int (iI i)), some (.int (iI j)), some (.int (iI kd)), some (.int (iI p)), some (.int (iI so)), none, none, none]) C dL_law_243 rfl (by omega) rfl ?_
    refine z_goto (tgt := 774) C dL_law_246 (by decide) ?_
    exact z_widen (k := c9 + 600) (n := s9 + 8000) (by omega) (by omega) (k _ G ⟨ND, KN, US, (va_up μ n u9), d, hG, hK, LN_add hLN e1⟩)
  have l1 := lo_r (v >>> (iI 17 &&& 31)) (m := 2) (by omega)
  refine z_aload_n (i := 2) C dL_law_176 rfl rfl ?_
  refine z_iload_n (i := 3) C dL_law_177 rfl rfl ?_
  refine z_iconst (v := iI 2) C dL_law_178 rfl ?_
  refine z_iload C dL_law_179 rfl ?_
  refine z_iload C dL_law_181 rfl ?_
  refine z_bipush (v := iI 17) C dL_law_183 (by decide) ?_
  refine z_ishr C dL_law_185 ?_
  refine z_iconst (v := iI 2) C dL_law_186 rfl ?_
  refine z_callS (n := 2) (As := [.int (v >>> ((iI 17) &&& 31)), .int (iI 2)]) (st := [.int v, .int (iI 2), .int (iI ↑n), .ref ln]) (fr := ([(ln, ai cI 8 LN)] ++ G)) C hE (k_low l D cI cZ cM cL (v >>> (iI 17 &&& 31)) (2) ⟨by omega, by omega⟩) gL_law_L_low rfl ⟨rfl, rfl⟩ (by decide +kernel) ⟨Nat.le_of_ble_eq_true rfl, Nat.le_of_ble_eq_true rfl⟩ rfl rfl (List.Perm.refl _) (Nat.le_of_ble_eq_true rfl) ⟨by show c9 + 0 ≤ 600104; omega, by show s9 + 0 ≤ 7301314; omega⟩ dL_law_187 (fun r w1 hpo => ?_)
  obtain ⟨rfl, rfl⟩ := hpo
  refine (show zG E Q (c9) (s9) ([(ln, ai cI 8 LN)] ++ G) [some (.ref b), some (.ref h), some (.ref ln), some (.int (iI ↑n)), some (.int (iI L)), some (.int (iI 1)), some (.int (iI tu)), some (.int (iI kk)), some (.int v), some (.int (iI i)), some (.int (iI j)), some (.int (iI kd)), some (.int (iI p)), some (.int (iI so)), none, none, none] 190 [.int (iI (lo (v >>> (iI 17 &&& 31)) (2))), .int v, .int (iI 2), .int (iI ↑n), .ref ln] from ?_)
  refine z_if_neI (tgt := 198) C dL_law_190 (by decide) ⟨by omega, by omega⟩ (fun hv190 => ?_) (fun hv190 => ?_)
  · refine z_bipush (v := iI 8) C dL_law_198 (by decide) ?_
    exact k200 8 (by omega)
  · refine z_bipush (v := iI 17) C dL_law_193 (by decide) ?_
    refine z_goto (tgt := 200) C dL_law_195 (by decide) ?_
    exact k200 17 (by omega)
set_option maxHeartbeats 2000000 in
set_option maxRecDepth 100000 in
theorem law_tail {E : zE} {Q : State → Prop} {l : Launch} (hl : l.stackTraces = false) {D : va_G} {cI cZ cM cL : ClassId} {b h ln n : Nat} {LN : Int → Int} {L tu kk i j kd p so : Int} {v : Int32} {G : va_W} {c9 s9 : Nat} (C : zC E cL_law RL wsL_law room_1) (hE : zOf E l D (zTy cI cZ cM cL)) (hLI : LI cI cZ cM h n L LN G) (hi : 0 ≤ i ∧ i < n) (hp0 : 0 ≤ p ∧ p < 6) (hkk : 0 ≤ kk ∧ kk ≤ 60) (hc9 : c9 + 5000 ≤ 600104) (hs9 : s9 + 30000 ≤ 7301314)
    (k : ∀ G : va_W, LI cI cZ cM h n L LN G → zG E Q (c9 + 5000) (s9 + 30000) ([(ln, ai cI 8 LN)] ++ G) [some (.ref b), some (.ref h), some (.ref ln), some (.int (iI ↑n)), some (.int (iI L)), some (.int (iI 1)), some (.int (iI tu)), some (.int (iI (kk + 1))), none, none, none, none, none, none, none, none, none] 65 []) : zG E Q c9 s9 ([(ln, ai cI 8 LN)] ++ G) [some (.ref b), some (.ref h), some (.ref ln), some (.int (iI ↑n)), some (.int (iI L)), some (.int (iI 1)), some (.int (iI tu)), some (.int (iI kk)), some (.int v), some (.int (iI i)), some (.int (iI j)), some (.int (iI kd)), some (.int (iI p)), some (.int (iI so)), none, none, none] 774 [] := by
  obtain ⟨ND, KN, US, μ, d, hG, hK, hLN⟩ := hLI
  have hn8 := hG.O.1
  refine z_iload C dL_law_774 rfl ?_
  refine z_if_eqI (tgt := 817) C dL_law_776 (by decide) ⟨by omega, by omega⟩ (fun h => by exfalso; omega) (fun _ => ?_)
  refine z_aload_n (i := 1) C dL_law_779 rfl rfl ?_
  refine z_iload C dL_law_780 rfl ?_
  refine z_iload C dL_law_782 rfl ?_
  refine z_callS (n := 3) (As := [.ref h, .int (iI p), .int (iI i)]) (st := []) (fr := [(ln, ai cI 8 LN)]) C hE (s_school l hl D cL hG p i hp0 hi) gL_law_L_school rfl ⟨rfl, rfl⟩ (by decide +kernel) ⟨Nat.le_of_ble_eq_true rfl, Nat.le_of_ble_eq_true rfl⟩ rfl rfl List.perm_append_comm (Nat.le_of_ble_eq_true rfl) ⟨by show c9 + 90 ≤ 600104; omega, by show s9 + 540 ≤ 7301314; omega⟩ dL_law_784 (fun r G hpo => ?_)
  obtain ⟨rfl, hG⟩ := hpo
  refine (show zG E Q (c9 + 90) (s9 + 540) (G ++ [(ln, ai cI 8 LN)]) [some (.ref b), some (.ref h), some (.ref ln), some (.int (iI ↑n)), some (.int (iI L)), some (.int (iI 1)), some (.int (iI tu)), some (.int (iI kk)), some (.int v), some (.int (iI i)), some (.int (iI j)), some (.int (iI kd)), some (.int (iI p)), some (.int (iI so)), none, none, none] 787 [.int (iI 1)] from ?_)
  refine z_perm (ws' := [(ln, ai cI 8 LN)] ++ G) List.perm_append_comm ?_
  refine z_if_eqI (tgt := 817) C dL_law_787 (by decide) ⟨by omega, by omega⟩ (fun h => by exfalso; omega) (fun _ => ?_)
  refine z_iload C dL_law_790 rfl ?_
  refine z_bipush (v := iI 8) C dL_law_792 (by decide) ?_
  refine z_iremI C dL_law_794 (by omega) (by omega) (by omega) (by omega) ?_
  refine z_bipush (v := iI 7) C dL_law_795 (by decide) ?_
  refine z_icmp_ltI (tgt := 813) C dL_law_797 (by decide) ⟨by omega, by omega⟩ ⟨by omega, by omega⟩ (fun hv797 => ?_) (fun hv797 => ?_)
  · refine z_iconst (v := iI 1) C dL_law_813 rfl ?_
    refine z_goto (tgt := 818) C dL_law_814 (by decide) ?_
    refine z_istore (lv' := [some (.ref b), some (.ref h), some (.ref ln), some (.int (iI ↑n)), some (.int (iI L)), some (.int (iI 1)), some (.int (iI tu)), some (.int (iI kk)), some (.int v), some (.int (iI i)), some (.int (iI j)), some (.int (iI kd)), some (.int (iI p)), some (.int (iI so)), none, none, none]) C dL_law_818 rfl rfl ?_
    refine z_iincI (v := kk + 1) (lv' := [some (.ref b), some (.ref h), some (.ref ln), some (.int (iI ↑n)), some (.int (iI L)), some (.int (iI 1)), some (.int (iI tu)), some (.int (iI (kk + 1))), some (.int v), some (.int (iI i)), some (.int (iI j)), some (.int (iI kd)), some (.int (iI p)), some (.int (iI so)), none, none, none]) C dL_law_820 rfl (by omega) rfl ?_
    refine z_goto (tgt := 65) C dL_law_823 (by decide) ?_
    refine z_le (r := [some (.ref b), some (.ref h), some (.ref ln), some (.int (iI ↑n)), some (.int (iI L)), some (.int (iI 1)), some (.int (iI tu)), some (.int (iI (kk + 1))), none, none, none, none, none, none, none, none, none]) ⟨Or.inr rfl, Or.inr rfl, Or.inr rfl, Or.inr rfl, Or.inr rfl, Or.inr rfl, Or.inr rfl, Or.inr rfl, Or.inl rfl, Or.inl rfl, Or.inl rfl, Or.inl rfl, Or.inl rfl, Or.inl rfl, Or.inr rfl, Or.inr rfl, Or.inr rfl, trivial⟩ ?_
    exact z_widen (k := c9 + 5000) (n := s9 + 30000) (by omega) (by omega) (k G ⟨ND, KN, US, μ, d, hG, hK, hLN⟩)
  · refine z_aload_n (i := 1) C dL_law_800 rfl rfl ?_
    refine z_iload C dL_law_801 rfl ?_
    refine z_aload_n (i := 2) C dL_law_803 rfl rfl ?_
    refine z_iload C dL_law_804 rfl ?_
    refine z_ialoadI 0 (he := rfl) C (zT_of hE (t0 := 0) rfl) (by omega) (by omega) (by decide) dL_law_806 ?_
    refine z_top (y := iI (mle (μ i.toNat))) (by rw [hLN i hi.1 hi.2]) ?_
    refine z_callS (n := 3) (As := [.ref h, .int (iI i), .int (iI (mle (μ i.toNat)))]) (st := []) (fr := [(ln, ai cI 8 LN)]) C hE (s_strip l hl D cL hG i hi) gL_law_L_strip rfl ⟨rfl, rfl⟩ (by decide +kernel) ⟨Nat.le_of_ble_eq_true rfl, Nat.le_of_ble_eq_true rfl⟩ rfl rfl List.perm_append_comm (Nat.le_of_ble_eq_true rfl) ⟨by show c9 + 90 + 4200 ≤ 600104; omega, by show s9 + 540 + 25200 ≤ 7301314; omega⟩ dL_law_807 (fun r G hpo => ?_)
    obtain ⟨rfl, hG⟩ := hpo
    refine (show zG E Q (c9 + 90 + 4200) (s9 + 540 + 25200) (G ++ [(ln, ai cI 8 LN)]) [some (.ref b), some (.ref h), some (.ref ln), some (.int (iI ↑n)), some (.int (iI L)), some (.int (iI 1)), some (.int (iI tu)), some (.int (iI kk)), some (.int v), some (.int (iI i)), some (.int (iI j)), some (.int (iI kd)), some (.int (iI p)), some (.int (iI so)), none, none, none] 810 [.int (iI 1)] from ?_)
    refine z_perm (ws' := [(ln, ai cI 8 LN)] ++ G) List.perm_append_comm ?_
    refine z_if_eqI (tgt := 817) C dL_law_810 (by decide) ⟨by omega, by omega⟩ (fun h => by exfalso; omega) (fun _ => ?_)
    refine z_iconst (v := iI 1) C dL_law_813 rfl ?_
    refine z_goto (tgt := 818) C dL_law_814 (by decide) ?_
    refine z_istore (lv' := [some (.ref b), some (.ref h), some (.ref ln), some (.int (iI ↑n)), some (.int (iI L)), some (.int (iI 1)), some (.int (iI tu)), some (.int (iI kk)), some (.int v), some (.int (iI i)), some (.int (iI j)), some (.int (iI kd)), some (.int (iI p)), some (.int (iI so)), none, none, none]) C dL_law_818 rfl rfl ?_
    refine z_iincI (v := kk + 1) (lv' := [some (.ref b), some (.ref h), some (.ref ln), some (.int (iI ↑n)), some (.int (iI L)), some (.int (iI 1)), some (.int (iI tu)), some (.int (iI (kk + 1))), some (.int v), some (.int (iI i)), some (.int (iI j)), some (.int (iI kd)), some (.int (iI p)), some (.int (iI so)), none, none, none]) C dL_law_820 rfl (by omega) rfl ?_
    refine z_goto (tgt := 65) C dL_law_823 (by decide) ?_
    refine z_le (r := [some (.ref b), some (.ref h), some (.ref ln), some (.int (iI ↑n)), some (.int (iI L)), some (.int (iI 1)), some (.int (iI tu)), some (.int (iI (kk + 1))), none, none, none, none, none, none, none, none, none]) ⟨Or.inr rfl, Or.inr rfl, Or.inr rfl, Or.inr rfl, Or.inr rfl, Or.inr rfl, Or.inr rfl, Or.inr rfl, Or.inl rfl, Or.inl rfl, Or.inl rfl, Or.inl rfl, Or.inl rfl, Or.inl rfl, Or.inr rfl, Or.inr rfl, Or.inr rfl, trivial⟩ ?_
    exact z_widen (k := c9 + 5000) (n := s9 + 30000) (by omega) (by omega) (k G ⟨ND, KN, US, μ, d, hG, hK, hLN⟩)
set_option maxHeartbeats 2000000 in
set_option maxRecDepth 100000 in
theorem law_sort {E : zE} {Q : State → Prop} {l : Launch} (hl : l.stackTraces = false) {D : va_G} {cI cZ cM cL : ClassId} {b h ln n : Nat} {LN : Int → Int} {L tu kk i j : Int} {v : Int32} {G : va_W} {c9 s9 : Nat} (C : zC E cL_law RL wsL_law room_1) (hE : zOf E l D (zTy cI cZ cM cL)) (hLI : LI cI cZ cM h n L LN G) (hi : 0 ≤ i ∧ (i < n ∨ (n = 0 ∧ i = 0))) (hj : 0 ≤ j ∧ (j < n ∨ (n = 0 ∧ j = 0))) (hkk : 0 ≤ kk ∧ kk ≤ 60) (hc9 : c9 + 6000 ≤ 600104) (hs9 : s9 + 40000 ≤ 7301314)
    (k : ∀ (n1 : Nat) (L1 : Int) (LN1 : Int → Int) (G : va_W), LI cI cZ cM h n1 L1 LN1 G → 1 ≤ n1 → zG E Q (c9 + 6000) (s9 + 40000) ([(ln, ai cI 8 LN1)] ++ G) [some (.ref b), some (.ref h), some (.ref ln), some (.int (iI ↑n1)), some (.int (iI L1)), some (.int (iI 1)), some (.int (iI tu)), some (.int (iI (kk + 1))), none, none, none, none, none, none, none, none, none] 65 []) : zG E Q c9 s9 ([(ln, ai cI 8 LN)] ++ G) [some (.ref b), some (.ref h), some (.ref ln), some (.int (iI ↑n)), some (.int (iI L)), some (.int (iI 1)), some (.int (iI tu)), some (.int (iI kk)), some (.int v), some (.int (iI i)), some (.int (iI j)), none, none, none, none, none, none] 124 [] := by
  have hn8 : n ≤ 8 := by
    obtain ⟨ND, KN, US, μ, d, hG, -, -⟩ := hLI
    exact hG.O.1
  have l1 := lo_r (v >>> (iI 9 &&& 31)) (m := 8) (by omega)
  have l2 := lo_r (v >>> (iI 12 &&& 31)) (m := 6) (by omega)
  have l3 := lo_r (v >>> (iI 20 &&& 31)) (m := 16) (by omega)
  refine z_iload C dL_law_124 rfl ?_
  refine z_bipush (v := iI 9) C dL_law_126 (by decide) ?_
  refine z_ishr C dL_law_128 ?_
  refine z_bipush (v := iI 8) C dL_law_129 (by decide) ?_
  refine z_callS (n := 2) (As := [.int (v >>> ((iI 9) &&& 31)), .int (iI 8)]) (st := []) (fr := ([(ln, ai cI 8 LN)] ++ G)) C hE (k_low l D cI cZ cM cL (v >>> (iI 9 &&& 31)) (8) ⟨by omega, by omega⟩) gL_law_L_low rfl ⟨rfl, rfl⟩ (by decide +kernel) ⟨Nat.le_of_ble_eq_true rfl, Nat.le_of_ble_eq_true rfl⟩ rfl rfl (List.Perm.refl _) (Nat.le_of_ble_eq_true rfl) ⟨by show c9 + 0 ≤ 600104; omega, by show s9 + 0 ≤ 7301314; omega⟩ dL_law_131 (fun r w1 hpo => ?_)
  obtain ⟨rfl, rfl⟩ := hpo
  refine (show zG E Q (c9) (s9) ([(ln, ai cI 8 LN)] ++ G) [some (.ref b), some (.ref h), some (.ref ln), some (.int (iI ↑n)), some (.int (iI L)), some (.int (iI 1)), some (.int (iI tu)), some (.int (iI kk)), some (.int v), some (.int (iI i)), some (.int (iI j)), none, none, none, none, none, none] 134 [.int (iI (lo (v >>> (iI 9 &&& 31)) (8)))] from ?_)
  refine z_istore (lv' := [some (.ref b), some (.ref h), some (.ref ln), some (.int (iI ↑n)), some (.int (iI L)), some (.int (iI 1)), some (.int (iI tu)), some (.int (iI kk)), some (.int v), some (.int (iI i)), some (.int (iI j)), some (.int (iI (lo (v >>> (iI 9 &&& 31)) (8)))), none, none, none, none, none]) C dL_law_134 rfl rfl ?_
  refine z_iload C dL_law_136 rfl ?_
  refine z_bipush (v := iI 12) C dL_law_138 (by decide) ?_
  refine z_ishr C dL_law_140 ?_
  refine z_bipush (v := iI 6) C dL_law_141 (by decide) ?_
  refine z_callS (n := 2) (As := [.int (v >>> ((iI 12) &&& 31)), .int (iI 6)]) (st := []) (fr := ([(ln, ai cI 8 LN)] ++ G)) C hE (k_low l D cI cZ cM cL (v >>> (iI 12 &&& 31)) (6) ⟨by omega, by omega⟩) gL_law_L_low rfl ⟨rfl, rfl⟩ (by decide +kernel) ⟨Nat.le_of_ble_eq_true rfl, Nat.le_of_ble_eq_true rfl⟩ rfl rfl (List.Perm.refl _) (Nat.le_of_ble_eq_true rfl) ⟨by show c9 + 0 ≤ 600104; omega, by show s9 + 0 ≤ 7301314; omega⟩ dL_law_143 (fun r w1 hpo => ?_)
  obtain ⟨rfl, rfl⟩ := hpo
  refine (show zG E Q (c9) (s9) ([(ln, ai cI 8 LN)] ++ G) [some (.ref b), some (.ref h), some (.ref ln), some (.int (iI ↑n)), some (.int (iI L)), some (.int (iI 1)), some (.int (iI tu)), some (.int (iI kk)), some (.int v), some (.int (iI i)), some (.int (iI j)), some (.int (iI (lo (v >>> (iI 9 &&& 31)) (8)))), none, none, none, none, none] 146 [.int (iI (lo (v >>> (iI 12 &&& 31)) (6)))] from ?_)
  refine z_istore (lv' := [some (.ref b), some (.ref h), some (.ref ln), some (.int (iI ↑n)), some (.int (iI L)), some (.int (iI 1)), some (.int (iI tu)), some (.int (iI kk)), some (.int v), some (.int (iI i)), some (.int (iI j)), some (.int (iI (lo (v >>> (iI 9 &&& 31)) (8)))), some (.int (iI (lo (v >>> (iI 12 &&& 31)) (6)))), none, none, none, none]) C dL_law_146 rfl rfl ?_
  refine z_iload C dL_law_148 rfl ?_
  refine z_bipush (v := iI 20) C dL_law_150 (by decide) ?_
  refine z_ishr C dL_law_152 ?_
  refine z_bipush (v := iI 16) C dL_law_153 (by decide) ?_
  refine z_callS (n := 2) (As := [.int (v >>> ((iI 20) &&& 31)), .int (iI 16)]) (st := []) (fr := ([(ln, ai cI 8 LN)] ++ G)) C hE (k_low l D cI cZ cM cL (v >>> (iI 20 &&& 31)) (16) ⟨by omega, by omega⟩) gL_law_L_low rfl ⟨rfl, rfl⟩ (by decide +kernel) ⟨Nat.le_of_ble_eq_true rfl, Nat.le_of_ble_eq_true rfl⟩ rfl rfl (List.Perm.refl _) (Nat.le_of_ble_eq_true rfl) ⟨by show c9 + 0 ≤ 600104; omega, by show s9 + 0 ≤ 7301314; omega⟩ dL_law_155 (fun r w1 hpo => ?_)
  obtain ⟨rfl, rfl⟩ := hpo
  refine (show zG E Q (c9) (s9) ([(ln, ai cI 8 LN)] ++ G) [some (.ref b), some (.ref h), some (.ref ln), some (.int (iI ↑n)), some (.int (iI L)), some (.int (iI 1)), some (.int (iI tu)), some (.int (iI kk)), some (.int v), some (.int (iI i)), some (.int (iI j)), some (.int (iI (lo (v >>> (iI 9 &&& 31)) (8)))), some (.int (iI (lo (v >>> (iI 12 &&& 31)) (6)))), none, none, none, none] 158 [.int (iI (lo (v >>> (iI 20 &&& 31)) (16)))] from ?_)
  refine z_istore (lv' := [some (.ref b), some (.ref h), some (.ref ln), some (.int (iI ↑n)), some (.int (iI L)), some (.int (iI 1)), some (.int (iI tu)), some (.int (iI kk)), some (.int v), some (.int (iI i)), some (.int (iI j)), some (.int (iI (lo (v >>> (iI 9 &&& 31)) (8)))), some (.int (iI (lo (v >>> (iI 12 &&& 31)) (6)))), some (.int (iI (lo (v >>> (iI 20 &&& 31)) (16)))), none, none, none]) C dL_law_158 rfl rfl ?_
  refine z_iload_n (i := 3) C dL_law_160 rfl rfl ?_
  refine z_if_eqI (tgt := 176) C dL_law_161 (by decide) ⟨by omega, by omega⟩ (fun hv161 => ?_) (fun hv161 => ?_)
  · exact law_add hl C hE hLI (by omega) (by omega) (by omega) (fun LN1 G hLI => (law_tail hl C hE hLI ⟨by omega, by omega⟩ l2 hkk (by omega) (by omega) (fun G hLI => z_widen (k := c9 + 6000) (n := s9 + 40000) (by omega) (by omega) (k _ _ _ G hLI (by omega)))))
  · refine z_iload C dL_law_164 rfl ?_
    refine z_iconst (v := iI 1) C dL_law_166 rfl ?_
    refine z_icmp_geI (tgt := 249) C dL_law_167 (by decide) ⟨by omega, by omega⟩ ⟨by omega, by omega⟩ (fun hv167 => ?_) (fun hv167 => ?_)
    · refine z_iload C dL_law_249 rfl ?_
      refine z_bipush (v := iI 6) C dL_law_251 (by decide) ?_
      refine z_icmp_geI (tgt := 422) C dL_law_253 (by decide) ⟨by omega, by omega⟩ ⟨by omega, by omega⟩ (fun hv253 => ?_) (fun hv253 => ?_)
      · refine z_iload C dL_law_422 rfl ?_
        refine z_bipush (v := iI 8) C dL_law_424 (by decide) ?_
        refine z_icmp_geI (tgt := 488) C dL_law_426 (by decide) ⟨by omega, by omega⟩ ⟨by omega, by omega⟩ (fun hv426 => ?_) (fun hv426 => ?_)
        · refine z_iload C dL_law_488 rfl ?_
          refine z_bipush (v := iI 10) C dL_law_490 (by decide) ?_
          refine z_icmp_geI (tgt := 566) C dL_law_492 (by decide) ⟨by omega, by omega⟩ ⟨by omega, by omega⟩ (fun hv492 => ?_) (fun hv492 => ?_)
          · refine z_iload C dL_law_566 rfl ?_
            refine z_bipush (v := iI 12) C dL_law_568 (by decide) ?_
            refine z_icmp_geI (tgt := 653) C dL_law_570 (by decide) ⟨by omega, by omega⟩ ⟨by omega, by omega⟩ (fun hv570 => ?_) (fun hv570 => ?_)
            · refine z_iload C dL_law_653 rfl ?_
              refine z_bipush (v := iI 14) C dL_law_655 (by decide) ?_
              refine z_icmp_geI (tgt := 713) C dL_law_657 (by decide) ⟨by omega, by omega⟩ ⟨by omega, by omega⟩ (fun hv657 => ?_) (fun hv657 => ?_)
              · exact law_roll hl C hE hLI ⟨by omega, by omega⟩ ⟨by omega, by omega⟩ l1 l2 (by omega) (by omega) (fun L1 G hLI => (law_tail hl C hE hLI ⟨by omega, by omega⟩ l2 hkk (by omega) (by omega) (fun G hLI => z_widen (k := c9 + 6000) (n := s9 + 40000) (by omega) (by omega) (k _ _ _ G hLI (by omega)))))
              · exact law_teach hl C hE hLI ⟨by omega, by omega⟩ ⟨by omega, by omega⟩ l1 l2 (by omega) (by omega) (fun L1 G hLI => (law_tail hl C hE hLI ⟨by omega, by omega⟩ l2 hkk (by omega) (by omega) (fun G hLI => z_widen (k := c9 + 6000) (n := s9 + 40000) (by omega) (by omega) (k _ _ _ G hLI (by omega)))))
            · exact law_use hl C hE hLI ⟨by omega, by omega⟩ ⟨by omega, by omega⟩ l1 l2 (by omega) (by omega) (fun L1 G hLI => (law_tail hl C hE hLI ⟨by omega, by omega⟩ l2 hkk (by omega) (by omega) (fun G hLI => z_widen (k := c9 + 6000) (n := s9 + 40000) (by omega) (by omega) (k _ _ _ G hLI (by omega)))))
          · exact law_needs hl C hE hLI ⟨by omega, by omega⟩ ⟨by omega, by omega⟩ l1 l2 (by omega) (by omega) (fun L1 G hLI => (law_tail hl C hE hLI ⟨by omega, by omega⟩ l2 hkk (by omega) (by omega) (fun G hLI => z_widen (k := c9 + 6000) (n := s9 + 40000) (by omega) (by omega) (k _ _ _ G hLI (by omega)))))
        · exact law_unfold hl C hE hLI ⟨by omega, by omega⟩ ⟨by omega, by omega⟩ l1 l2 (by omega) (by omega) (fun L1 G hLI => (law_tail hl C hE hLI ⟨by omega, by omega⟩ l2 hkk (by omega) (by omega) (fun G hLI => z_widen (k := c9 + 6000) (n := s9 + 40000) (by omega) (by omega) (k _ _ _ G hLI (by omega)))))
      · exact law_fold hl C hE hLI ⟨by omega, by omega⟩ ⟨by omega, by omega⟩ l1 l2 (by omega) (by omega) (fun L1 G hLI => (law_tail hl C hE hLI ⟨by omega, by omega⟩ l2 hkk (by omega) (by omega) (fun G hLI => z_widen (k := c9 + 6000) (n := s9 + 40000) (by omega) (by omega) (k _ _ _ G hLI (by omega)))))
    · refine z_iload_n (i := 3) C dL_law_170 rfl rfl ?_
      refine z_bipush (v := iI 8) C dL_law_171 (by decide) ?_
      refine z_icmp_geI (tgt := 249) C dL_law_173 (by decide) ⟨by omega, by omega⟩ ⟨by omega, by omega⟩ (fun hv173 => ?_) (fun hv173 => ?_)
      · refine z_iload C dL_law_249 rfl ?_
        refine z_bipush (v := iI 6) C dL_law_251 (by decide) ?_
        refine z_icmp_geI (tgt := 422) C dL_law_253 (by decide) ⟨by omega, by omega⟩ ⟨by omega, by omega⟩ (fun hv253 => ?_) (fun hv253 => ?_)
        · refine z_iload C dL_law_422 rfl ?_
          refine z_bipush (v := iI 8) C dL_law_424 (by decide) ?_
          refine z_icmp_geI (tgt := 488) C dL_law_426 (by decide) ⟨by omega, by omega⟩ ⟨by omega, by omega⟩ (fun hv426 => ?_) (fun hv426 => ?_)
          · refine z_iload C dL_law_488 rfl ?_
            refine z_bipush (v := iI 10) C dL_law_490 (by decide) ?_
            refine z_icmp_geI (tgt := 566) C dL_law_492 (by decide) ⟨by omega, by omega⟩ ⟨by omega, by omega⟩ (fun hv492 => ?_) (fun hv492 => ?_)
            · refine z_iload C dL_law_566 rfl ?_
              refine z_bipush (v := iI 12) C dL_law_568 (by decide) ?_
              refine z_icmp_geI (tgt := 653) C dL_law_570 (by decide) ⟨by omega, by omega⟩ ⟨by omega, by omega⟩ (fun hv570 => ?_) (fun hv570 => ?_)
              · refine z_iload C dL_law_653 rfl ?_
                refine z_bipush (v := iI 14) C dL_law_655 (by decide) ?_
                refine z_icmp_geI (tgt := 713) C dL_law_657 (by decide) ⟨by omega, by omega⟩ ⟨by omega, by omega⟩ (fun hv657 => ?_) (fun hv657 => ?_)
                · exact law_roll hl C hE hLI ⟨by omega, by omega⟩ ⟨by omega, by omega⟩ l1 l2 (by omega) (by omega) (fun L1 G hLI => (law_tail hl C hE hLI ⟨by omega, by omega⟩ l2 hkk (by omega) (by omega) (fun G hLI => z_widen (k := c9 + 6000) (n := s9 + 40000) (by omega) (by omega) (k _ _ _ G hLI (by omega)))))
                · exact law_teach hl C hE hLI ⟨by omega, by omega⟩ ⟨by omega, by omega⟩ l1 l2 (by omega) (by omega) (fun L1 G hLI => (law_tail hl C hE hLI ⟨by omega, by omega⟩ l2 hkk (by omega) (by omega) (fun G hLI => z_widen (k := c9 + 6000) (n := s9 + 40000) (by omega) (by omega) (k _ _ _ G hLI (by omega)))))
              · exact law_use hl C hE hLI ⟨by omega, by omega⟩ ⟨by omega, by omega⟩ l1 l2 (by omega) (by omega) (fun L1 G hLI => (law_tail hl C hE hLI ⟨by omega, by omega⟩ l2 hkk (by omega) (by omega) (fun G hLI => z_widen (k := c9 + 6000) (n := s9 + 40000) (by omega) (by omega) (k _ _ _ G hLI (by omega)))))
            · exact law_needs hl C hE hLI ⟨by omega, by omega⟩ ⟨by omega, by omega⟩ l1 l2 (by omega) (by omega) (fun L1 G hLI => (law_tail hl C hE hLI ⟨by omega, by omega⟩ l2 hkk (by omega) (by omega) (fun G hLI => z_widen (k := c9 + 6000) (n := s9 + 40000) (by omega) (by omega) (k _ _ _ G hLI (by omega)))))
          · exact law_unfold hl C hE hLI ⟨by omega, by omega⟩ ⟨by omega, by omega⟩ l1 l2 (by omega) (by omega) (fun L1 G hLI => (law_tail hl C hE hLI ⟨by omega, by omega⟩ l2 hkk (by omega) (by omega) (fun G hLI => z_widen (k := c9 + 6000) (n := s9 + 40000) (by omega) (by omega) (k _ _ _ G hLI (by omega)))))
        · exact law_fold hl C hE hLI ⟨by omega, by omega⟩ ⟨by omega, by omega⟩ l1 l2 (by omega) (by omega) (fun L1 G hLI => (law_tail hl C hE hLI ⟨by omega, by omega⟩ l2 hkk (by omega) (by omega) (fun G hLI => z_widen (k := c9 + 6000) (n := s9 + 40000) (by omega) (by omega) (k _ _ _ G hLI (by omega)))))
      · exact law_add hl C hE hLI (by omega) (by omega) (by omega) (fun LN1 G hLI => (law_tail hl C hE hLI ⟨by omega, by omega⟩ l2 hkk (by omega) (by omega) (fun G hLI => z_widen (k := c9 + 6000) (n := s9 + 40000) (by omega) (by omega) (k _ _ _ G hLI (by omega)))))
set_option maxHeartbeats 2000000 in
set_option maxRecDepth 100000 in
theorem law_turn {E : zE} {Q : State → Prop} {l : Launch} (hl : l.stackTraces = false) {D : va_G} {cI cZ cM cL : ClassId} {b h ln n LS : Nat} {xs : Nat → Int32} {LN : Int → Int} {L tu kk : Int} {G : va_W} {c9 s9 : Nat} (C : zC E cL_law RL wsL_law room_1) (hE : zOf E l D (zTy cI cZ cM cL)) (hS : zScr E b LS xs) (hLS : LS ≤ 260) (hLI : LI cI cZ cM h n L LN G) (hkk : 0 ≤ kk ∧ kk ≤ 60) (hc9 : c9 + 6000 ≤ 600104) (hs9 : s9 + 40000 ≤ 7301314)
    (k : ∀ (n1 : Nat) (L1 : Int) (LN1 : Int → Int) (G : va_W), LI cI cZ cM h n1 L1 LN1 G → 1 ≤ n1 → zG E Q (c9 + 6000) (s9 + 40000) ([(ln, ai cI 8 LN1)] ++ G) [some (.ref b), some (.ref h), some (.ref ln), some (.int (iI ↑n1)), some (.int (iI L1)), some (.int (iI 1)), some (.int (iI tu)), some (.int (iI (kk + 1))), none, none, none, none, none, none, none, none, none] 65 []) : zG E Q c9 s9 ([(ln, ai cI 8 LN)] ++ G) [some (.ref b), some (.ref h), some (.ref ln), some (.int (iI ↑n)), some (.int (iI L)), some (.int (iI 1)), some (.int (iI tu)), some (.int (iI kk)), none, none, none, none, none, none, none, none, none] 77 [] := by
  have hn8 : n ≤ 8 := by
    obtain ⟨ND, KN, US, μ, d, hG, -, -⟩ := hLI
    exact hG.O.1
  refine z_aload_n (i := 0) C dL_law_77 rfl rfl ?_
  refine z_iconst (v := iI 1) C dL_law_78 rfl ?_
  refine z_iload C dL_law_79 rfl ?_
  refine z_iaddI (v := 1 + kk) C dL_law_81 (by omega) ?_
  refine z_callSS (n := 2) (As := [.ref b, .int (iI (1 + kk))]) (st := []) C hE hS (k_cell l D cI cZ cM cL b LS xs hLS (1 + kk) ⟨by omega, by omega⟩) gL_law_L_cell rfl ⟨rfl, rfl⟩ (by decide +kernel) ⟨Nat.le_of_ble_eq_true rfl, Nat.le_of_ble_eq_true rfl⟩ rfl rfl (Nat.le_of_ble_eq_true rfl) ⟨by show c9 + 0 ≤ 600104; omega, by show s9 + 0 ≤ 7301314; omega⟩ dL_law_82 (fun r w1 hpo => ?_)
  obtain ⟨⟨v, rfl⟩, rfl⟩ := hpo
  refine (show zG E Q (c9) (s9) ([(ln, ai cI 8 LN)] ++ G) [some (.ref b), some (.ref h), some (.ref ln), some (.int (iI ↑n)), some (.int (iI L)), some (.int (iI 1)), some (.int (iI tu)), some (.int (iI kk)), none, none, none, none, none, none, none, none, none] 85 [.int v] from ?_)
  have k122 : ∀ i j : Int, (0 ≤ i ∧ (i < n ∨ (n = 0 ∧ i = 0))) → (0 ≤ j ∧ (j < n ∨ (n = 0 ∧ j = 0))) → zG E Q c9 s9 ([(ln, ai cI 8 LN)] ++ G) [some (.ref b), some (.ref h), some (.ref ln), some (.int (iI ↑n)), some (.int (iI L)), some (.int (iI 1)), some (.int (iI tu)), some (.int (iI kk)), some (.int v), some (.int (iI i)), none, none, none, none, none, none, none] 122 [.int (iI j)] := by
    intro i j hi hj
    refine z_istore (lv' := [some (.ref b), some (.ref h), some (.ref ln), some (.int (iI ↑n)), some (.int (iI L)), some (.int (iI 1)), some (.int (iI tu)), some (.int (iI kk)), some (.int v), some (.int (iI i)), some (.int (iI j)), none, none, none, none, none, none]) C dL_law_122 rfl rfl ?_
    exact law_sort hl C hE hLI hi hj hkk hc9 hs9 k
  have k103 : ∀ i : Int, (0 ≤ i ∧ (i < n ∨ (n = 0 ∧ i = 0))) → zG E Q c9 s9 ([(ln, ai cI 8 LN)] ++ G) [some (.ref b), some (.ref h), some (.ref ln), some (.int (iI ↑n)), some (.int (iI L)), some (.int (iI 1)), some (.int (iI tu)), some (.int (iI kk)), some (.int v), none, none, none, none, none, none, none, none] 103 [.int (iI i)] := by
    intro i hi
    refine z_istore (lv' := [some (.ref b), some (.ref h), some (.ref ln), some (.int (iI ↑n)), some (.int (iI L)), some (.int (iI 1)), some (.int (iI tu)), some (.int (iI kk)), some (.int v), some (.int (iI i)), none, none, none, none, none, none, none]) C dL_law_103 rfl rfl ?_
    refine z_iload_n (i := 3) C dL_law_105 rfl rfl ?_
    refine z_if_neI (tgt := 113) C dL_law_106 (by decide) ⟨by omega, by omega⟩ (fun hv106 => ?_) (fun hv106 => ?_)
    · refine z_iload C dL_law_113 rfl ?_
      refine z_bipush (v := iI 6) C dL_law_115 (by decide) ?_
      refine z_ishr C dL_law_117 ?_
      refine z_iload_n (i := 3) C dL_law_118 rfl rfl ?_
      refine z_callS (n := 2) (As := [.int (v >>> ((iI 6) &&& 31)), .int (iI ↑n)]) (st := []) (fr := ([(ln, ai cI 8 LN)] ++ G)) C hE (k_low l D cI cZ cM cL (v >>> (iI 6 &&& 31)) (↑n) ⟨by omega, by omega⟩) gL_law_L_low rfl ⟨rfl, rfl⟩ (by decide +kernel) ⟨Nat.le_of_ble_eq_true rfl, Nat.le_of_ble_eq_true rfl⟩ rfl rfl (List.Perm.refl _) (Nat.le_of_ble_eq_true rfl) ⟨by show c9 + 0 ≤ 600104; omega, by show s9 + 0 ≤ 7301314; omega⟩ dL_law_119 (fun r w1 hpo => ?_)
      obtain ⟨rfl, rfl⟩ := hpo
      refine (show zG E Q (c9) (s9) ([(ln, ai cI 8 LN)] ++ G) [some (.ref b), some (.ref h), some (.ref ln), some (.int (iI ↑n)), some (.int (iI L)), some (.int (iI 1)), some (.int (iI tu)), some (.int (iI kk)), some (.int v), some (.int (iI i)), none, none, none, none, none, none, none] 122 [.int (iI (lo (v >>> (iI 6 &&& 31)) ↑n))] from ?_)
      exact k122 i _ hi (by have := lo_r (v >>> (iI 6 &&& 31)) (m := ↑n) (by omega); omega)
    · refine z_iconst (v := iI 0) C dL_law_109 rfl ?_
      refine z_goto (tgt := 122) C dL_law_110 (by decide) ?_
      exact k122 i 0 hi (by omega)
  refine z_istore (lv' := [some (.ref b), some (.ref h), some (.ref ln), some (.int (iI ↑n)), some (.int (iI L)), some (.int (iI 1)), some (.int (iI tu)), some (.int (iI kk)), some (.int v), none, none, none, none, none, none, none, none]) C dL_law_85 rfl rfl ?_
  refine z_iload_n (i := 3) C dL_law_87 rfl rfl ?_
  refine z_if_neI (tgt := 95) C dL_law_88 (by decide) ⟨by omega, by omega⟩ (fun hv88 => ?_) (fun hv88 => ?_)
  · refine z_iload C dL_law_95 rfl ?_
    refine z_iconst (v := iI 3) C dL_law_97 rfl ?_
    refine z_ishr C dL_law_98 ?_
    refine z_iload_n (i := 3) C dL_law_99 rfl rfl ?_
    refine z_callS (n := 2) (As := [.int (v >>> ((iI 3) &&& 31)), .int (iI ↑n)]) (st := []) (fr := ([(ln, ai cI 8 LN)] ++ G)) C hE (k_low l D cI cZ cM cL (v >>> (iI 3 &&& 31)) (↑n) ⟨by omega, by omega⟩) gL_law_L_low rfl ⟨rfl, rfl⟩ (by decide +kernel) ⟨Nat.le_of_ble_eq_true rfl, Nat.le_of_ble_eq_true rfl⟩ rfl rfl (List.Perm.refl _) (Nat.le_of_ble_eq_true rfl) ⟨by show c9 + 0 ≤ 600104; omega, by show s9 + 0 ≤ 7301314; omega⟩ dL_law_100 (fun r w1 hpo => ?_)
    obtain ⟨rfl, rfl⟩ := hpo
    refine (show zG E Q (c9) (s9) ([(ln, ai cI 8 LN)] ++ G) [some (.ref b), some (.ref h), some (.ref ln), some (.int (iI ↑n)), some (.int (iI L)), some (.int (iI 1)), some (.int (iI tu)), some (.int (iI kk)), some (.int v), none, none, none, none, none, none, none, none] 103 [.int (iI (lo (v >>> (iI 3 &&& 31)) ↑n))] from ?_)
    exact k103 _ (by have := lo_r (v >>> (iI 3 &&& 31)) (m := ↑n) (by omega); omega)
  · refine z_iconst (v := iI 0) C dL_law_91 rfl ?_
    refine z_goto (tgt := 103) C dL_law_92 (by decide) ?_
    exact k103 0 (by omega)
set_option maxHeartbeats 2000000 in
set_option maxRecDepth 100000 in
theorem law_end {E : zE} {Q : State → Prop} {l : Launch} (hl : l.stackTraces = false) {D : va_G} {cI cZ cM cL : ClassId} {b h ln n LS : Nat} {xs : Nat → Int32} {LN : Int → Int} {L tu kk : Int} {G : va_W} {c9 s9 : Nat} (C : zC E cL_law RL wsL_law room_1) (hE : zOf E l D (zTy cI cZ cM cL)) (hS : zScr E b LS xs) (hLS : LS ≤ 260) (hLI : LI cI cZ cM h n L LN G) (hn : 1 ≤ n) (hc9 : c9 + 5000 ≤ 600104) (hs9 : s9 + 30000 ≤ 7301314)
    (k : ∀ (lv : List (Option Value)) (ws : va_W), zG E Q (c9 + 5000) (s9 + 30000) ws lv 865 [.int (iI 1)]) : zG E Q c9 s9 ([(ln, ai cI 8 LN)] ++ G) [some (.ref b), some (.ref h), some (.ref ln), some (.int (iI ↑n)), some (.int (iI L)), some (.int (iI 1)), some (.int (iI tu)), some (.int (iI kk)), none, none, none, none, none, none, none, none, none] 826 [] := by
  obtain ⟨ND, KN, US, μ, d, hG, hK, hLN⟩ := hLI
  have hn8 := hG.O.1
  refine z_iload C dL_law_826 rfl ?_
  refine z_if_eqI (tgt := 864) C dL_law_828 (by decide) ⟨by omega, by omega⟩ (fun h => by exfalso; omega) (fun _ => ?_)
  refine z_aload_n (i := 1) C dL_law_831 rfl rfl ?_
  refine z_iconst (v := iI 0) C dL_law_832 rfl ?_
  refine z_aload_n (i := 2) C dL_law_833 rfl rfl ?_
  refine z_iconst (v := iI 0) C dL_law_834 rfl ?_
  refine z_ialoadI 0 (he := rfl) C (zT_of hE (t0 := 0) rfl) (by omega) (by omega) (by decide) dL_law_835 ?_
  refine z_top (y := iI (mle (μ (0 : Int).toNat))) (by rw [hLN 0 (by omega) (by omega)]) ?_
  refine z_callS (n := 3) (As := [.ref h, .int (iI 0), .int (iI (mle (μ (0 : Int).toNat)))]) (st := []) (fr := [(ln, ai cI 8 LN)]) C hE (s_strip l hl D cL hG 0 ⟨by omega, by omega⟩) gL_law_L_strip rfl ⟨rfl, rfl⟩ (by decide +kernel) ⟨Nat.le_of_ble_eq_true rfl, Nat.le_of_ble_eq_true rfl⟩ rfl rfl List.perm_append_comm (Nat.le_of_ble_eq_true rfl) ⟨by show c9 + 4200 ≤ 600104; omega, by show s9 + 25200 ≤ 7301314; omega⟩ dL_law_836 (fun r G hpo => ?_)
  obtain ⟨rfl, hG⟩ := hpo
  refine (show zG E Q (c9 + 4200) (s9 + 25200) (G ++ [(ln, ai cI 8 LN)]) [some (.ref b), some (.ref h), some (.ref ln), some (.int (iI ↑n)), some (.int (iI L)), some (.int (iI 1)), some (.int (iI tu)), some (.int (iI kk)), none, none, none, none, none, none, none, none, none] 839 [.int (iI 1)] from ?_)
  refine z_perm (ws' := [(ln, ai cI 8 LN)] ++ G) List.perm_append_comm ?_
  refine z_if_eqI (tgt := 864) C dL_law_839 (by decide) ⟨by omega, by omega⟩ (fun h => by exfalso; omega) (fun _ => ?_)
  refine z_aload_n (i := 1) C dL_law_842 rfl rfl ?_
  refine z_aload_n (i := 0) C dL_law_843 rfl rfl ?_
  refine z_iconst (v := iI 1) C dL_law_844 rfl ?_
  refine z_callSS (n := 2) (As := [.ref b, .int (iI (1))]) (st := [.ref h]) C hE hS (k_cell l D cI cZ cM cL b LS xs hLS (1) ⟨by omega, by omega⟩) gL_law_L_cell rfl ⟨rfl, rfl⟩ (by decide +kernel) ⟨Nat.le_of_ble_eq_true rfl, Nat.le_of_ble_eq_true rfl⟩ rfl rfl (Nat.le_of_ble_eq_true rfl) ⟨by show c9 + 4200 + 0 ≤ 600104; omega, by show s9 + 25200 + 0 ≤ 7301314; omega⟩ dL_law_845 (fun r w1 hpo => ?_)
  obtain ⟨⟨v, rfl⟩, rfl⟩ := hpo
  refine (show zG E Q (c9 + 4200) (s9 + 25200) ([(ln, ai cI 8 LN)] ++ G) [some (.ref b), some (.ref h), some (.ref ln), some (.int (iI ↑n)), some (.int (iI L)), some (.int (iI 1)), some (.int (iI tu)), some (.int (iI kk)), none, none, none, none, none, none, none, none, none] 848 [.int v, .ref h] from ?_)
  have l1 := lo_r v (m := 10) (by omega)
  have l2 := crB_r US (moB μ (lo v 10) n) n
  refine z_bipush (v := iI 10) C dL_law_848 (by decide) ?_
  refine z_callS (n := 2) (As := [.int v, .int (iI 10)]) (st := [.ref h]) (fr := ([(ln, ai cI 8 LN)] ++ G)) C hE (k_low l D cI cZ cM cL v (10) ⟨by omega, by omega⟩) gL_law_L_low rfl ⟨rfl, rfl⟩ (by decide +kernel) ⟨Nat.le_of_ble_eq_true rfl, Nat.le_of_ble_eq_true rfl⟩ rfl rfl (List.Perm.refl _) (Nat.le_of_ble_eq_true rfl) ⟨by show c9 + 4200 + 0 ≤ 600104; omega, by show s9 + 25200 + 0 ≤ 7301314; omega⟩ dL_law_850 (fun r w1 hpo => ?_)
  obtain ⟨rfl, rfl⟩ := hpo
  refine (show zG E Q (c9 + 4200) (s9 + 25200) ([(ln, ai cI 8 LN)] ++ G) [some (.ref b), some (.ref h), some (.ref ln), some (.int (iI ↑n)), some (.int (iI L)), some (.int (iI 1)), some (.int (iI tu)), some (.int (iI kk)), none, none, none, none, none, none, none, none, none] 853 [.int (iI (lo v (10))), .ref h] from ?_)
  obtain ⟨PH, hM, hp⟩ := c_credit l hl D cL hG (lo v 10) ⟨by omega, by omega⟩
  obtain ⟨fs, hG0⟩ := hG.g0
  refine z_callVx (n := 1) (As := [.int (iI (lo v (10)))]) (st := []) (fr := [(ln, ai cI 8 LN)]) C hE hM gL_law_X4_credit rfl ⟨rfl, rfl⟩ (by decide +kernel) ⟨Nat.le_of_ble_eq_true rfl, Nat.le_of_ble_eq_true rfl⟩ rfl rfl List.perm_append_comm 0 hG0 rfl rfl (Nat.le_of_ble_eq_true rfl) ⟨by show c9 + 4200 + 17 ≤ 600104; omega, by show s9 + 25200 + 102 ≤ 7301314; omega⟩ dL_law_853 (fun Ex hpx => absurd hpx (pX_no (cCR_ok l1))) (fun r G hpo => ?_)
  obtain ⟨rfl, hG⟩ := hp _ _ hpo
  refine (show zG E Q (c9 + 4200 + 17) (s9 + 25200 + 102) (G ++ [(ln, ai cI 8 LN)]) [some (.ref b), some (.ref h), some (.ref ln), some (.int (iI ↑n)), some (.int (iI L)), some (.int (iI 1)), some (.int (iI tu)), some (.int (iI kk)), none, none, none, none, none, none, none, none, none] 856 [.int (iI (crB US (moB μ (lo v 10) n) n))] from ?_)
  refine z_perm (ws' := [(ln, ai cI 8 LN)] ++ G) List.perm_append_comm ?_
  refine z_iload_n (i := 3) C dL_law_856 rfl rfl ?_
  refine z_icmp_gtI (tgt := 864) C dL_law_857 (by decide) ⟨by omega, by omega⟩ ⟨by omega, by omega⟩ (fun h => by exfalso; omega) (fun _ => ?_)
  refine z_iconst (v := iI 1) C dL_law_860 rfl ?_
  refine z_goto (tgt := 865) C dL_law_861 (by decide) ?_
  exact z_widen (k := c9 + 5000) (n := s9 + 30000) (by omega) (by omega) (k _ _)
set_option maxHeartbeats 2000000 in
theorem law_loop {E : zE} {Q : State → Prop} {l : Launch} (hl : l.stackTraces = false) {D : va_G} {cI cZ cM cL : ClassId} {b h ln LS : Nat} {xs : Nat → Int32} {tu : Int} (C : zC E cL_law RL wsL_law room_1) (hE : zOf E l D (zTy cI cZ cM cL)) (hS : zScr E b LS xs) (hLS : LS ≤ 260) (htu : 5 ≤ tu ∧ tu < 50)
    (kEnd : ∀ (lv : List (Option Value)) (ws : va_W) (c9 s9 : Nat), c9 ≤ 600104 → s9 ≤ 7301314 → zG E Q c9 s9 ws lv 865 [.int (iI 1)]) :
    ∀ (m q n : Nat) (L : Int) (LN : Int → Int) (G : va_W), tu - q < m → (q : Int) ≤ tu → LI cI cZ cM h n L LN G → (q = 0 ∨ 1 ≤ n) → zG E Q (100 + 6000 * q) (2000 + 40000 * q) ([(ln, ai cI 8 LN)] ++ G) [some (.ref b), some (.ref h), some (.ref ln), some (.int (iI ↑n)), some (.int (iI L)), some (.int (iI 1)), some (.int (iI tu)), some (.int (iI ↑q)), none, none, none, none, none, none, none, none, none] 65 [] := by
  intro m
  induction m with
  | zero => intro q n L LN G h1 h2; omega
  | succ m ih =>
    intro q n L LN G h1 h2 hLI hq
    refine z_iload C dL_law_65 rfl ?_
    refine z_iload C dL_law_67 rfl ?_
    refine z_icmp_geI (tgt := 826) C dL_law_69 (by decide) ⟨by omega, by omega⟩ ⟨by omega, by omega⟩ (fun hc => ?_) (fun hc => ?_)
    · exact law_end hl C hE hS hLS hLI (by omega) (by omega) (by omega) (fun lv ws => kEnd lv ws _ _ (by omega) (by omega))
    · refine z_iload C dL_law_72 rfl ?_
      refine z_if_eqI (tgt := 826) C dL_law_74 (by decide) ⟨by omega, by omega⟩ (fun h => by exfalso; omega) (fun _ => ?_)
      refine law_turn hl C hE hS hLS hLI ⟨by omega, by omega⟩ (by omega) (by omega) (fun n1 L1 LN1 G hLI hn1 => ?_)
      have e1 : 100 + 6000 * q + 6000 = 100 + 6000 * (q + 1) := by omega
      have e2 : 2000 + 40000 * q + 40000 = 2000 + 40000 * (q + 1) := by omega
      rw [e1, e2]
      exact ih (q + 1) n1 L1 LN1 G (by omega) (by omega) hLI (Or.inr hn1)
