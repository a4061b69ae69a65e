/-! P26: the law's helpers. -/
theorem cM1_ok {n : Nat} {i : Int} (h : 0 ≤ i ∧ i < n) : cM1 n i = 0 := by unfold cM1; rw [if_neg (by omega)]
theorem cPO_ok {n : Nat} {u : zM} {i q : Int} (h : 0 ≤ i ∧ i < n) (h2 : 0 ≤ q ∧ q < mle u) : cPO n u i q = 0 := by unfold cPO; rw [if_neg (by omega)]
theorem cBE_ok {n : Nat} {i g : Int} (h : 0 ≤ i ∧ i < n) (h2 : 0 ≤ g ∧ g ≤ 20) : cBE n i g = 0 := by unfold cBE; rw [if_neg (by omega), if_neg (by omega)]
theorem cEX_ok {n : Nat} {p i : Int} (h : 0 ≤ i ∧ i < n) (h2 : 0 ≤ p ∧ p < 6) : cEX n p i = 0 := by unfold cEX; rw [if_neg (by omega)]
theorem cCR_ok {a : Int} (h : 0 ≤ a ∧ a < 10) : cCR a = 0 := by unfold cCR; rw [if_neg (by omega)]
theorem cSR_ok {a b : Int} (h : 0 ≤ a ∧ a ≤ 200) (h2 : 0 ≤ b ∧ b ≤ 1048575) : cSR a b = 0 := by unfold cSR; rw [if_neg (by omega)]
theorem cAM_ok {n : Nat} {a b : Int} (h : 0 ≤ a ∧ a < 10) (h2 : 2 ≤ b ∧ b ≤ 32) (h3 : n < 8) : cAM n a b = 0 := by unfold cAM; rw [if_neg (by omega), if_neg (by omega), if_neg (by omega)]
theorem cSN_r {ND : Int → Int32} {k w : Int} (h : 0 ≤ k ∧ k < 8) (h2 : 0 ≤ w ∧ w ≤ 255) : cSN ND k w = 0 ∨ cSN ND k w = 2 := by
  unfold cSN
  rw [if_neg (by omega), if_neg (by omega)]
  split
  · exact Or.inr rfl
  · exact Or.inl rfl
theorem cFO_r {n : Nat} {ND : Int → Int32} {u : zM} {i k p : Int} (h : 0 ≤ i ∧ i < n) (h1 : 0 ≤ k ∧ k < 8) (h2 : 1 ≤ p ∧ p ≤ mgS u - 1) : cFO n ND u i k p = 0 ∨ cFO n ND u i k p = 3 := by
  unfold cFO
  rw [if_neg (by omega), if_neg (by omega)]
  split
  · exact Or.inr rfl
  · exact Or.inl rfl
theorem cUN_r {n : Nat} {u : zM} {i : Int} (h : 0 ≤ i ∧ i < n) : cUN n u i = 0 ∨ (cUN n u i = 2 ∧ msn u = 0) := by
  unfold cUN
  rw [if_neg (by omega)]
  split
  · exact Or.inr ⟨rfl, by assumption⟩
  · exact Or.inl rfl
theorem cUS_r {n : Nat} {US : Int → Int32} {i j : Int} (h : 0 ≤ i ∧ i < n) (h1 : 0 ≤ j ∧ j < n) : cUS n US i j = 0 ∨ cUS n US i j = 2 := by
  unfold cUS
  rw [if_neg (by omega)]
  split
  · exact Or.inr rfl
  · exact Or.inl rfl
theorem cTE_r {ND KN : Int → Int32} {p k : Int} (h : 0 ≤ p ∧ p < 6) (h1 : 0 ≤ k ∧ k < 8) : cTE ND KN p k = 0 ∨ cTE ND KN p k = 2 := by
  unfold cTE
  rw [if_neg (by omega)]
  split
  · exact Or.inr rfl
  · exact Or.inl rfl
theorem lo_pos (v : Int32) : 0 ≤ (v &&& iI 2147483647).toInt := by
  have h : (v &&& iI 2147483647).toBitVec.msb = false := by
    rw [Int32.toBitVec_and, BitVec.msb_and, show (iI 2147483647).toBitVec.msb = false from by decide, Bool.and_false]
  show 0 ≤ (v &&& iI 2147483647).toBitVec.toInt
  rw [BitVec.toInt_eq_msb_cond, h, if_neg (by decide)]
  omega
def lo (v : Int32) (m : Int) : Int := (v &&& iI 2147483647).toInt % m
theorem lo_r (v : Int32) {m : Int} (h : 1 ≤ m) : 0 ≤ lo v m ∧ lo v m < m := ⟨Int.emod_nonneg _ (by omega), Int.emod_lt_of_pos _ (by omega)⟩
theorem k_low (l : Launch) (D : va_G) (cI cZ cM cL : ClassId) (v : Int32) (m : Int) (hm : 1 ≤ m ∧ m < 2147483648) : zN l yL_low wsL_low { frames := 0, cells := 0, slots := 0, locals := 0 } D (zTy cI cZ cM cL) [.int v, .int (iI m)] [] (fun r w => r = some (.int (iI (lo v m))) ∧ w = []) 0 0 := by
  refine zN_of (cc := cL_low) (maxL := 2) (lv0 := [some (.int v), some (.int (iI m))]) (by decide) rfl rfl (Nat.le_of_ble_eq_true rfl) rfl ?_
  intro E Q C hE hR hI0
  have h0 := lo_pos v
  have h1 := Int32.toInt_lt (v &&& iI 2147483647)
  refine z_iload_n (i := 0) C dL_low_0 rfl rfl ?_
  refine z_ldc (v := iI 2147483647) C dL_low_1 (by decide +kernel) ?_
  refine z_iand C dL_low_3 ?_
  refine z_top (y := iI (v &&& iI 2147483647).toInt) (Int32.ofInt_toInt _).symm ?_
  refine z_iload_n (i := 1) C dL_low_4 rfl rfl ?_
  refine z_iremI C dL_low_5 h0 (by omega) (by omega) (by omega) ?_
  exact z_iret C hR dL_low_6 (Nat.le_of_ble_eq_true rfl) (Nat.le_of_ble_eq_true rfl) ⟨rfl, rfl⟩
theorem k_cell (l : Launch) (D : va_G) (cI cZ cM cL : ClassId) (b L : Nat) (xs : Nat → Int32) (hL : L ≤ 260) (z : Int) (hz : 0 ≤ z ∧ z ≤ 100) : zNS l yL_cell wsL_cell { frames := 0, cells := 0, slots := 0, locals := 0 } D (zTy cI cZ cM cL) [.ref b, .int (iI z)] [] (fun r w => (∃ x : Int32, r = some (.int x)) ∧ w = []) 0 0 b L xs := by
  refine zNS_of (cc := cL_cell) (maxL := 2) (lv0 := [some (.ref b), some (.int (iI z))]) (by decide) rfl rfl (Nat.le_of_ble_eq_true rfl) rfl ?_
  intro E Q C hE hR hS
  refine z_iload_n (i := 1) C dL_cell_0 rfl rfl ?_
  refine z_aload_n (i := 0) C dL_cell_1 rfl rfl ?_
  refine z_slen C hS dL_cell_2 ?_
  refine z_icmp_geI (tgt := 12) C dL_cell_3 (by decide) ⟨by omega, by omega⟩ ⟨by omega, by omega⟩ (fun h => ?_) (fun h => ?_)
  · refine z_ldc (v := iI 40503) C dL_cell_12 (by decide +kernel) ?_
    refine z_iload_n (i := 1) C dL_cell_14 rfl rfl ?_
    refine z_imul C dL_cell_15 ?_
    refine z_sipush (v := iI 977) C dL_cell_16 (by decide) ?_
    refine z_iadd C dL_cell_19 ?_
    exact z_iret C hR dL_cell_20 (Nat.le_of_ble_eq_true rfl) (Nat.le_of_ble_eq_true rfl) ⟨⟨_, rfl⟩, rfl⟩
  · refine z_aload_n (i := 0) C dL_cell_6 rfl rfl ?_
    refine z_iload_n (i := 1) C dL_cell_7 rfl rfl ?_
    refine z_sld C hS (by omega) (by omega) (by omega) dL_cell_8 ?_
    refine z_goto (tgt := 20) C dL_cell_9 (by decide) ?_
    exact z_iret C hR dL_cell_20 (Nat.le_of_ble_eq_true rfl) (Nat.le_of_ble_eq_true rfl) ⟨⟨_, rfl⟩, rfl⟩
set_option maxHeartbeats 1000000 in
set_option maxRecDepth 100000 in
theorem h_needs (l : Launch) (hl : l.stackTraces = false) (D : va_G) {cI cZ cM : ClassId} (cL : ClassId) {h n : Nat} {ND KN US : Int → Int32} {μ : Nat → zM} {L : Int} {d : Int32} {G : va_W} (hG : GI cI cZ cM h n ND KN US μ L d G) (k0 w0 : Int) (hk : 0 ≤ k0 ∧ k0 < 8) (hw : 0 ≤ w0 ∧ w0 ≤ 255) : zN l yL_needs wsL_needs { frames := 8, cells := 2, slots := 12, locals := 134 } D (zTy cI cZ cM cL) [.ref h, .int (iI k0), .int (iI w0)] G (fun r w => (cSN ND k0 w0 = 0 ∧ r = some (.int (ND k0)) ∧ GI cI cZ cM h n (zup ND k0 (iI w0)) KN US μ L d w) ∨ (cSN ND k0 w0 = 2 ∧ r = some (.int (iI (-2))) ∧ GI cI cZ cM h n ND KN US μ L d w)) 2 12 := by
  have hn8 := hG.O.1
  obtain ⟨PH, hM, hp⟩ := c_setNeeds l hl D cL hG k0 w0 ⟨by omega, by omega⟩ ⟨by omega, by omega⟩
  obtain ⟨fs, hG0⟩ := hG.g0
  refine zNH_of (cc := cL_needs) (maxL := 4) (hh := [(0, 6, 7, 15)]) (lv0 := [some (.ref h), some (.int (iI k0)), some (.int (iI w0)), none]) (by decide) rfl rfl (Nat.le_of_ble_eq_true rfl) rfl ?_
  intro E Q C hE hR hT
  refine z_aload_n (i := 0) C dL_needs_0 rfl rfl ?_
  refine z_iload_n (i := 1) C dL_needs_1 rfl rfl ?_
  refine z_iload_n (i := 2) C dL_needs_2 rfl rfl ?_
  refine z_callVx (n := 2) (As := [.int (iI k0), .int (iI w0)]) (st := []) (fr := []) C hE hM gL_needs_X4_setNeeds rfl ⟨rfl, rfl⟩ (by decide +kernel) ⟨Nat.le_of_ble_eq_true rfl, Nat.le_of_ble_eq_true rfl⟩ rfl rfl (by rw [List.append_nil]) 0 hG0 rfl rfl (Nat.le_of_ble_eq_true rfl) ⟨Nat.le_of_ble_eq_true rfl, Nat.le_of_ble_eq_true rfl⟩ dL_needs_3 (fun Ex hpx => ?_) (fun r w1 hpo => ?_)
  · obtain ⟨hcc, rfl⟩ | ⟨hcc, rfl⟩ | ⟨hcc, rfl⟩ := hpx
    · exact absurd hcc (by have := cSN_r (ND := ND) hk hw; omega)
    · refine z_catch C hE hT (name := "java/lang/IllegalArgumentException") [] ⟨0, 6, 7, 15⟩ [] rfl (fun z hz => absurd hz List.not_mem_nil) (by decide) (by decide) (by decide +kernel) (by decide +kernel) (fun q => ?_)
      refine z_astore_n (i := 3) (lv' := [some (.ref h), some (.int (iI k0)), some (.int (iI w0)), some (.ref q)]) C dL_needs_7 rfl rfl rfl ?_
      refine z_bipush (v := iI (-2)) C dL_needs_8 (by decide) ?_
      exact z_iret C hR dL_needs_10 (Nat.le_of_ble_eq_true rfl) (Nat.le_of_ble_eq_true rfl) (Or.inr ⟨hcc, rfl, hG⟩)
    · exact absurd hcc (by have := cSN_r (ND := ND) hk hw; omega)
  · obtain ⟨h0, rfl, hG2⟩ := hp _ _ hpo
    refine z_eq (ws' := w1) (List.append_nil _) rfl ?_
    refine (show zG E Q (0 + 2) (0 + 12) w1 [some (.ref h), some (.int (iI k0)), some (.int (iI w0)), none] 6 [.int (ND k0)] from ?_)
    exact z_iret C hR dL_needs_6 (Nat.le_of_ble_eq_true rfl) (Nat.le_of_ble_eq_true rfl) (Or.inl ⟨h0, rfl, hG2⟩)
set_option maxHeartbeats 1000000 in
set_option maxRecDepth 100000 in
theorem h_fold (l : Launch) (hl : l.stackTraces = false) (D : va_G) {cI cZ cM : ClassId} (cL : ClassId) {h n : Nat} {ND KN US : Int → Int32} {μ : Nat → zM} {L : Int} {d : Int32} {G : va_W} (hG : GI cI cZ cM h n ND KN US μ L d G) (i0 kd0 p0 lf0 : Int) (hi : 0 ≤ i0 ∧ i0 < n) (hkd : 0 ≤ kd0 ∧ kd0 < 8) (hpl : 1 ≤ p0 ∧ p0 ≤ mgS (μ i0.toNat) - 1) (hp9 : p0 ≤ 100) (hlf : lf0 = 0 ∨ lf0 = 1) : zN l yL_fold wsL_fold { frames := 9, cells := 4, slots := 24, locals := 183 } D (zTy cI cZ cM cL) [.ref h, .int (iI i0), .int (iI kd0), .int (iI p0), .int (iI lf0)] G (fun r w => (cFO n ND (μ i0.toNat) i0 kd0 p0 = 0 ∧ r = some (.int (iI (max p0 (mgS (μ i0.toNat) - p0)))) ∧ ∃ u9 : zM, mle u9 = mle (μ i0.toNat) ∧ msn u9 = msn (μ i0.toNat) + 1 ∧ mK u9 = zup (mK (μ i0.toNat)) (msn (μ i0.toNat)) kd0 ∧ mP u9 = zup (mP (μ i0.toNat)) (msn (μ i0.toNat)) p0 ∧ GI cI cZ cM h n ND KN US (va_up μ i0.toNat u9) L d w) ∨ (cFO n ND (μ i0.toNat) i0 kd0 p0 = 3 ∧ r = some (.int (iI (-3))) ∧ GI cI cZ cM h n ND KN US μ L d w)) 4 24 := by
  have hn8 := hG.O.1
  obtain ⟨PH, hM, hp⟩ := c_fold l hl D cL hG i0 ⟨by omega, by omega⟩ kd0 p0 lf0 ⟨by omega, by omega⟩ ⟨by omega, by omega⟩ hlf
  obtain ⟨fs, hG0⟩ := hG.g0
  refine zNH_of (cc := cL_fold) (maxL := 6) (hh := [(0, 9, 10, 21)]) (lv0 := [some (.ref h), some (.int (iI i0)), some (.int (iI kd0)), some (.int (iI p0)), some (.int (iI lf0)), none]) (by decide) rfl rfl (Nat.le_of_ble_eq_true rfl) rfl ?_
  intro E Q C hE hR hT
  refine z_aload_n (i := 0) C dL_fold_0 rfl rfl ?_
  refine z_iload_n (i := 1) C dL_fold_1 rfl rfl ?_
  refine z_iload_n (i := 2) C dL_fold_2 rfl rfl ?_
  refine z_iload_n (i := 3) C dL_fold_3 rfl rfl ?_
  refine z_iload C dL_fold_4 rfl ?_
  refine z_callVx (n := 4) (As := [.int (iI i0), .int (iI kd0), .int (iI p0), .int (iI lf0)]) (st := []) (fr := []) C hE hM gL_fold_X4_fold rfl ⟨rfl, rfl⟩ (by decide +kernel) ⟨Nat.le_of_ble_eq_true rfl, Nat.le_of_ble_eq_true rfl⟩ rfl rfl (by rw [List.append_nil]) 0 hG0 rfl rfl (Nat.le_of_ble_eq_true rfl) ⟨Nat.le_of_ble_eq_true rfl, Nat.le_of_ble_eq_true rfl⟩ dL_fold_6 (fun Ex hpx => ?_) (fun r w1 hpo => ?_)
  · obtain ⟨hcc, rfl⟩ | ⟨hcc, rfl⟩ | ⟨hcc, rfl⟩ := hpx
    · exact absurd hcc (by have := cFO_r (ND := ND) hi hkd hpl; omega)
    · exact absurd hcc (by have := cFO_r (ND := ND) hi hkd hpl; omega)
    · refine z_catch C hE hT (name := "java/lang/IllegalStateException") [] ⟨0, 9, 10, 21⟩ [] rfl (fun z hz => absurd hz List.not_mem_nil) (by decide) (by decide) (by decide +kernel) (by decide +kernel) (fun q => ?_)
      refine z_astore (lv' := [some (.ref h), some (.int (iI i0)), some (.int (iI kd0)), some (.int (iI p0)), some (.int (iI lf0)), some (.ref q)]) C dL_fold_10 rfl rfl ?_
      refine z_bipush (v := iI (-3)) C dL_fold_12 (by decide) ?_
      exact z_iret C hR dL_fold_14 (Nat.le_of_ble_eq_true rfl) (Nat.le_of_ble_eq_true rfl) (Or.inr ⟨hcc, rfl, hG⟩)
  · obtain ⟨h0, rfl, hG2⟩ := hp _ _ hpo
    refine z_eq (ws' := w1) (List.append_nil _) rfl ?_
    refine (show zG E Q (0 + 4) (0 + 24) w1 [some (.ref h), some (.int (iI i0)), some (.int (iI kd0)), some (.int (iI p0)), some (.int (iI lf0)), none] 9 [.int (iI (max p0 (mgS (μ i0.toNat) - p0)))] from ?_)
    exact z_iret C hR dL_fold_9 (Nat.le_of_ble_eq_true rfl) (Nat.le_of_ble_eq_true rfl) (Or.inl ⟨h0, rfl, hG2⟩)
set_option maxHeartbeats 1000000 in
set_option maxRecDepth 100000 in
theorem h_unfold (l : Launch) (hl : l.stackTraces = false) (D : va_G) {cI cZ cM : ClassId} (cL : ClassId) {h n : Nat} {ND KN US : Int → Int32} {μ : Nat → zM} {L : Int} {d : Int32} {G : va_W} (hG : GI cI cZ cM h n ND KN US μ L d G) (i0 : Int) (hi : 0 ≤ i0 ∧ i0 < n) : zN l yL_unfold wsL_unfold { frames := 9, cells := 3, slots := 18, locals := 178 } D (zTy cI cZ cM cL) [.ref h, .int (iI i0)] G (fun r w => (cUN n (μ i0.toNat) i0 = 0 ∧ (∃ k9 : Int, r = some (.int (iI k9)) ∧ 0 ≤ k9 ∧ k9 ≤ 7) ∧ ∃ u9 : zM, mle u9 = mle (μ i0.toNat) ∧ msn u9 = msn (μ i0.toNat) - 1 ∧ GI cI cZ cM h n ND KN US (va_up μ i0.toNat u9) L d w) ∨ (cUN n (μ i0.toNat) i0 = 2 ∧ r = some (.int (iI (-3))) ∧ GI cI cZ cM h n ND KN US μ L d w)) 3 18 := by
  have hn8 := hG.O.1
  obtain ⟨PH, hM, hp⟩ := c_unfold l hl D cL hG i0 ⟨by omega, by omega⟩
  obtain ⟨fs, hG0⟩ := hG.g0
  refine zNH_of (cc := cL_unfold) (maxL := 3) (hh := [(0, 5, 6, 21)]) (lv0 := [some (.ref h), some (.int (iI i0)), none]) (by decide) rfl rfl (Nat.le_of_ble_eq_true rfl) rfl ?_
  intro E Q C hE hR hT
  refine z_aload_n (i := 0) C dL_unfold_0 rfl rfl ?_
  refine z_iload_n (i := 1) C dL_unfold_1 rfl rfl ?_
  refine z_callVx (n := 1) (As := [.int (iI i0)]) (st := []) (fr := []) C hE hM gL_unfold_X4_unfold rfl ⟨rfl, rfl⟩ (by decide +kernel) ⟨Nat.le_of_ble_eq_true rfl, Nat.le_of_ble_eq_true rfl⟩ rfl rfl (by rw [List.append_nil]) 0 hG0 rfl rfl (Nat.le_of_ble_eq_true rfl) ⟨Nat.le_of_ble_eq_true rfl, Nat.le_of_ble_eq_true rfl⟩ dL_unfold_2 (fun Ex hpx => ?_) (fun r w1 hpo => ?_)
  · obtain ⟨hcc, rfl⟩ | ⟨hcc, rfl⟩ | ⟨hcc, rfl⟩ := hpx
    · exact absurd hcc (by have := cUN_r (u := (μ i0.toNat)) hi; omega)
    · refine z_catch C hE hT (name := "java/lang/IllegalStateException") [] ⟨0, 5, 6, 21⟩ [] rfl (fun z hz => absurd hz List.not_mem_nil) (by decide) (by decide) (by decide +kernel) (by decide +kernel) (fun q => ?_)
      refine z_astore_n (i := 2) (lv' := [some (.ref h), some (.int (iI i0)), some (.ref q)]) C dL_unfold_6 rfl rfl rfl ?_
      refine z_bipush (v := iI (-3)) C dL_unfold_7 (by decide) ?_
      exact z_iret C hR dL_unfold_9 (Nat.le_of_ble_eq_true rfl) (Nat.le_of_ble_eq_true rfl) (Or.inr ⟨hcc, rfl, hG⟩)
    · exact absurd hcc (by have := cUN_r (u := (μ i0.toNat)) hi; omega)
  · obtain ⟨h0, ⟨k9, rfl, h9⟩, hG2⟩ := hp _ _ hpo
    refine z_eq (ws' := w1) (List.append_nil _) rfl ?_
    refine (show zG E Q (0 + 3) (0 + 18) w1 [some (.ref h), some (.int (iI i0)), none] 5 [.int (iI k9)] from ?_)
    exact z_iret C hR dL_unfold_5 (Nat.le_of_ble_eq_true rfl) (Nat.le_of_ble_eq_true rfl) (Or.inl ⟨h0, ⟨k9, rfl, h9⟩, hG2⟩)
set_option maxHeartbeats 1000000 in
set_option maxRecDepth 100000 in
theorem h_use (l : Launch) (hl : l.stackTraces = false) (D : va_G) {cI cZ cM : ClassId} (cL : ClassId) {h n : Nat} {ND KN US : Int → Int32} {μ : Nat → zM} {L : Int} {d : Int32} {G : va_W} (hG : GI cI cZ cM h n ND KN US μ L d G) (i0 j0 : Int) (hi : 0 ≤ i0 ∧ i0 < n) (hj : 0 ≤ j0 ∧ j0 < n) : zN l yL_use wsL_use { frames := 8, cells := 3, slots := 18, locals := 134 } D (zTy cI cZ cM cL) [.ref h, .int (iI i0), .int (iI j0)] G (fun r w => (cUS n US i0 j0 = 0 ∧ r = some (.int (iI (b2 (¬ hb (US i0) (iI j0))))) ∧ GI cI cZ cM h n ND KN (zup US i0 (US i0 ||| (iI 1 <<< (iI j0 &&& 31)))) μ L d w) ∨ (cUS n US i0 j0 = 2 ∧ r = some (.int (iI (-2))) ∧ GI cI cZ cM h n ND KN US μ L d w)) 3 18 := by
  have hn8 := hG.O.1
  obtain ⟨PH, hM, hp⟩ := c_use l hl D cL hG i0 j0 ⟨by omega, by omega⟩ ⟨by omega, by omega⟩
  obtain ⟨fs, hG0⟩ := hG.g0
  refine zNH_of (cc := cL_use) (maxL := 4) (hh := [(0, 14, 15, 15)]) (lv0 := [some (.ref h), some (.int (iI i0)), some (.int (iI j0)), none]) (by decide) rfl rfl (Nat.le_of_ble_eq_true rfl) rfl ?_
  intro E Q C hE hR hT
  refine z_aload_n (i := 0) C dL_use_0 rfl rfl ?_
  refine z_iload_n (i := 1) C dL_use_1 rfl rfl ?_
  refine z_iload_n (i := 2) C dL_use_2 rfl rfl ?_
  refine z_callVx (n := 2) (As := [.int (iI i0), .int (iI j0)]) (st := []) (fr := []) C hE hM gL_use_X4_use rfl ⟨rfl, rfl⟩ (by decide +kernel) ⟨Nat.le_of_ble_eq_true rfl, Nat.le_of_ble_eq_true rfl⟩ rfl rfl (by rw [List.append_nil]) 0 hG0 rfl rfl (Nat.le_of_ble_eq_true rfl) ⟨Nat.le_of_ble_eq_true rfl, Nat.le_of_ble_eq_true rfl⟩ dL_use_3 (fun Ex hpx => ?_) (fun r w1 hpo => ?_)
  · obtain ⟨hcc, rfl⟩ | ⟨hcc, rfl⟩ | ⟨hcc, rfl⟩ := hpx
    · exact absurd hcc (by have := cUS_r (US := US) hi hj; omega)
    · refine z_catch C hE hT (name := "java/lang/IllegalArgumentException") [] ⟨0, 14, 15, 15⟩ [] rfl (fun z hz => absurd hz List.not_mem_nil) (by decide) (by decide) (by decide +kernel) (by decide +kernel) (fun q => ?_)
      refine z_astore_n (i := 3) (lv' := [some (.ref h), some (.int (iI i0)), some (.int (iI j0)), some (.ref q)]) C dL_use_15 rfl rfl rfl ?_
      refine z_bipush (v := iI (-2)) C dL_use_16 (by decide) ?_
      exact z_iret C hR dL_use_18 (Nat.le_of_ble_eq_true rfl) (Nat.le_of_ble_eq_true rfl) (Or.inr ⟨hcc, rfl, hG⟩)
    · exact absurd hcc (by have := cUS_r (US := US) hi hj; omega)
  · obtain ⟨h0, rfl, hG2⟩ := hp _ _ hpo
    refine z_eq (ws' := w1) (List.append_nil _) rfl ?_
    have hbr := b2r (¬ hb (US i0) (iI j0))
    refine (show zG E Q (0 + 3) (0 + 18) w1 [some (.ref h), some (.int (iI i0)), some (.int (iI j0)), none] 6 [.int (iI (b2 (¬ hb (US i0) (iI j0))))] from ?_)
    refine z_if_eqI (tgt := 13) C dL_use_6 (by decide) ⟨by omega, by omega⟩ (fun hv => ?_) (fun hv => ?_)
    · refine z_iconst (v := iI 0) C dL_use_13 rfl ?_
      exact z_iret C hR dL_use_14 (Nat.le_of_ble_eq_true rfl) (Nat.le_of_ble_eq_true rfl) (Or.inl ⟨h0, by rw [hv], hG2⟩)
    · refine z_iconst (v := iI 1) C dL_use_9 rfl ?_
      refine z_goto (tgt := 14) C dL_use_10 (by decide) ?_
      exact z_iret C hR dL_use_14 (Nat.le_of_ble_eq_true rfl) (Nat.le_of_ble_eq_true rfl) (Or.inl ⟨h0, by rw [show b2 (¬ hb (US i0) (iI j0)) = 1 by have := b2r (¬ hb (US i0) (iI j0)); omega], hG2⟩)
set_option maxHeartbeats 1000000 in
set_option maxRecDepth 100000 in
theorem h_teach (l : Launch) (hl : l.stackTraces = false) (D : va_G) {cI cZ cM : ClassId} (cL : ClassId) {h n : Nat} {ND KN US : Int → Int32} {μ : Nat → zM} {L : Int} {d : Int32} {G : va_W} (hG : GI cI cZ cM h n ND KN US μ L d G) (p0 k0 : Int) (hpu : 0 ≤ p0 ∧ p0 < 6) (hk : 0 ≤ k0 ∧ k0 < 8) : zN l yL_teach wsL_teach { frames := 8, cells := 3, slots := 18, locals := 133 } D (zTy cI cZ cM cL) [.ref h, .int (iI p0), .int (iI k0)] G (fun r w => (cTE ND KN p0 k0 = 0 ∧ r = some (.int (bcE (KN p0 ||| (iI 1 <<< (iI k0 &&& 31))))) ∧ GI cI cZ cM h n ND (zup KN p0 (KN p0 ||| (iI 1 <<< (iI k0 &&& 31)))) US μ L d w) ∨ (cTE ND KN p0 k0 = 2 ∧ r = some (.int (iI (-3))) ∧ GI cI cZ cM h n ND KN US μ L d w)) 3 18 := by
  have hn8 := hG.O.1
  obtain ⟨PH, hM, hp⟩ := c_teach l hl D cL hG p0 k0 ⟨by omega, by omega⟩ ⟨by omega, by omega⟩
  obtain ⟨fs, hG0⟩ := hG.g0
  refine zNH_of (cc := cL_teach) (maxL := 4) (hh := [(0, 6, 7, 21)]) (lv0 := [some (.ref h), some (.int (iI p0)), some (.int (iI k0)), none]) (by decide) rfl rfl (Nat.le_of_ble_eq_true rfl) rfl ?_
  intro E Q C hE hR hT
  refine z_aload_n (i := 0) C dL_teach_0 rfl rfl ?_
  refine z_iload_n (i := 1) C dL_teach_1 rfl rfl ?_
  refine z_iload_n (i := 2) C dL_teach_2 rfl rfl ?_
  refine z_callVx (n := 2) (As := [.int (iI p0), .int (iI k0)]) (st := []) (fr := []) C hE hM gL_teach_X4_teach rfl ⟨rfl, rfl⟩ (by decide +kernel) ⟨Nat.le_of_ble_eq_true rfl, Nat.le_of_ble_eq_true rfl⟩ rfl rfl (by rw [List.append_nil]) 0 hG0 rfl rfl (Nat.le_of_ble_eq_true rfl) ⟨Nat.le_of_ble_eq_true rfl, Nat.le_of_ble_eq_true rfl⟩ dL_teach_3 (fun Ex hpx => ?_) (fun r w1 hpo => ?_)
  · obtain ⟨hcc, rfl⟩ | ⟨hcc, rfl⟩ | ⟨hcc, rfl⟩ := hpx
    · exact absurd hcc (by have := cTE_r (ND := ND) (KN := KN) hpu hk; omega)
    · refine z_catch C hE hT (name := "java/lang/IllegalStateException") [] ⟨0, 6, 7, 21⟩ [] rfl (fun z hz => absurd hz List.not_mem_nil) (by decide) (by decide) (by decide +kernel) (by decide +kernel) (fun q => ?_)
      refine z_astore_n (i := 3) (lv' := [some (.ref h), some (.int (iI p0)), some (.int (iI k0)), some (.ref q)]) C dL_teach_7 rfl rfl rfl ?_
      refine z_bipush (v := iI (-3)) C dL_teach_8 (by decide) ?_
      exact z_iret C hR dL_teach_10 (Nat.le_of_ble_eq_true rfl) (Nat.le_of_ble_eq_true rfl) (Or.inr ⟨hcc, rfl, hG⟩)
    · exact absurd hcc (by have := cTE_r (ND := ND) (KN := KN) hpu hk; omega)
  · obtain ⟨h0, rfl, hG2⟩ := hp _ _ hpo
    refine z_eq (ws' := w1) (List.append_nil _) rfl ?_
    refine (show zG E Q (0 + 3) (0 + 18) w1 [some (.ref h), some (.int (iI p0)), some (.int (iI k0)), none] 6 [.int (bcE (KN p0 ||| (iI 1 <<< (iI k0 &&& 31))))] from ?_)
    exact z_iret C hR dL_teach_6 (Nat.le_of_ble_eq_true rfl) (Nat.le_of_ble_eq_true rfl) (Or.inl ⟨h0, rfl, hG2⟩)
