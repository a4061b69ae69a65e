/-! THE GUILD: credit, cutting. -/
theorem hi_X4_models_X4 : ∀ w ∈ wsX40, w ∈ wsX4_models := by decide +kernel
set_option maxHeartbeats 1000000 in
set_option maxRecDepth 100000 in
theorem k_models (l : Launch) (hl : l.stackTraces = false) (D : va_G) (cI cZ cM cL : ClassId) (h nd kn gm us fo fh mi fw wt : Nat) (n : Nat) (ND KN US : Int → Int32) (μ : Nat → zM) (x t s0 : Int) (FH : Int → Int) (L : Int) (d : Int32) (A B : Int → Int) (hg : gdO n μ L) : zN l yX4_models wsX4_models { frames := 0, cells := 0, slots := 0, locals := 0 } D (zTy cI cZ cM cL) [.ref h] (gdW cI cZ cM h nd kn gm us fo fh mi fw wt n ND KN US (μ) x t s0 FH L d A B) (fun r w => r = some (.int (iI n)) ∧ w = (gdW cI cZ cM h nd kn gm us fo fh mi fw wt n ND KN US (μ) x t s0 FH L d A B)) 0 0 := by
  refine zN_of (cc := cX4_models) (maxL := 1) (lv0 := [some (.ref h)]) (by decide) rfl rfl (Nat.le_of_ble_eq_true rfl) rfl ?_
  intro E Q C hE hR hI0
  refine (show zG E Q 0 0 ([(h, .inr (4, [.ref nd, .ref kn, .ref gm, .ref us, .int (iI (↑n)), .ref fo, .ref fh, .ref mi])), (nd, ar cI 8 ND), (kn, ar cI 6 KN), (gm, rr cM 8 (gmF μ n)), (us, ar cI 8 US), (fo, .inr (0, [.int (iI x), .int (iI t), .int (iI s0)])), (fh, ai cI 32 FH), (mi, .inr (1, [.int (iI L), .int d, .ref fw, .ref wt])), (fw, ai cI 201 A), (wt, ai cI 201 B)] ++ mW cI cZ μ n) [some (.ref h)] 0 [] from ?_)
  refine z_aload_n (i := 0) C dX4_models_0 rfl rfl ?_
  refine z_get (ci := 4) C (hi_X4_models_X4) 0 rfl rfl 4 (by decide) (by decide +kernel) rfl dX4_models_1 ?_
  exact z_iret C hR dX4_models_4 (Nat.le_of_ble_eq_true rfl) (Nat.le_of_ble_eq_true rfl) (⟨rfl, rfl⟩)
theorem hi_X4_fewestPieces_X4 : ∀ w ∈ wsX40, w ∈ wsX4_fewestPieces := by decide +kernel
set_option maxHeartbeats 1000000 in
set_option maxRecDepth 100000 in
theorem k_fewestPieces (l : Launch) (hl : l.stackTraces = false) (D : va_G) (cI cZ cM cL : ClassId) (h nd kn gm us fo fh mi fw wt : Nat) (n : Nat) (ND KN US : Int → Int32) (μ : Nat → zM) (x t s0 : Int) (FH : Int → Int) (L : Int) (d : Int32) (A B : Int → Int) (hg : gdO n μ L) : zN l yX4_fewestPieces wsX4_fewestPieces { frames := 5, cells := 0, slots := 0, locals := 107 } D (zTy cI cZ cM cL) [.ref h] (gdW cI cZ cM h nd kn gm us fo fh mi fw wt n ND KN US (μ) x t s0 FH L d A B) (fun r w => r = some (.int (iI (fwt d L.toNat L))) ∧ ∃ A1 : Int → Int, w = (gdW cI cZ cM h nd kn gm us fo fh mi fw wt n ND KN US (μ) x t s0 FH L d A1 B)) 0 0 := by
  refine zN_of (cc := cX4_fewestPieces) (maxL := 1) (lv0 := [some (.ref h)]) (by decide) rfl rfl (Nat.le_of_ble_eq_true rfl) rfl ?_
  intro E Q C hE hR hI0
  refine (show zG E Q 0 0 ([(h, .inr (4, [.ref nd, .ref kn, .ref gm, .ref us, .int (iI (↑n)), .ref fo, .ref fh, .ref mi])), (nd, ar cI 8 ND), (kn, ar cI 6 KN), (gm, rr cM 8 (gmF μ n)), (us, ar cI 8 US), (fo, .inr (0, [.int (iI x), .int (iI t), .int (iI s0)])), (fh, ai cI 32 FH), (mi, .inr (1, [.int (iI L), .int d, .ref fw, .ref wt])), (fw, ai cI 201 A), (wt, ai cI 201 B)] ++ mW cI cZ μ n) [some (.ref h)] 0 [] from ?_)
  refine z_aload_n (i := 0) C dX4_fewestPieces_0 rfl rfl ?_
  refine z_get (ci := 4) C (hi_X4_fewestPieces_X4) 0 rfl rfl 7 (by decide) (by decide +kernel) rfl dX4_fewestPieces_1 ?_
  refine z_callV (n := 0) (As := []) (st := []) (fr := ([(h, .inr (4, [.ref nd, .ref kn, .ref gm, .ref us, .int (iI (↑n)), .ref fo, .ref fh, .ref mi])), (nd, ar cI 8 ND), (kn, ar cI 6 KN), (gm, rr cM 8 (gmF μ n)), (us, ar cI 8 US), (fo, .inr (0, [.int (iI x), .int (iI t), .int (iI s0)])), (fh, ai cI 32 FH)] ++ mW cI cZ μ n)) C hE (k_fewestForRoll l D cI cZ cM cL mi fw wt L d A B hg.2.2) gX4_fewestPieces_X1_fewestForRoll rfl ⟨rfl, rfl⟩ (by decide +kernel) ⟨Nat.le_of_ble_eq_true rfl, Nat.le_of_ble_eq_true rfl⟩ rfl rfl (z_plT (w := [(mi, .inr (1, [.int (iI L), .int d, .ref fw, .ref wt])), (fw, ai cI 201 A), (wt, ai cI 201 B), (h, .inr (4, [.ref nd, .ref kn, .ref gm, .ref us, .int (iI (↑n)), .ref fo, .ref fh, .ref mi])), (nd, ar cI 8 ND), (kn, ar cI 6 KN), (gm, rr cM 8 (gmF μ n)), (us, ar cI 8 US), (fo, .inr (0, [.int (iI x), .int (iI t), .int (iI s0)])), (fh, ai cI 32 FH)]) 10 [7, 8, 9, 0, 1, 2, 3, 4, 5, 6] rfl (by decide +kernel) rfl) 0 rfl rfl rfl (Nat.le_of_ble_eq_true rfl) ⟨Nat.le_of_ble_eq_true rfl, Nat.le_of_ble_eq_true rfl⟩ dX4_fewestPieces_4 (fun r w1 hpo => ?_)
  obtain ⟨rfl, A1, rfl⟩ := hpo
  refine (show zG E Q (0) (0) ([(mi, .inr (1, [.int (iI L), .int d, .ref fw, .ref wt])), (fw, ai cI 201 A1), (wt, ai cI 201 B), (h, .inr (4, [.ref nd, .ref kn, .ref gm, .ref us, .int (iI (↑n)), .ref fo, .ref fh, .ref mi])), (nd, ar cI 8 ND), (kn, ar cI 6 KN), (gm, rr cM 8 (gmF μ n)), (us, ar cI 8 US), (fo, .inr (0, [.int (iI x), .int (iI t), .int (iI s0)])), (fh, ai cI 32 FH)] ++ mW cI cZ μ n) [some (.ref h)] 7 [.int (iI (fwt d L.toNat L))] from ?_)
  refine z_perm (z_plT (w := [(h, .inr (4, [.ref nd, .ref kn, .ref gm, .ref us, .int (iI (↑n)), .ref fo, .ref fh, .ref mi])), (nd, ar cI 8 ND), (kn, ar cI 6 KN), (gm, rr cM 8 (gmF μ n)), (us, ar cI 8 US), (fo, .inr (0, [.int (iI x), .int (iI t), .int (iI s0)])), (fh, ai cI 32 FH), (mi, .inr (1, [.int (iI L), .int d, .ref fw, .ref wt])), (fw, ai cI 201 A1), (wt, ai cI 201 B)]) 10 [3, 4, 5, 6, 7, 8, 9, 0, 1, 2] rfl (by decide +kernel) rfl) ?_
  exact z_iret C hR dX4_fewestPieces_7 (Nat.le_of_ble_eq_true rfl) (Nat.le_of_ble_eq_true rfl) (⟨rfl, A1, rfl⟩)
theorem hi_X4_leastRest_X4 : ∀ w ∈ wsX40, w ∈ wsX4_leastRest := by decide +kernel
set_option maxHeartbeats 1000000 in
set_option maxRecDepth 100000 in
theorem k_leastRest (l : Launch) (hl : l.stackTraces = false) (D : va_G) (cI cZ cM cL : ClassId) (h nd kn gm us fo fh mi fw wt : Nat) (n : Nat) (ND KN US : Int → Int32) (μ : Nat → zM) (x t s0 : Int) (FH : Int → Int) (L : Int) (d : Int32) (A B : Int → Int) (hg : gdO n μ L) : zN l yX4_leastRest wsX4_leastRest { frames := 5, cells := 0, slots := 0, locals := 108 } D (zTy cI cZ cM cL) [.ref h] (gdW cI cZ cM h nd kn gm us fo fh mi fw wt n ND KN US (μ) x t s0 FH L d A B) (fun r w => r = some (.int (iI (L - crs (fwt d L.toNat) L.toNat))) ∧ ∃ A1 : Int → Int, w = (gdW cI cZ cM h nd kn gm us fo fh mi fw wt n ND KN US (μ) x t s0 FH L d A1 B)) 0 0 := by
  refine zN_of (cc := cX4_leastRest) (maxL := 1) (lv0 := [some (.ref h)]) (by decide) rfl rfl (Nat.le_of_ble_eq_true rfl) rfl ?_
  intro E Q C hE hR hI0
  refine (show zG E Q 0 0 ([(h, .inr (4, [.ref nd, .ref kn, .ref gm, .ref us, .int (iI (↑n)), .ref fo, .ref fh, .ref mi])), (nd, ar cI 8 ND), (kn, ar cI 6 KN), (gm, rr cM 8 (gmF μ n)), (us, ar cI 8 US), (fo, .inr (0, [.int (iI x), .int (iI t), .int (iI s0)])), (fh, ai cI 32 FH), (mi, .inr (1, [.int (iI L), .int d, .ref fw, .ref wt])), (fw, ai cI 201 A), (wt, ai cI 201 B)] ++ mW cI cZ μ n) [some (.ref h)] 0 [] from ?_)
  refine z_aload_n (i := 0) C dX4_leastRest_0 rfl rfl ?_
  refine z_get (ci := 4) C (hi_X4_leastRest_X4) 0 rfl rfl 7 (by decide) (by decide +kernel) rfl dX4_leastRest_1 ?_
  refine z_callV (n := 0) (As := []) (st := []) (fr := ([(h, .inr (4, [.ref nd, .ref kn, .ref gm, .ref us, .int (iI (↑n)), .ref fo, .ref fh, .ref mi])), (nd, ar cI 8 ND), (kn, ar cI 6 KN), (gm, rr cM 8 (gmF μ n)), (us, ar cI 8 US), (fo, .inr (0, [.int (iI x), .int (iI t), .int (iI s0)])), (fh, ai cI 32 FH)] ++ mW cI cZ μ n)) C hE (k_restOfRoll l D cI cZ cM cL mi fw wt L d A B hg.2.2) gX4_leastRest_X1_restOfRoll rfl ⟨rfl, rfl⟩ (by decide +kernel) ⟨Nat.le_of_ble_eq_true rfl, Nat.le_of_ble_eq_true rfl⟩ rfl rfl (z_plT (w := [(mi, .inr (1, [.int (iI L), .int d, .ref fw, .ref wt])), (fw, ai cI 201 A), (wt, ai cI 201 B), (h, .inr (4, [.ref nd, .ref kn, .ref gm, .ref us, .int (iI (↑n)), .ref fo, .ref fh, .ref mi])), (nd, ar cI 8 ND), (kn, ar cI 6 KN), (gm, rr cM 8 (gmF μ n)), (us, ar cI 8 US), (fo, .inr (0, [.int (iI x), .int (iI t), .int (iI s0)])), (fh, ai cI 32 FH)]) 10 [7, 8, 9, 0, 1, 2, 3, 4, 5, 6] rfl (by decide +kernel) rfl) 0 rfl rfl rfl (Nat.le_of_ble_eq_true rfl) ⟨Nat.le_of_ble_eq_true rfl, Nat.le_of_ble_eq_true rfl⟩ dX4_leastRest_4 (fun r w1 hpo => ?_)
  obtain ⟨rfl, A1, rfl⟩ := hpo
  refine (show zG E Q (0) (0) ([(mi, .inr (1, [.int (iI L), .int d, .ref fw, .ref wt])), (fw, ai cI 201 A1), (wt, ai cI 201 B), (h, .inr (4, [.ref nd, .ref kn, .ref gm, .ref us, .int (iI (↑n)), .ref fo, .ref fh, .ref mi])), (nd, ar cI 8 ND), (kn, ar cI 6 KN), (gm, rr cM 8 (gmF μ n)), (us, ar cI 8 US), (fo, .inr (0, [.int (iI x), .int (iI t), .int (iI s0)])), (fh, ai cI 32 FH)] ++ mW cI cZ μ n) [some (.ref h)] 7 [.int (iI (L - crs (fwt d L.toNat) L.toNat))] from ?_)
  refine z_perm (z_plT (w := [(h, .inr (4, [.ref nd, .ref kn, .ref gm, .ref us, .int (iI (↑n)), .ref fo, .ref fh, .ref mi])), (nd, ar cI 8 ND), (kn, ar cI 6 KN), (gm, rr cM 8 (gmF μ n)), (us, ar cI 8 US), (fo, .inr (0, [.int (iI x), .int (iI t), .int (iI s0)])), (fh, ai cI 32 FH), (mi, .inr (1, [.int (iI L), .int d, .ref fw, .ref wt])), (fw, ai cI 201 A1), (wt, ai cI 201 B)]) 10 [3, 4, 5, 6, 7, 8, 9, 0, 1, 2] rfl (by decide +kernel) rfl) ?_
  exact z_iret C hR dX4_leastRest_7 (Nat.le_of_ble_eq_true rfl) (Nat.le_of_ble_eq_true rfl) (⟨rfl, A1, rfl⟩)
theorem hi_X4_ways_X4 : ∀ w ∈ wsX40, w ∈ wsX4_ways := by decide +kernel
set_option maxHeartbeats 1000000 in
set_option maxRecDepth 100000 in
theorem k_ways (l : Launch) (hl : l.stackTraces = false) (D : va_G) (cI cZ cM cL : ClassId) (h nd kn gm us fo fh mi fw wt : Nat) (n : Nat) (ND KN US : Int → Int32) (μ : Nat → zM) (x t s0 : Int) (FH : Int → Int) (L : Int) (d : Int32) (A B : Int → Int) (hg : gdO n μ L) : zN l yX4_ways wsX4_ways { frames := 3, cells := 0, slots := 0, locals := 63 } D (zTy cI cZ cM cL) [.ref h] (gdW cI cZ cM h nd kn gm us fo fh mi fw wt n ND KN US (μ) x t s0 FH L d A B) (fun r w => r = some (.int (iI (wyt d (L + 1).toNat 20 L))) ∧ ∃ B1 : Int → Int, w = (gdW cI cZ cM h nd kn gm us fo fh mi fw wt n ND KN US (μ) x t s0 FH L d A B1)) 0 0 := by
  refine zN_of (cc := cX4_ways) (maxL := 1) (lv0 := [some (.ref h)]) (by decide) rfl rfl (Nat.le_of_ble_eq_true rfl) rfl ?_
  intro E Q C hE hR hI0
  refine (show zG E Q 0 0 ([(h, .inr (4, [.ref nd, .ref kn, .ref gm, .ref us, .int (iI (↑n)), .ref fo, .ref fh, .ref mi])), (nd, ar cI 8 ND), (kn, ar cI 6 KN), (gm, rr cM 8 (gmF μ n)), (us, ar cI 8 US), (fo, .inr (0, [.int (iI x), .int (iI t), .int (iI s0)])), (fh, ai cI 32 FH), (mi, .inr (1, [.int (iI L), .int d, .ref fw, .ref wt])), (fw, ai cI 201 A), (wt, ai cI 201 B)] ++ mW cI cZ μ n) [some (.ref h)] 0 [] from ?_)
  refine z_aload_n (i := 0) C dX4_ways_0 rfl rfl ?_
  refine z_get (ci := 4) C (hi_X4_ways_X4) 0 rfl rfl 7 (by decide) (by decide +kernel) rfl dX4_ways_1 ?_
  refine z_callV (n := 0) (As := []) (st := []) (fr := ([(h, .inr (4, [.ref nd, .ref kn, .ref gm, .ref us, .int (iI (↑n)), .ref fo, .ref fh, .ref mi])), (nd, ar cI 8 ND), (kn, ar cI 6 KN), (gm, rr cM 8 (gmF μ n)), (us, ar cI 8 US), (fo, .inr (0, [.int (iI x), .int (iI t), .int (iI s0)])), (fh, ai cI 32 FH)] ++ mW cI cZ μ n)) C hE (k_waysForRoll l D cI cZ cM cL mi fw wt L d A B hg.2.2) gX4_ways_X1_waysForRoll rfl ⟨rfl, rfl⟩ (by decide +kernel) ⟨Nat.le_of_ble_eq_true rfl, Nat.le_of_ble_eq_true rfl⟩ rfl rfl (z_plT (w := [(mi, .inr (1, [.int (iI L), .int d, .ref fw, .ref wt])), (fw, ai cI 201 A), (wt, ai cI 201 B), (h, .inr (4, [.ref nd, .ref kn, .ref gm, .ref us, .int (iI (↑n)), .ref fo, .ref fh, .ref mi])), (nd, ar cI 8 ND), (kn, ar cI 6 KN), (gm, rr cM 8 (gmF μ n)), (us, ar cI 8 US), (fo, .inr (0, [.int (iI x), .int (iI t), .int (iI s0)])), (fh, ai cI 32 FH)]) 10 [7, 8, 9, 0, 1, 2, 3, 4, 5, 6] rfl (by decide +kernel) rfl) 0 rfl rfl rfl (Nat.le_of_ble_eq_true rfl) ⟨Nat.le_of_ble_eq_true rfl, Nat.le_of_ble_eq_true rfl⟩ dX4_ways_4 (fun r w1 hpo => ?_)
  obtain ⟨rfl, B1, rfl⟩ := hpo
  refine (show zG E Q (0) (0) ([(mi, .inr (1, [.int (iI L), .int d, .ref fw, .ref wt])), (fw, ai cI 201 A), (wt, ai cI 201 B1), (h, .inr (4, [.ref nd, .ref kn, .ref gm, .ref us, .int (iI (↑n)), .ref fo, .ref fh, .ref mi])), (nd, ar cI 8 ND), (kn, ar cI 6 KN), (gm, rr cM 8 (gmF μ n)), (us, ar cI 8 US), (fo, .inr (0, [.int (iI x), .int (iI t), .int (iI s0)])), (fh, ai cI 32 FH)] ++ mW cI cZ μ n) [some (.ref h)] 7 [.int (iI (wyt d (L + 1).toNat 20 L))] from ?_)
  refine z_perm (z_plT (w := [(h, .inr (4, [.ref nd, .ref kn, .ref gm, .ref us, .int (iI (↑n)), .ref fo, .ref fh, .ref mi])), (nd, ar cI 8 ND), (kn, ar cI 6 KN), (gm, rr cM 8 (gmF μ n)), (us, ar cI 8 US), (fo, .inr (0, [.int (iI x), .int (iI t), .int (iI s0)])), (fh, ai cI 32 FH), (mi, .inr (1, [.int (iI L), .int d, .ref fw, .ref wt])), (fw, ai cI 201 A), (wt, ai cI 201 B1)]) 10 [3, 4, 5, 6, 7, 8, 9, 0, 1, 2] rfl (by decide +kernel) rfl) ?_
  exact z_iret C hR dX4_ways_7 (Nat.le_of_ble_eq_true rfl) (Nat.le_of_ble_eq_true rfl) (⟨rfl, B1, rfl⟩)
theorem hi_X4_credit_X4 : ∀ w ∈ wsX40, w ∈ wsX4_credit := by decide +kernel
set_option maxHeartbeats 1000000 in
set_option maxRecDepth 100000 in
theorem k_credit (l : Launch) (hl : l.stackTraces = false) (D : va_G) (cI cZ cM cL : ClassId) (h nd kn gm us fo fh mi fw wt : Nat) (n : Nat) (ND KN US : Int → Int32) (μ : Nat → zM) (x t s0 : Int) (FH : Int → Int) (L : Int) (d : Int32) (A B : Int → Int) (hg : gdO n μ L) (au0 : Int) (ha0 : iR au0) : zNX l yX4_credit wsX4_credit { frames := 9, cells := 17, slots := 102, locals := 156 } D (zTy cI cZ cM cL) [.ref h, .int (iI au0)] (gdW cI cZ cM h nd kn gm us fo fh mi fw wt n ND KN US (μ) x t s0 FH L d A B) (fun r w => cCR au0 = 0 ∧ r = some (.int (iI (crB US (moB μ au0 n) n))) ∧ w = (gdW cI cZ cM h nd kn gm us fo fh mi fw wt n ND KN US (μ) x t s0 FH L d A B)) (pX (cCR au0) "java/lang/IndexOutOfBoundsException" "java/lang/IndexOutOfBoundsException" "java/lang/IndexOutOfBoundsException") 17 102 := by
  refine zNX_of (cc := cX4_credit) (maxL := 5) (lv0 := [some (.ref h), some (.int (iI au0)), none, none, none]) hl (by decide) rfl rfl (Nat.le_of_ble_eq_true rfl) rfl ?_
  intro E Q C hE hR hT
  refine (show zG E Q 0 0 ([(h, .inr (4, [.ref nd, .ref kn, .ref gm, .ref us, .int (iI (↑n)), .ref fo, .ref fh, .ref mi])), (nd, ar cI 8 ND), (kn, ar cI 6 KN), (gm, rr cM 8 (gmF μ n)), (us, ar cI 8 US), (fo, .inr (0, [.int (iI x), .int (iI t), .int (iI s0)])), (fh, ai cI 32 FH), (mi, .inr (1, [.int (iI L), .int d, .ref fw, .ref wt])), (fw, ai cI 201 A), (wt, ai cI 201 B)] ++ mW cI cZ μ n) [some (.ref h), some (.int (iI au0)), none, none, none] 0 [] from ?_)
  have lp : (0 ≤ au0 ∧ au0 < 10) → ∀ (z j : Nat), j ≤ n → n - j < z → zG E Q (0 + 1 + 16) (0 + 6 + 96) ([(h, .inr (4, [.ref nd, .ref kn, .ref gm, .ref us, .int (iI (↑n)), .ref fo, .ref fh, .ref mi])), (nd, ar cI 8 ND), (kn, ar cI 6 KN), (gm, rr cM 8 (gmF μ n)), (us, ar cI 8 US), (fo, .inr (0, [.int (iI x), .int (iI t), .int (iI s0)])), (fh, ai cI 32 FH), (mi, .inr (1, [.int (iI L), .int d, .ref fw, .ref wt])), (fw, ai cI 201 A), (wt, ai cI 201 B)] ++ mW cI cZ μ n) [some (.ref h), some (.int (iI au0)), some (.int (moB μ au0 n)), some (.int (iI (crB US (moB μ au0 n) j))), some (.int (iI ↑j))] 16 [] := by
    intro ha9 z
    induction z with
    | zero => intro j hj hjz; omega
    | succ z ih =>
      intro j hj hjz
      have hn8 := hg.1
      have hcr := crB_r US (moB μ au0 n) j
      have l48 : j < n → zG E Q (0 + 1 + 16) (0 + 6 + 96) ([(h, .inr (4, [.ref nd, .ref kn, .ref gm, .ref us, .int (iI (↑n)), .ref fo, .ref fh, .ref mi])), (nd, ar cI 8 ND), (kn, ar cI 6 KN), (gm, rr cM 8 (gmF μ n)), (us, ar cI 8 US), (fo, .inr (0, [.int (iI x), .int (iI t), .int (iI s0)])), (fh, ai cI 32 FH), (mi, .inr (1, [.int (iI L), .int d, .ref fw, .ref wt])), (fw, ai cI 201 A), (wt, ai cI 201 B)] ++ mW cI cZ μ n) [some (.ref h), some (.int (iI au0)), some (.int (moB μ au0 n)), some (.int (iI (crB US (moB μ au0 n) (j + 1)))), some (.int (iI ↑j))] 48 [] := by
        intro hjn9
        refine z_iincI (v := ↑(j + 1)) (lv' := [some (.ref h), some (.int (iI au0)), some (.int (moB μ au0 n)), some (.int (iI (crB US (moB μ au0 n) (j + 1)))), some (.int (iI (↑(j + 1))))]) C dX4_credit_48 rfl (by omega) rfl ?_
        refine z_goto (tgt := 16) C dX4_credit_51 (by decide) ?_
        exact ih (j + 1) (by omega) (by omega)
      refine z_iload C dX4_credit_16 rfl ?_
      refine z_aload_n (i := 0) C dX4_credit_18 rfl rfl ?_
      refine z_get (ci := 4) C (hi_X4_credit_X4) 0 rfl rfl 4 (by decide) (by decide +kernel) rfl dX4_credit_19 ?_
      refine z_icmp_geI (tgt := 54) C dX4_credit_22 (by decide) ⟨by omega, by omega⟩ ⟨by omega, by omega⟩ (fun hk => ?_) (fun hk => ?_)
      · refine z_iload_n (i := 3) C dX4_credit_54 rfl rfl ?_
        exact z_iret C hR dX4_credit_55 (Nat.le_of_ble_eq_true rfl) (Nat.le_of_ble_eq_true rfl) (⟨by unfold cCR; rw [if_neg (by omega)], by rw [show j = n by omega], rfl⟩)
      · refine z_iload_n (i := 2) C dX4_credit_25 rfl rfl ?_
        refine z_iload C dX4_credit_26 rfl ?_
        refine z_callS (n := 2) (As := [.int (moB μ au0 n), .int (iI ↑j)]) (st := []) (fr := ([(h, .inr (4, [.ref nd, .ref kn, .ref gm, .ref us, .int (iI (↑n)), .ref fo, .ref fh, .ref mi])), (nd, ar cI 8 ND), (kn, ar cI 6 KN), (gm, rr cM 8 (gmF μ n)), (us, ar cI 8 US), (fo, .inr (0, [.int (iI x), .int (iI t), .int (iI s0)])), (fh, ai cI 32 FH), (mi, .inr (1, [.int (iI L), .int d, .ref fw, .ref wt])), (fw, ai cI 201 A), (wt, ai cI 201 B)] ++ mW cI cZ μ n)) C hE (k_holds l D cI cZ cM cL (moB μ au0 n) (iI ↑j)) gX4_credit_X4_holds rfl ⟨rfl, rfl⟩ (by decide +kernel) ⟨Nat.le_of_ble_eq_true rfl, Nat.le_of_ble_eq_true rfl⟩ rfl rfl (List.Perm.refl _) (Nat.le_of_ble_eq_true rfl) ⟨Nat.le_of_ble_eq_true rfl, Nat.le_of_ble_eq_true rfl⟩ dX4_credit_28 (fun r w1 hpo => ?_)
        obtain ⟨rfl, rfl⟩ := hpo
        have hbr := b2r (hb (moB μ au0 n) (iI ↑j))
        refine (show zG E Q (0 + 1 + 16) (0 + 6 + 96) ([(h, .inr (4, [.ref nd, .ref kn, .ref gm, .ref us, .int (iI (↑n)), .ref fo, .ref fh, .ref mi])), (nd, ar cI 8 ND), (kn, ar cI 6 KN), (gm, rr cM 8 (gmF μ n)), (us, ar cI 8 US), (fo, .inr (0, [.int (iI x), .int (iI t), .int (iI s0)])), (fh, ai cI 32 FH), (mi, .inr (1, [.int (iI L), .int d, .ref fw, .ref wt])), (fw, ai cI 201 A), (wt, ai cI 201 B)] ++ mW cI cZ μ n) [some (.ref h), some (.int (iI au0)), some (.int (moB μ au0 n)), some (.int (iI (crB US (moB μ au0 n) j))), some (.int (iI ↑j))] 31 [.int (iI (b2 (hb (moB μ au0 n) (iI ↑j))))] from ?_)
        refine z_if_neI (tgt := 48) C dX4_credit_31 (by decide) ⟨by omega, by omega⟩ (fun hv => ?_) (fun hv => ?_)
        · have e1 : crB US (moB μ au0 n) j = crB US (moB μ au0 n) (j + 1) := by
            rw [show crB US (moB μ au0 n) (j + 1) = if ¬ hb (moB μ au0 n) (iI ↑j) ∧ ¬ (mcB US ↑j &&& (moB μ au0 n)) = 0 then crB US (moB μ au0 n) j + 1 else crB US (moB μ au0 n) j from rfl]
            rw [if_neg (fun q => q.1 (b21 hv))]
          rw [e1]
          exact l48 (by omega)
        · refine z_aload_n (i := 0) C dX4_credit_34 rfl rfl ?_
          refine z_iload C dX4_credit_35 rfl ?_
          refine z_callV (n := 1) (As := [.int (iI ↑j)]) (st := []) (fr := ([(nd, ar cI 8 ND), (kn, ar cI 6 KN), (gm, rr cM 8 (gmF μ n)), (fo, .inr (0, [.int (iI x), .int (iI t), .int (iI s0)])), (fh, ai cI 32 FH), (mi, .inr (1, [.int (iI L), .int d, .ref fw, .ref wt])), (fw, ai cI 201 A), (wt, ai cI 201 B)] ++ mW cI cZ μ n)) C hE (k_modelsCounted l hl D cI cZ cM cL h nd kn gm us fo fh mi n US ↑j) gX4_credit_X4_modelsCountedFor rfl ⟨rfl, rfl⟩ (by decide +kernel) ⟨Nat.le_of_ble_eq_true rfl, Nat.le_of_ble_eq_true rfl⟩ rfl rfl (z_plT (w := [(h, .inr (4, [.ref nd, .ref kn, .ref gm, .ref us, .int (iI (↑n)), .ref fo, .ref fh, .ref mi])), (us, ar cI 8 US), (nd, ar cI 8 ND), (kn, ar cI 6 KN), (gm, rr cM 8 (gmF μ n)), (fo, .inr (0, [.int (iI x), .int (iI t), .int (iI s0)])), (fh, ai cI 32 FH), (mi, .inr (1, [.int (iI L), .int d, .ref fw, .ref wt])), (fw, ai cI 201 A), (wt, ai cI 201 B)]) 10 [0, 4, 1, 2, 3, 5, 6, 7, 8, 9] rfl (by decide +kernel) rfl) 0 rfl rfl rfl (Nat.le_of_ble_eq_true rfl) ⟨Nat.le_of_ble_eq_true rfl, Nat.le_of_ble_eq_true rfl⟩ dX4_credit_37 (fun r w1 hpo => ?_)
          obtain ⟨rfl, rfl⟩ := hpo
          refine (show zG E Q (0 + 1 + 16) (0 + 6 + 96) ([(h, .inr (4, [.ref nd, .ref kn, .ref gm, .ref us, .int (iI (↑n)), .ref fo, .ref fh, .ref mi])), (us, ar cI 8 US), (nd, ar cI 8 ND), (kn, ar cI 6 KN), (gm, rr cM 8 (gmF μ n)), (fo, .inr (0, [.int (iI x), .int (iI t), .int (iI s0)])), (fh, ai cI 32 FH), (mi, .inr (1, [.int (iI L), .int d, .ref fw, .ref wt])), (fw, ai cI 201 A), (wt, ai cI 201 B)] ++ mW cI cZ μ n) [some (.ref h), some (.int (iI au0)), some (.int (moB μ au0 n)), some (.int (iI (crB US (moB μ au0 n) j))), some (.int (iI ↑j))] 40 [.int (mcB US ↑j)] from ?_)
          refine z_perm (z_plT (w := [(h, .inr (4, [.ref nd, .ref kn, .ref gm, .ref us, .int (iI (↑n)), .ref fo, .ref fh, .ref mi])), (nd, ar cI 8 ND), (kn, ar cI 6 KN), (gm, rr cM 8 (gmF μ n)), (us, ar cI 8 US), (fo, .inr (0, [.int (iI x), .int (iI t), .int (iI s0)])), (fh, ai cI 32 FH), (mi, .inr (1, [.int (iI L), .int d, .ref fw, .ref wt])), (fw, ai cI 201 A), (wt, ai cI 201 B)]) 10 [0, 2, 3, 4, 1, 5, 6, 7, 8, 9] rfl (by decide +kernel) rfl) ?_
          refine z_iload_n (i := 2) C dX4_credit_40 rfl rfl ?_
          refine z_iand C dX4_credit_41 ?_
          refine z_if_eq (tgt := 48) C dX4_credit_42 (by decide) (fun hv2 => ?_) (fun hv2 => ?_)
          · have e1 : crB US (moB μ au0 n) j = crB US (moB μ au0 n) (j + 1) := by
              rw [show crB US (moB μ au0 n) (j + 1) = if ¬ hb (moB μ au0 n) (iI ↑j) ∧ ¬ (mcB US ↑j &&& (moB μ au0 n)) = 0 then crB US (moB μ au0 n) j + 1 else crB US (moB μ au0 n) j from rfl]
              rw [if_neg (fun q => q.2 hv2)]
            rw [e1]
            exact l48 (by omega)
          · refine z_iincI (v := crB US (moB μ au0 n) j + 1) (lv' := [some (.ref h), some (.int (iI au0)), some (.int (moB μ au0 n)), some (.int (iI (crB US (moB μ au0 n) j + 1))), some (.int (iI ↑j))]) C dX4_credit_45 rfl (by omega) rfl ?_
            have e1 : crB US (moB μ au0 n) j + 1 = crB US (moB μ au0 n) (j + 1) := by
              rw [show crB US (moB μ au0 n) (j + 1) = if ¬ hb (moB μ au0 n) (iI ↑j) ∧ ¬ (mcB US ↑j &&& (moB μ au0 n)) = 0 then crB US (moB μ au0 n) j + 1 else crB US (moB μ au0 n) j from rfl]
              rw [if_pos ⟨b20 hv, hv2⟩]
            rw [e1]
            exact l48 (by omega)
  refine z_aload_n (i := 0) C dX4_credit_0 rfl rfl ?_
  refine z_iload_n (i := 1) C dX4_credit_1 rfl rfl ?_
  refine z_callVx (n := 1) (As := [.int (iI au0)]) (st := []) (fr := ([(nd, ar cI 8 ND), (kn, ar cI 6 KN), (gm, rr cM 8 (gmF μ n)), (us, ar cI 8 US), (fo, .inr (0, [.int (iI x), .int (iI t), .int (iI s0)])), (fh, ai cI 32 FH), (mi, .inr (1, [.int (iI L), .int d, .ref fw, .ref wt])), (fw, ai cI 201 A), (wt, ai cI 201 B)] ++ mW cI cZ μ n)) C hE (k_checkAuthor l hl D cI cZ cM cL h nd kn gm us fo fh mi n au0 ha0) gX4_credit_X4_checkAuthor rfl ⟨rfl, rfl⟩ (by decide +kernel) ⟨Nat.le_of_ble_eq_true rfl, Nat.le_of_ble_eq_true rfl⟩ rfl rfl (List.Perm.refl _) 0 rfl rfl rfl (Nat.le_of_ble_eq_true rfl) ⟨Nat.le_of_ble_eq_true rfl, Nat.le_of_ble_eq_true rfl⟩ dX4_credit_2 (fun Ex hpx => by obtain ⟨hx9, rfl⟩ := hpx; exact z_out C hT rfl (pX1 (by unfold cCR; rw [if_pos hx9])) ⟨Nat.le_of_ble_eq_true rfl, Nat.le_of_ble_eq_true rfl⟩) (fun r w1 hpo => ?_)
  obtain ⟨rfl, ha9, rfl⟩ := hpo
  refine (show zG E Q (0 + 1) (0 + 6) ([(h, .inr (4, [.ref nd, .ref kn, .ref gm, .ref us, .int (iI (↑n)), .ref fo, .ref fh, .ref mi])), (nd, ar cI 8 ND), (kn, ar cI 6 KN), (gm, rr cM 8 (gmF μ n)), (us, ar cI 8 US), (fo, .inr (0, [.int (iI x), .int (iI t), .int (iI s0)])), (fh, ai cI 32 FH), (mi, .inr (1, [.int (iI L), .int d, .ref fw, .ref wt])), (fw, ai cI 201 A), (wt, ai cI 201 B)] ++ mW cI cZ μ n) [some (.ref h), some (.int (iI au0)), none, none, none] 5 [] from ?_)
  refine z_aload_n (i := 0) C dX4_credit_5 rfl rfl ?_
  refine z_iload_n (i := 1) C dX4_credit_6 rfl rfl ?_
  refine z_callV (n := 1) (As := [.int (iI au0)]) (st := []) (fr := []) C hE (k_modelsOf l hl D cI cZ cM cL h nd kn gm us fo fh mi fw wt n ND KN US μ x t s0 FH L d A B hg au0 ⟨by omega, by omega⟩) gX4_credit_X4_modelsOf rfl ⟨rfl, rfl⟩ (by decide +kernel) ⟨Nat.le_of_ble_eq_true rfl, Nat.le_of_ble_eq_true rfl⟩ rfl rfl (by rw [List.append_nil]) 0 rfl rfl rfl (Nat.le_of_ble_eq_true rfl) ⟨Nat.le_of_ble_eq_true rfl, Nat.le_of_ble_eq_true rfl⟩ dX4_credit_7 (fun r w1 hpo => ?_)
  obtain ⟨rfl, rfl⟩ := hpo
  rw [List.append_nil]
  refine (show zG E Q (0 + 1 + 16) (0 + 6 + 96) ([(h, .inr (4, [.ref nd, .ref kn, .ref gm, .ref us, .int (iI (↑n)), .ref fo, .ref fh, .ref mi])), (nd, ar cI 8 ND), (kn, ar cI 6 KN), (gm, rr cM 8 (gmF μ n)), (us, ar cI 8 US), (fo, .inr (0, [.int (iI x), .int (iI t), .int (iI s0)])), (fh, ai cI 32 FH), (mi, .inr (1, [.int (iI L), .int d, .ref fw, .ref wt])), (fw, ai cI 201 A), (wt, ai cI 201 B)] ++ mW cI cZ μ n) [some (.ref h), some (.int (iI au0)), none, none, none] 10 [.int (moB μ au0 n)] from ?_)
  refine z_istore_n (i := 2) (lv' := [some (.ref h), some (.int (iI au0)), some (.int (moB μ au0 n)), none, none]) C dX4_credit_10 rfl rfl rfl ?_
  refine z_iconst (v := iI 0) C dX4_credit_11 rfl ?_
  refine z_istore_n (i := 3) (lv' := [some (.ref h), some (.int (iI au0)), some (.int (moB μ au0 n)), some (.int (iI 0)), none]) C dX4_credit_12 rfl rfl rfl ?_
  refine z_iconst (v := iI 0) C dX4_credit_13 rfl ?_
  refine z_istore (lv' := [some (.ref h), some (.int (iI au0)), some (.int (moB μ au0 n)), some (.int (iI 0)), some (.int (iI 0))]) C dX4_credit_14 rfl rfl ?_
  exact lp ha9 (n + 1) 0 (by omega) (by omega)
