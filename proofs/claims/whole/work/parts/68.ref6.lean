/-! THE REFERENCE: further calls, its constructor. -/
theorem hi_X5_cellAt_X5 : ∀ w ∈ wsX50, w ∈ wsX5_cellAt := by decide +kernel
set_option maxHeartbeats 1000000 in
set_option maxRecDepth 100000 in
theorem k_rcellAt (l : Launch) (D : va_G) (cI cZ cM cL : ClassId) (r e1 e2 e3 e4 e5 e6 e7 e8 e9 e10 e11 e12 e13 e14 : Nat) (n : Nat) (L : Int) (d : Int32) (sz mo th : Int) (ND US KN : Int → Int32) (AU LE SN KK AT LF PL HE TU MA CU : Int → Int) (hg : rO n L US LE SN AT LF) (i0 p0 h0 : Int) (hi0 : iR i0) (hp0 : iR p0) (hh0 : iR h0) (hH : 0 ≤ i0 → i0 < n → ∀ q : Int, 0 ≤ q → q < LE i0 → iR (mgH (rv AU LE SN KK AT LF i0) q)) : zN l yX5_cellAt wsX5_cellAt { frames := 3, cells := 0, slots := 0, locals := 74 } D (zTy cI cZ cM cL) [.ref r, .int (iI i0), .int (iI p0), .int (iI h0)] (rfW cI r e1 e2 e3 e4 e5 e6 e7 e8 e9 e10 e11 e12 e13 e14 n L d sz mo th ND US KN AU LE SN KK AT LF PL HE TU MA CU) (fun r9 w => ((0 ≤ i0 ∧ i0 < n) ∧ ∃ v : Int, r9 = some (.int (iI v)) ∧ (0 ≤ v ∧ v < LE i0) ∧ mgP (rv AU LE SN KK AT LF i0) v = p0 ∧ mgH (rv AU LE SN KK AT LF i0) v = h0 ∧ (rQ cI r e1 e2 e3 e4 e5 e6 e7 e8 e9 e10 e11 e12 e13 e14 n L d 0 ND US KN AU LE SN KK AT LF w)) ∨ ((¬ (0 ≤ i0 ∧ i0 < n) ∨ ∀ q : Int, 0 ≤ q → q < LE i0 → ¬ (mgP (rv AU LE SN KK AT LF i0) q = p0 ∧ mgH (rv AU LE SN KK AT LF i0) q = h0)) ∧ r9 = some (.int (iI 0)) ∧ (rQ cI r e1 e2 e3 e4 e5 e6 e7 e8 e9 e10 e11 e12 e13 e14 n L d 1 ND US KN AU LE SN KK AT LF w))) 0 0 := by
  refine zN_of (cc := cX5_cellAt) (maxL := 5) (lv0 := [some (.ref r), some (.int (iI i0)), some (.int (iI p0)), some (.int (iI h0)), none]) (by decide) rfl rfl (Nat.le_of_ble_eq_true rfl) rfl ?_
  intro E Q C hE hR hI0
  obtain ⟨hn, hz, hL, hm⟩ := hg
  refine (show zG E Q 0 0 [(r, .inr (5, [.ref e1, .int (iI (↑n)), .ref e2, .ref e3, .ref e4, .ref e5, .ref e6, .ref e7, .ref e8, .int (iI L), .int d, .ref e9, .ref e10, .ref e11, .ref e12, .ref e13, .int (iI sz), .int (iI mo), .ref e14, .int (iI th)])), (e1, ar cI 8 ND), (e2, ai cI 8 AU), (e3, ai cI 8 LE), (e4, ai cI 8 SN), (e5, ar cI 8 US), (e6, ai cI 80 KK), (e7, ai cI 80 AT), (e8, ai cI 80 LF), (e9, ar cI 6 KN), (e10, ai cI 32 PL), (e11, ai cI 32 HE), (e12, ai cI 32 TU), (e13, ai cI 32 MA), (e14, ai cI 201 CU)] [some (.ref r), some (.int (iI i0)), some (.int (iI p0)), some (.int (iI h0)), none] 0 [] from ?_)
  have LQ : (0 ≤ i0 ∧ i0 < ↑n) → ∀ (P1 H1 T1 M1 : Int → Int), (∀ q : Int, 0 ≤ q → q < LE i0 → P1 q = gP (LE i0) (row AT i0) (row LF i0) (SN i0).toNat q ∧ H1 q = gH (LE i0) (row AT i0) (row LF i0) (SN i0).toNat q ∧ T1 q = gT (LE i0) (row AT i0) (row LF i0) (SN i0).toNat q) → ∀ (z j : Nat), j ≤ (LE i0).toNat → (LE i0).toNat - j < z → (∀ q : Int, 0 ≤ q → q < (j : Int) → ¬ (mgP (rv AU LE SN KK AT LF i0) q = p0 ∧ mgH (rv AU LE SN KK AT LF i0) q = h0)) → zG E Q 0 0 [(r, .inr (5, [.ref e1, .int (iI (↑n)), .ref e2, .ref e3, .ref e4, .ref e5, .ref e6, .ref e7, .ref e8, .int (iI L), .int d, .ref e9, .ref e10, .ref e11, .ref e12, .ref e13, .int (iI (gS (LE i0) (row AT i0) (SN i0).toNat)), .int (iI (mst (LE i0) (row AT i0) (row LF i0) (SN i0).toNat)), .ref e14, .int (iI (cM1 n i0))])), (e1, ar cI 8 ND), (e2, ai cI 8 AU), (e3, ai cI 8 LE), (e4, ai cI 8 SN), (e5, ar cI 8 US), (e6, ai cI 80 KK), (e7, ai cI 80 AT), (e8, ai cI 80 LF), (e9, ar cI 6 KN), (e10, ai cI 32 P1), (e11, ai cI 32 H1), (e12, ai cI 32 T1), (e13, ai cI 32 M1), (e14, ai cI 201 CU)] [some (.ref r), some (.int (iI i0)), some (.int (iI p0)), some (.int (iI h0)), some (.int (iI ↑j))] 18 [] := by
    intro hx9 P1 H1 T1 M1 hA9
    obtain ⟨hl9, hs9, ht9⟩ := hm i0 (by omega) (by omega)
    have lp : ∀ (z : Nat) (j : Nat), j ≤ (LE i0).toNat → (LE i0).toNat - j < z → (∀ q : Int, 0 ≤ q → q < (j : Int) → ¬ (mgP (rv AU LE SN KK AT LF i0) q = p0 ∧ mgH (rv AU LE SN KK AT LF i0) q = h0)) → zG E Q (0) (0) [(r, .inr (5, [.ref e1, .int (iI (↑n)), .ref e2, .ref e3, .ref e4, .ref e5, .ref e6, .ref e7, .ref e8, .int (iI L), .int d, .ref e9, .ref e10, .ref e11, .ref e12, .ref e13, .int (iI (gS (LE i0) (row AT i0) (SN i0).toNat)), .int (iI (mst (LE i0) (row AT i0) (row LF i0) (SN i0).toNat)), .ref e14, .int (iI (cM1 n i0))])), (e1, ar cI 8 ND), (e2, ai cI 8 AU), (e3, ai cI 8 LE), (e4, ai cI 8 SN), (e5, ar cI 8 US), (e6, ai cI 80 KK), (e7, ai cI 80 AT), (e8, ai cI 80 LF), (e9, ar cI 6 KN), (e10, ai cI 32 P1), (e11, ai cI 32 H1), (e12, ai cI 32 T1), (e13, ai cI 32 M1), (e14, ai cI 201 CU)] [some (.ref r), some (.int (iI i0)), some (.int (iI p0)), some (.int (iI h0)), some (.int (iI ↑j))] 18 [] := by
      intro z
      induction z with
      | zero => intro j hj hjn hN; omega
      | succ z ih =>
        intro j hj hjn hN
        refine z_iload C dX5_cellAt_18 rfl ?_
        refine z_aload_n (i := 0) C dX5_cellAt_20 rfl rfl ?_
        refine z_get (ci := 5) C (hi_X5_cellAt_X5) 0 rfl rfl 3 (by decide) (by decide +kernel) rfl dX5_cellAt_21 ?_
        refine z_iload_n (i := 1) C dX5_cellAt_24 rfl rfl ?_
        refine z_ialoadI 3 (he := rfl) C (zT_of hE (t0 := 0) rfl) (by omega) (by omega) (by decide) dX5_cellAt_25 ?_
        refine z_icmp_geI (tgt := 60) C dX5_cellAt_26 (by decide) ⟨by omega, by omega⟩ ⟨by omega, by omega⟩ (fun hk => ?_) (fun hk => ?_)
        · refine z_aload_n (i := 0) C dX5_cellAt_60 rfl rfl ?_
          refine z_iconst (v := iI 1) C dX5_cellAt_61 rfl ?_
          refine z_callV (n := 1) (As := [.int (iI 1)]) (st := []) (fr := []) C hE (k_rfails l D cI cZ cM cL r e1 e2 e3 e4 e5 e6 e7 e8 e9 e10 e11 e12 e13 e14 n L d (gS (LE i0) (row AT i0) (SN i0).toNat) (mst (LE i0) (row AT i0) (row LF i0) (SN i0).toNat) (cM1 n i0) ND US KN AU LE SN KK AT LF P1 H1 T1 M1 CU 1 ) gX5_cellAt_X5_fails rfl ⟨rfl, rfl⟩ (by decide +kernel) ⟨Nat.le_of_ble_eq_true rfl, Nat.le_of_ble_eq_true rfl⟩ rfl rfl (by rw [List.append_nil]) 0 rfl rfl rfl (Nat.le_of_ble_eq_true rfl) ⟨Nat.le_of_ble_eq_true rfl, Nat.le_of_ble_eq_true rfl⟩ dX5_cellAt_62 (fun r w1 hpo => ?_)
          obtain ⟨rfl, rfl⟩ := hpo
          rw [List.append_nil]
          refine (show zG E Q (0) (0) [(r, .inr (5, [.ref e1, .int (iI (↑n)), .ref e2, .ref e3, .ref e4, .ref e5, .ref e6, .ref e7, .ref e8, .int (iI L), .int d, .ref e9, .ref e10, .ref e11, .ref e12, .ref e13, .int (iI (gS (LE i0) (row AT i0) (SN i0).toNat)), .int (iI (mst (LE i0) (row AT i0) (row LF i0) (SN i0).toNat)), .ref e14, .int (iI 1)])), (e1, ar cI 8 ND), (e2, ai cI 8 AU), (e3, ai cI 8 LE), (e4, ai cI 8 SN), (e5, ar cI 8 US), (e6, ai cI 80 KK), (e7, ai cI 80 AT), (e8, ai cI 80 LF), (e9, ar cI 6 KN), (e10, ai cI 32 P1), (e11, ai cI 32 H1), (e12, ai cI 32 T1), (e13, ai cI 32 M1), (e14, ai cI 201 CU)] [some (.ref r), some (.int (iI i0)), some (.int (iI p0)), some (.int (iI h0)), some (.int (iI ↑j))] 65 [.int (iI 0)] from ?_)
          exact z_iret C hR dX5_cellAt_65 (Nat.le_of_ble_eq_true rfl) (Nat.le_of_ble_eq_true rfl) (Or.inr ⟨Or.inr (fun q a b => hN q a (by omega)), rfl, gS (LE i0) (row AT i0) (SN i0).toNat, mst (LE i0) (row AT i0) (row LF i0) (SN i0).toNat, P1, H1, T1, M1, CU, rfl⟩)
        · obtain ⟨ha1, ha2, ha3⟩ := hA9 ↑j (by omega) (by omega)
          have hr9 := stV_gP ht9 (by omega) (q := ↑j) (by omega) (by omega) (SN i0).toNat (by omega)
          have hh9 : iR (mgH (rv AU LE SN KK AT LF i0) ↑j) := hH hx9.1 hx9.2 ↑j (by omega) (by omega)
          have hS9 := stV_gS ht9 (by omega) (SN i0).toNat (by omega)
          refine z_aload_n (i := 0) C dX5_cellAt_29 rfl rfl ?_
          refine z_get (ci := 5) C (hi_X5_cellAt_X5) 0 rfl rfl 12 (by decide) (by decide +kernel) rfl dX5_cellAt_30 ?_
          refine z_iload C dX5_cellAt_33 rfl ?_
          refine z_ialoadI 10 (he := rfl) C (zT_of hE (t0 := 0) rfl) (by omega) (by omega) (by decide) dX5_cellAt_35 ?_
          refine z_top (y := iI (gP (LE i0) (row AT i0) (row LF i0) (SN i0).toNat ↑j)) (by rw [ha1]) ?_
          refine z_iload_n (i := 2) C dX5_cellAt_36 rfl rfl ?_
          refine z_icmp_neI (tgt := 54) C dX5_cellAt_37 (by decide) ⟨by omega, by omega⟩ ⟨by omega, by omega⟩ (fun hv1 => ?_) (fun hv1 => ?_)
          · refine z_iincI (v := ↑(j + 1)) (lv' := [some (.ref r), some (.int (iI i0)), some (.int (iI p0)), some (.int (iI h0)), some (.int (iI (↑(j + 1))))]) C dX5_cellAt_54 rfl (by omega) rfl ?_
            refine z_goto (tgt := 18) C dX5_cellAt_57 (by decide) ?_
            refine ih (j + 1) (by omega) (by omega) (fun q a b => ?_)
            by_cases e : q = ↑j
            · rw [e]; first | exact fun x => hv1 x.1 | exact fun x => hv2 x.2
            · exact hN q a (by omega)
          · refine z_aload_n (i := 0) C dX5_cellAt_40 rfl rfl ?_
            refine z_get (ci := 5) C (hi_X5_cellAt_X5) 0 rfl rfl 13 (by decide) (by decide +kernel) rfl dX5_cellAt_41 ?_
            refine z_iload C dX5_cellAt_44 rfl ?_
            refine z_ialoadI 11 (he := rfl) C (zT_of hE (t0 := 0) rfl) (by omega) (by omega) (by decide) dX5_cellAt_46 ?_
            refine z_top (y := iI (mgH (rv AU LE SN KK AT LF i0) ↑j)) (by rw [ha2]; rfl) ?_
            refine z_iload_n (i := 3) C dX5_cellAt_47 rfl rfl ?_
            refine z_icmp_neI (tgt := 54) C dX5_cellAt_48 (by decide) ⟨by omega, by omega⟩ ⟨by omega, by omega⟩ (fun hv2 => ?_) (fun hv2 => ?_)
            · refine z_iincI (v := ↑(j + 1)) (lv' := [some (.ref r), some (.int (iI i0)), some (.int (iI p0)), some (.int (iI h0)), some (.int (iI (↑(j + 1))))]) C dX5_cellAt_54 rfl (by omega) rfl ?_
              refine z_goto (tgt := 18) C dX5_cellAt_57 (by decide) ?_
              refine ih (j + 1) (by omega) (by omega) (fun q a b => ?_)
              by_cases e : q = ↑j
              · rw [e]; first | exact fun x => hv1 x.1 | exact fun x => hv2 x.2
              · exact hN q a (by omega)
            · refine z_iload C dX5_cellAt_51 rfl ?_
              have hc2 : cM1 n i0 = 0 := by unfold cM1; rw [if_neg (fun q => q hx9)]
              exact z_iret C hR dX5_cellAt_53 (Nat.le_of_ble_eq_true rfl) (Nat.le_of_ble_eq_true rfl) (Or.inl ⟨hx9, ↑j, rfl, ⟨by omega, by omega⟩, hv1, hv2, gS (LE i0) (row AT i0) (SN i0).toNat, mst (LE i0) (row AT i0) (row LF i0) (SN i0).toNat, P1, H1, T1, M1, CU, by rw [hc2]⟩)
    exact lp
  refine z_aload_n (i := 0) C dX5_cellAt_0 rfl rfl ?_
  refine z_iload_n (i := 1) C dX5_cellAt_1 rfl rfl ?_
  refine z_callV (n := 1) (As := [.int (iI i0)]) (st := []) (fr := []) C hE (k_risModel l D cI cZ cM cL r e1 e2 e3 e4 e5 e6 e7 e8 e9 e10 e11 e12 e13 e14 n L d sz mo th ND US KN AU LE SN KK AT LF PL HE TU MA CU i0 hi0 hn) gX5_cellAt_X5_isModel rfl ⟨rfl, rfl⟩ (by decide +kernel) ⟨Nat.le_of_ble_eq_true rfl, Nat.le_of_ble_eq_true rfl⟩ rfl rfl (by rw [List.append_nil]) 0 rfl rfl rfl (Nat.le_of_ble_eq_true rfl) ⟨Nat.le_of_ble_eq_true rfl, Nat.le_of_ble_eq_true rfl⟩ dX5_cellAt_2 (fun r w1 hpo => ?_)
  obtain ⟨rfl, rfl⟩ := hpo
  have hb9 := b2r (0 ≤ i0 ∧ i0 < ↑n)
  rw [List.append_nil]
  refine (show zG E Q (0) (0) [(r, .inr (5, [.ref e1, .int (iI (↑n)), .ref e2, .ref e3, .ref e4, .ref e5, .ref e6, .ref e7, .ref e8, .int (iI L), .int d, .ref e9, .ref e10, .ref e11, .ref e12, .ref e13, .int (iI sz), .int (iI mo), .ref e14, .int (iI (cM1 n i0))])), (e1, ar cI 8 ND), (e2, ai cI 8 AU), (e3, ai cI 8 LE), (e4, ai cI 8 SN), (e5, ar cI 8 US), (e6, ai cI 80 KK), (e7, ai cI 80 AT), (e8, ai cI 80 LF), (e9, ar cI 6 KN), (e10, ai cI 32 PL), (e11, ai cI 32 HE), (e12, ai cI 32 TU), (e13, ai cI 32 MA), (e14, ai cI 201 CU)] [some (.ref r), some (.int (iI i0)), some (.int (iI p0)), some (.int (iI h0)), none] 5 [.int (iI (b2 (0 ≤ i0 ∧ i0 < ↑n)))] from ?_)
  refine z_if_neI (tgt := 10) C dX5_cellAt_5 (by decide) ⟨by omega, by omega⟩ (fun h1 => ?_) (fun h1 => ?_)
  · have hx9 := b21 h1
    obtain ⟨hl9, hs9, ht9⟩ := hm i0 (by omega) (by omega)
    refine z_aload_n (i := 0) C dX5_cellAt_10 rfl rfl ?_
    refine z_iload_n (i := 1) C dX5_cellAt_11 rfl rfl ?_
    refine z_callV (n := 1) (As := [.int (iI i0)]) (st := []) (fr := []) C hE (k_rfolds l D cI cZ cM cL r e1 e2 e3 e4 e5 e6 e7 e8 e9 e10 e11 e12 e13 e14 n L d sz mo (cM1 n i0) ND US KN AU LE SN KK AT LF PL HE TU MA CU i0 ⟨by omega, by omega⟩ hl9 hs9 ht9) gX5_cellAt_X5_folds rfl ⟨rfl, rfl⟩ (by decide +kernel) ⟨Nat.le_of_ble_eq_true rfl, Nat.le_of_ble_eq_true rfl⟩ rfl rfl (by rw [List.append_nil]) 0 rfl rfl rfl (Nat.le_of_ble_eq_true rfl) ⟨Nat.le_of_ble_eq_true rfl, Nat.le_of_ble_eq_true rfl⟩ dX5_cellAt_12 (fun r w1 hpo => ?_)
    obtain ⟨rfl, P1, H1, T1, M1, rfl, hA9, hM9⟩ := hpo
    have hS9 := stV_gS ht9 (by omega) (SN i0).toNat (by omega)
    rw [List.append_nil]
    refine (show zG E Q (0) (0) [(r, .inr (5, [.ref e1, .int (iI (↑n)), .ref e2, .ref e3, .ref e4, .ref e5, .ref e6, .ref e7, .ref e8, .int (iI L), .int d, .ref e9, .ref e10, .ref e11, .ref e12, .ref e13, .int (iI (gS (LE i0) (row AT i0) (SN i0).toNat)), .int (iI (mst (LE i0) (row AT i0) (row LF i0) (SN i0).toNat)), .ref e14, .int (iI (cM1 n i0))])), (e1, ar cI 8 ND), (e2, ai cI 8 AU), (e3, ai cI 8 LE), (e4, ai cI 8 SN), (e5, ar cI 8 US), (e6, ai cI 80 KK), (e7, ai cI 80 AT), (e8, ai cI 80 LF), (e9, ar cI 6 KN), (e10, ai cI 32 P1), (e11, ai cI 32 H1), (e12, ai cI 32 T1), (e13, ai cI 32 M1), (e14, ai cI 201 CU)] [some (.ref r), some (.int (iI i0)), some (.int (iI p0)), some (.int (iI h0)), none] 15 [] from ?_)
    refine z_iconst (v := iI 0) C dX5_cellAt_15 rfl ?_
    refine z_istore (lv' := [some (.ref r), some (.int (iI i0)), some (.int (iI p0)), some (.int (iI h0)), some (.int (iI 0))]) C dX5_cellAt_16 rfl rfl ?_
    exact LQ hx9 P1 H1 T1 M1 hA9 ((LE i0).toNat + 1) 0 (by omega) (by omega) (fun q a b => by omega)
  · refine z_iconst (v := iI 0) C dX5_cellAt_8 rfl ?_
    have hc2 : cM1 n i0 = 1 := by unfold cM1; rw [if_pos (b20 h1)]
    exact z_iret C hR dX5_cellAt_9 (Nat.le_of_ble_eq_true rfl) (Nat.le_of_ble_eq_true rfl) (Or.inr ⟨Or.inl (b20 h1), rfl, sz, mo, PL, HE, TU, MA, CU, by rw [hc2]⟩)
theorem hi_X5_placeOf_X5 : ∀ w ∈ wsX50, w ∈ wsX5_placeOf := by decide +kernel
set_option maxHeartbeats 1000000 in
set_option maxRecDepth 100000 in
theorem k_rplaceOf (l : Launch) (D : va_G) (cI cZ cM cL : ClassId) (r e1 e2 e3 e4 e5 e6 e7 e8 e9 e10 e11 e12 e13 e14 : Nat) (n : Nat) (L : Int) (d : Int32) (sz mo th : Int) (ND US KN : Int → Int32) (AU LE SN KK AT LF PL HE TU MA CU : Int → Int) (hg : rO n L US LE SN AT LF) (i0 q0 : Int) (hi0 : iR i0) (hq0 : iR q0) : zN l yX5_placeOf wsX5_placeOf { frames := 3, cells := 0, slots := 0, locals := 74 } D (zTy cI cZ cM cL) [.ref r, .int (iI i0), .int (iI q0)] (rfW cI r e1 e2 e3 e4 e5 e6 e7 e8 e9 e10 e11 e12 e13 e14 n L d sz mo th ND US KN AU LE SN KK AT LF PL HE TU MA CU) (fun r9 w => ((cPO n (rv AU LE SN KK AT LF i0) i0 q0) = 0 ∧ r9 = some (.int (iI (mgP (rv AU LE SN KK AT LF i0) q0))) ∧ (rQ cI r e1 e2 e3 e4 e5 e6 e7 e8 e9 e10 e11 e12 e13 e14 n L d 0 ND US KN AU LE SN KK AT LF w)) ∨ (¬ (cPO n (rv AU LE SN KK AT LF i0) i0 q0) = 0 ∧ r9 = some (.int (iI 0)) ∧ (rQ cI r e1 e2 e3 e4 e5 e6 e7 e8 e9 e10 e11 e12 e13 e14 n L d (cPO n (rv AU LE SN KK AT LF i0) i0 q0) ND US KN AU LE SN KK AT LF w))) 0 0 := by
  refine zN_of (cc := cX5_placeOf) (maxL := 3) (lv0 := [some (.ref r), some (.int (iI i0)), some (.int (iI q0))]) (by decide) rfl rfl (Nat.le_of_ble_eq_true rfl) rfl ?_
  intro E Q C hE hR hI0
  obtain ⟨hn, hz, hL, hm⟩ := hg
  have hN8 : mle (rv AU LE SN KK AT LF i0) = LE i0 := rfl
  refine (show zG E Q 0 0 [(r, .inr (5, [.ref e1, .int (iI (↑n)), .ref e2, .ref e3, .ref e4, .ref e5, .ref e6, .ref e7, .ref e8, .int (iI L), .int d, .ref e9, .ref e10, .ref e11, .ref e12, .ref e13, .int (iI sz), .int (iI mo), .ref e14, .int (iI th)])), (e1, ar cI 8 ND), (e2, ai cI 8 AU), (e3, ai cI 8 LE), (e4, ai cI 8 SN), (e5, ar cI 8 US), (e6, ai cI 80 KK), (e7, ai cI 80 AT), (e8, ai cI 80 LF), (e9, ar cI 6 KN), (e10, ai cI 32 PL), (e11, ai cI 32 HE), (e12, ai cI 32 TU), (e13, ai cI 32 MA), (e14, ai cI 201 CU)] [some (.ref r), some (.int (iI i0)), some (.int (iI q0))] 0 [] from ?_)
  refine z_aload_n (i := 0) C dX5_placeOf_0 rfl rfl ?_
  refine z_iload_n (i := 1) C dX5_placeOf_1 rfl rfl ?_
  refine z_iload_n (i := 2) C dX5_placeOf_2 rfl rfl ?_
  refine z_callV (n := 2) (As := [.int (iI i0), .int (iI q0)]) (st := []) (fr := []) C hE (k_risCell l D cI cZ cM cL r e1 e2 e3 e4 e5 e6 e7 e8 e9 e10 e11 e12 e13 e14 n L d sz mo th ND US KN AU LE SN KK AT LF PL HE TU MA CU i0 q0 hi0 hq0 hn (fun i a b => (hm i a b).1)) gX5_placeOf_X5_isCell rfl ⟨rfl, rfl⟩ (by decide +kernel) ⟨Nat.le_of_ble_eq_true rfl, Nat.le_of_ble_eq_true rfl⟩ rfl rfl (by rw [List.append_nil]) 0 rfl rfl rfl (Nat.le_of_ble_eq_true rfl) ⟨Nat.le_of_ble_eq_true rfl, Nat.le_of_ble_eq_true rfl⟩ dX5_placeOf_3 (fun r w1 hpo => ?_)
  obtain ⟨rfl, rfl⟩ := hpo
  have hb9 := b2r ((0 ≤ i0 ∧ i0 < ↑n) ∧ 0 ≤ q0 ∧ q0 < LE i0)
  rw [List.append_nil]
  refine (show zG E Q (0) (0) [(r, .inr (5, [.ref e1, .int (iI (↑n)), .ref e2, .ref e3, .ref e4, .ref e5, .ref e6, .ref e7, .ref e8, .int (iI L), .int d, .ref e9, .ref e10, .ref e11, .ref e12, .ref e13, .int (iI sz), .int (iI mo), .ref e14, .int (iI (if (0 ≤ i0 ∧ i0 < ↑n) ∧ 0 ≤ q0 ∧ q0 < LE i0 then 0 else 1))])), (e1, ar cI 8 ND), (e2, ai cI 8 AU), (e3, ai cI 8 LE), (e4, ai cI 8 SN), (e5, ar cI 8 US), (e6, ai cI 80 KK), (e7, ai cI 80 AT), (e8, ai cI 80 LF), (e9, ar cI 6 KN), (e10, ai cI 32 PL), (e11, ai cI 32 HE), (e12, ai cI 32 TU), (e13, ai cI 32 MA), (e14, ai cI 201 CU)] [some (.ref r), some (.int (iI i0)), some (.int (iI q0))] 6 [.int (iI (b2 ((0 ≤ i0 ∧ i0 < ↑n) ∧ 0 ≤ q0 ∧ q0 < LE i0)))] from ?_)
  refine z_if_neI (tgt := 11) C dX5_placeOf_6 (by decide) ⟨by omega, by omega⟩ (fun h1 => ?_) (fun h1 => ?_)
  · have hx9 := b21 h1
    obtain ⟨hl9, hs9, ht9⟩ := hm i0 (by omega) (by omega)
    refine z_aload_n (i := 0) C dX5_placeOf_11 rfl rfl ?_
    refine z_iload_n (i := 1) C dX5_placeOf_12 rfl rfl ?_
    refine z_callV (n := 1) (As := [.int (iI i0)]) (st := []) (fr := []) C hE (k_rfolds l D cI cZ cM cL r e1 e2 e3 e4 e5 e6 e7 e8 e9 e10 e11 e12 e13 e14 n L d sz mo (if (0 ≤ i0 ∧ i0 < ↑n) ∧ 0 ≤ q0 ∧ q0 < LE i0 then 0 else 1) ND US KN AU LE SN KK AT LF PL HE TU MA CU i0 ⟨by omega, by omega⟩ hl9 hs9 ht9) gX5_placeOf_X5_folds rfl ⟨rfl, rfl⟩ (by decide +kernel) ⟨Nat.le_of_ble_eq_true rfl, Nat.le_of_ble_eq_true rfl⟩ rfl rfl (by rw [List.append_nil]) 0 rfl rfl rfl (Nat.le_of_ble_eq_true rfl) ⟨Nat.le_of_ble_eq_true rfl, Nat.le_of_ble_eq_true rfl⟩ dX5_placeOf_13 (fun r w1 hpo => ?_)
    obtain ⟨rfl, P1, H1, T1, M1, rfl, hA9, hM9⟩ := hpo
    have hS9 := stV_gS ht9 (by omega) (SN i0).toNat (by omega)
    obtain ⟨ha1, ha2, ha3⟩ := hA9 q0 (by omega) (by omega)
    rw [List.append_nil]
    refine (show zG E Q (0) (0) [(r, .inr (5, [.ref e1, .int (iI (↑n)), .ref e2, .ref e3, .ref e4, .ref e5, .ref e6, .ref e7, .ref e8, .int (iI L), .int d, .ref e9, .ref e10, .ref e11, .ref e12, .ref e13, .int (iI (gS (LE i0) (row AT i0) (SN i0).toNat)), .int (iI (mst (LE i0) (row AT i0) (row LF i0) (SN i0).toNat)), .ref e14, .int (iI (if (0 ≤ i0 ∧ i0 < ↑n) ∧ 0 ≤ q0 ∧ q0 < LE i0 then 0 else 1))])), (e1, ar cI 8 ND), (e2, ai cI 8 AU), (e3, ai cI 8 LE), (e4, ai cI 8 SN), (e5, ar cI 8 US), (e6, ai cI 80 KK), (e7, ai cI 80 AT), (e8, ai cI 80 LF), (e9, ar cI 6 KN), (e10, ai cI 32 P1), (e11, ai cI 32 H1), (e12, ai cI 32 T1), (e13, ai cI 32 M1), (e14, ai cI 201 CU)] [some (.ref r), some (.int (iI i0)), some (.int (iI q0))] 16 [] from ?_)
    refine z_aload_n (i := 0) C dX5_placeOf_16 rfl rfl ?_
    refine z_get (ci := 5) C (hi_X5_placeOf_X5) 0 rfl rfl 12 (by decide) (by decide +kernel) rfl dX5_placeOf_17 ?_
    refine z_iload_n (i := 2) C dX5_placeOf_20 rfl rfl ?_
    refine z_ialoadI 10 (he := rfl) C (zT_of hE (t0 := 0) rfl) (by omega) (by omega) (by decide) dX5_placeOf_21 ?_
    have hc : cPO n (rv AU LE SN KK AT LF i0) i0 q0 = 0 := by unfold cPO; rw [if_neg (by have := b21 h1; omega)]
    exact z_iret C hR dX5_placeOf_22 (Nat.le_of_ble_eq_true rfl) (Nat.le_of_ble_eq_true rfl) (Or.inl ⟨hc, by rw [ha1]; rfl, gS (LE i0) (row AT i0) (SN i0).toNat, mst (LE i0) (row AT i0) (row LF i0) (SN i0).toNat, P1, H1, T1, M1, CU, by rw [if_pos (b21 h1)]⟩)
  · refine z_iconst (v := iI 0) C dX5_placeOf_9 rfl ?_
    have hc : cPO n (rv AU LE SN KK AT LF i0) i0 q0 = 1 := by unfold cPO; rw [if_pos (by have := b20 h1; omega)]
    exact z_iret C hR dX5_placeOf_10 (Nat.le_of_ble_eq_true rfl) (Nat.le_of_ble_eq_true rfl) (Or.inr ⟨by omega, rfl, sz, mo, PL, HE, TU, MA, CU, by rw [hc, if_neg (b20 h1)]⟩)
theorem hi_X5_isTurned_X5 : ∀ w ∈ wsX50, w ∈ wsX5_isTurned := by decide +kernel
set_option maxHeartbeats 1000000 in
set_option maxRecDepth 100000 in
theorem k_risTurned (l : Launch) (D : va_G) (cI cZ cM cL : ClassId) (r e1 e2 e3 e4 e5 e6 e7 e8 e9 e10 e11 e12 e13 e14 : Nat) (n : Nat) (L : Int) (d : Int32) (sz mo th : Int) (ND US KN : Int → Int32) (AU LE SN KK AT LF PL HE TU MA CU : Int → Int) (hg : rO n L US LE SN AT LF) (i0 q0 : Int) (hi0 : iR i0) (hq0 : iR q0) : zN l yX5_isTurned wsX5_isTurned { frames := 3, cells := 0, slots := 0, locals := 74 } D (zTy cI cZ cM cL) [.ref r, .int (iI i0), .int (iI q0)] (rfW cI r e1 e2 e3 e4 e5 e6 e7 e8 e9 e10 e11 e12 e13 e14 n L d sz mo th ND US KN AU LE SN KK AT LF PL HE TU MA CU) (fun r9 w => ((cPO n (rv AU LE SN KK AT LF i0) i0 q0) = 0 ∧ r9 = some (.int (iI (mgT (rv AU LE SN KK AT LF i0) q0))) ∧ (rQ cI r e1 e2 e3 e4 e5 e6 e7 e8 e9 e10 e11 e12 e13 e14 n L d 0 ND US KN AU LE SN KK AT LF w)) ∨ (¬ (cPO n (rv AU LE SN KK AT LF i0) i0 q0) = 0 ∧ r9 = some (.int (iI 0)) ∧ (rQ cI r e1 e2 e3 e4 e5 e6 e7 e8 e9 e10 e11 e12 e13 e14 n L d (cPO n (rv AU LE SN KK AT LF i0) i0 q0) ND US KN AU LE SN KK AT LF w))) 0 0 := by
  refine zN_of (cc := cX5_isTurned) (maxL := 3) (lv0 := [some (.ref r), some (.int (iI i0)), some (.int (iI q0))]) (by decide) rfl rfl (Nat.le_of_ble_eq_true rfl) rfl ?_
  intro E Q C hE hR hI0
  obtain ⟨hn, hz, hL, hm⟩ := hg
  have hN8 : mle (rv AU LE SN KK AT LF i0) = LE i0 := rfl
  refine (show zG E Q 0 0 [(r, .inr (5, [.ref e1, .int (iI (↑n)), .ref e2, .ref e3, .ref e4, .ref e5, .ref e6, .ref e7, .ref e8, .int (iI L), .int d, .ref e9, .ref e10, .ref e11, .ref e12, .ref e13, .int (iI sz), .int (iI mo), .ref e14, .int (iI th)])), (e1, ar cI 8 ND), (e2, ai cI 8 AU), (e3, ai cI 8 LE), (e4, ai cI 8 SN), (e5, ar cI 8 US), (e6, ai cI 80 KK), (e7, ai cI 80 AT), (e8, ai cI 80 LF), (e9, ar cI 6 KN), (e10, ai cI 32 PL), (e11, ai cI 32 HE), (e12, ai cI 32 TU), (e13, ai cI 32 MA), (e14, ai cI 201 CU)] [some (.ref r), some (.int (iI i0)), some (.int (iI q0))] 0 [] from ?_)
  refine z_aload_n (i := 0) C dX5_isTurned_0 rfl rfl ?_
  refine z_iload_n (i := 1) C dX5_isTurned_1 rfl rfl ?_
  refine z_iload_n (i := 2) C dX5_isTurned_2 rfl rfl ?_
  refine z_callV (n := 2) (As := [.int (iI i0), .int (iI q0)]) (st := []) (fr := []) C hE (k_risCell l D cI cZ cM cL r e1 e2 e3 e4 e5 e6 e7 e8 e9 e10 e11 e12 e13 e14 n L d sz mo th ND US KN AU LE SN KK AT LF PL HE TU MA CU i0 q0 hi0 hq0 hn (fun i a b => (hm i a b).1)) gX5_isTurned_X5_isCell rfl ⟨rfl, rfl⟩ (by decide +kernel) ⟨Nat.le_of_ble_eq_true rfl, Nat.le_of_ble_eq_true rfl⟩ rfl rfl (by rw [List.append_nil]) 0 rfl rfl rfl (Nat.le_of_ble_eq_true rfl) ⟨Nat.le_of_ble_eq_true rfl, Nat.le_of_ble_eq_true rfl⟩ dX5_isTurned_3 (fun r w1 hpo => ?_)
  obtain ⟨rfl, rfl⟩ := hpo
  have hb9 := b2r ((0 ≤ i0 ∧ i0 < ↑n) ∧ 0 ≤ q0 ∧ q0 < LE i0)
  rw [List.append_nil]
  refine (show zG E Q (0) (0) [(r, .inr (5, [.ref e1, .int (iI (↑n)), .ref e2, .ref e3, .ref e4, .ref e5, .ref e6, .ref e7, .ref e8, .int (iI L), .int d, .ref e9, .ref e10, .ref e11, .ref e12, .ref e13, .int (iI sz), .int (iI mo), .ref e14, .int (iI (if (0 ≤ i0 ∧ i0 < ↑n) ∧ 0 ≤ q0 ∧ q0 < LE i0 then 0 else 1))])), (e1, ar cI 8 ND), (e2, ai cI 8 AU), (e3, ai cI 8 LE), (e4, ai cI 8 SN), (e5, ar cI 8 US), (e6, ai cI 80 KK), (e7, ai cI 80 AT), (e8, ai cI 80 LF), (e9, ar cI 6 KN), (e10, ai cI 32 PL), (e11, ai cI 32 HE), (e12, ai cI 32 TU), (e13, ai cI 32 MA), (e14, ai cI 201 CU)] [some (.ref r), some (.int (iI i0)), some (.int (iI q0))] 6 [.int (iI (b2 ((0 ≤ i0 ∧ i0 < ↑n) ∧ 0 ≤ q0 ∧ q0 < LE i0)))] from ?_)
  refine z_if_neI (tgt := 11) C dX5_isTurned_6 (by decide) ⟨by omega, by omega⟩ (fun h1 => ?_) (fun h1 => ?_)
  · have hx9 := b21 h1
    obtain ⟨hl9, hs9, ht9⟩ := hm i0 (by omega) (by omega)
    refine z_aload_n (i := 0) C dX5_isTurned_11 rfl rfl ?_
    refine z_iload_n (i := 1) C dX5_isTurned_12 rfl rfl ?_
    refine z_callV (n := 1) (As := [.int (iI i0)]) (st := []) (fr := []) C hE (k_rfolds l D cI cZ cM cL r e1 e2 e3 e4 e5 e6 e7 e8 e9 e10 e11 e12 e13 e14 n L d sz mo (if (0 ≤ i0 ∧ i0 < ↑n) ∧ 0 ≤ q0 ∧ q0 < LE i0 then 0 else 1) ND US KN AU LE SN KK AT LF PL HE TU MA CU i0 ⟨by omega, by omega⟩ hl9 hs9 ht9) gX5_isTurned_X5_folds rfl ⟨rfl, rfl⟩ (by decide +kernel) ⟨Nat.le_of_ble_eq_true rfl, Nat.le_of_ble_eq_true rfl⟩ rfl rfl (by rw [List.append_nil]) 0 rfl rfl rfl (Nat.le_of_ble_eq_true rfl) ⟨Nat.le_of_ble_eq_true rfl, Nat.le_of_ble_eq_true rfl⟩ dX5_isTurned_13 (fun r w1 hpo => ?_)
    obtain ⟨rfl, P1, H1, T1, M1, rfl, hA9, hM9⟩ := hpo
    have hS9 := stV_gS ht9 (by omega) (SN i0).toNat (by omega)
    obtain ⟨ha1, ha2, ha3⟩ := hA9 q0 (by omega) (by omega)
    rw [List.append_nil]
    refine (show zG E Q (0) (0) [(r, .inr (5, [.ref e1, .int (iI (↑n)), .ref e2, .ref e3, .ref e4, .ref e5, .ref e6, .ref e7, .ref e8, .int (iI L), .int d, .ref e9, .ref e10, .ref e11, .ref e12, .ref e13, .int (iI (gS (LE i0) (row AT i0) (SN i0).toNat)), .int (iI (mst (LE i0) (row AT i0) (row LF i0) (SN i0).toNat)), .ref e14, .int (iI (if (0 ≤ i0 ∧ i0 < ↑n) ∧ 0 ≤ q0 ∧ q0 < LE i0 then 0 else 1))])), (e1, ar cI 8 ND), (e2, ai cI 8 AU), (e3, ai cI 8 LE), (e4, ai cI 8 SN), (e5, ar cI 8 US), (e6, ai cI 80 KK), (e7, ai cI 80 AT), (e8, ai cI 80 LF), (e9, ar cI 6 KN), (e10, ai cI 32 P1), (e11, ai cI 32 H1), (e12, ai cI 32 T1), (e13, ai cI 32 M1), (e14, ai cI 201 CU)] [some (.ref r), some (.int (iI i0)), some (.int (iI q0))] 16 [] from ?_)
    refine z_aload_n (i := 0) C dX5_isTurned_16 rfl rfl ?_
    refine z_get (ci := 5) C (hi_X5_isTurned_X5) 0 rfl rfl 14 (by decide) (by decide +kernel) rfl dX5_isTurned_17 ?_
    refine z_iload_n (i := 2) C dX5_isTurned_20 rfl rfl ?_
    refine z_ialoadI 12 (he := rfl) C (zT_of hE (t0 := 0) rfl) (by omega) (by omega) (by decide) dX5_isTurned_21 ?_
    refine z_top (y := iI (mgT (rv AU LE SN KK AT LF i0) q0)) (by rw [ha3]; rfl) ?_
    have hT9 : mgT (rv AU LE SN KK AT LF i0) q0 = 0 ∨ mgT (rv AU LE SN KK AT LF i0) q0 = 1 := gT_r q0 (SN i0).toNat
    refine z_iconst (v := iI 1) C dX5_isTurned_22 rfl ?_
    refine z_icmp_neI (tgt := 30) C dX5_isTurned_23 (by decide) ⟨by omega, by omega⟩ ⟨by omega, by omega⟩ (fun hv => ?_) (fun hv => ?_)
    · refine z_iconst (v := iI 0) C dX5_isTurned_30 rfl ?_
      have hc : cPO n (rv AU LE SN KK AT LF i0) i0 q0 = 0 := by unfold cPO; rw [if_neg (by have := b21 h1; omega)]
      exact z_zret C hR (by decide) dX5_isTurned_31 (Nat.le_of_ble_eq_true rfl) (Nat.le_of_ble_eq_true rfl) (Or.inl ⟨hc, by rw [show mgT (rv AU LE SN KK AT LF i0) q0 = 0 from by exact hT9.resolve_right hv], gS (LE i0) (row AT i0) (SN i0).toNat, mst (LE i0) (row AT i0) (row LF i0) (SN i0).toNat, P1, H1, T1, M1, CU, by rw [if_pos (b21 h1)]⟩)
    · refine z_iconst (v := iI 1) C dX5_isTurned_26 rfl ?_
      refine z_goto (tgt := 31) C dX5_isTurned_27 (by decide) ?_
      have hc : cPO n (rv AU LE SN KK AT LF i0) i0 q0 = 0 := by unfold cPO; rw [if_neg (by have := b21 h1; omega)]
      exact z_zret C hR (by decide) dX5_isTurned_31 (Nat.le_of_ble_eq_true rfl) (Nat.le_of_ble_eq_true rfl) (Or.inl ⟨hc, by rw [show mgT (rv AU LE SN KK AT LF i0) q0 = 1 from by exact hv], gS (LE i0) (row AT i0) (SN i0).toNat, mst (LE i0) (row AT i0) (row LF i0) (SN i0).toNat, P1, H1, T1, M1, CU, by rw [if_pos (b21 h1)]⟩)
  · refine z_iconst (v := iI 0) C dX5_isTurned_9 rfl ?_
    have hc : cPO n (rv AU LE SN KK AT LF i0) i0 q0 = 1 := by unfold cPO; rw [if_pos (by have := b20 h1; omega)]
    exact z_zret C hR (by decide) dX5_isTurned_10 (Nat.le_of_ble_eq_true rfl) (Nat.le_of_ble_eq_true rfl) (Or.inr ⟨by omega, rfl, sz, mo, PL, HE, TU, MA, CU, by rw [hc, if_neg (b20 h1)]⟩)
theorem hi_X5_bears_X5 : ∀ w ∈ wsX50, w ∈ wsX5_bears := by decide +kernel
set_option maxHeartbeats 1000000 in
set_option maxRecDepth 100000 in
theorem k_rbears (l : Launch) (D : va_G) (cI cZ cM cL : ClassId) (r e1 e2 e3 e4 e5 e6 e7 e8 e9 e10 e11 e12 e13 e14 : Nat) (n : Nat) (L : Int) (d : Int32) (sz mo th : Int) (ND US KN : Int → Int32) (AU LE SN KK AT LF PL HE TU MA CU : Int → Int) (hg : rO n L US LE SN AT LF) (i0 g0 : Int) (hi0 : iR i0) (hg0 : iR g0) : zN l yX5_bears wsX5_bears { frames := 3, cells := 0, slots := 0, locals := 74 } D (zTy cI cZ cM cL) [.ref r, .int (iI i0), .int (iI g0)] (rfW cI r e1 e2 e3 e4 e5 e6 e7 e8 e9 e10 e11 e12 e13 e14 n L d sz mo th ND US KN AU LE SN KK AT LF PL HE TU MA CU) (fun r9 w => ((cBE n i0 g0) = 0 ∧ r9 = some (.int (iI (b2 (mst (LE i0) (row AT i0) (row LF i0) (SN i0).toNat ≤ max 1 (40 - 2 * g0))))) ∧ (rQ cI r e1 e2 e3 e4 e5 e6 e7 e8 e9 e10 e11 e12 e13 e14 n L d 0 ND US KN AU LE SN KK AT LF w)) ∨ (¬ (cBE n i0 g0) = 0 ∧ r9 = some (.int (iI 0)) ∧ (rQ cI r e1 e2 e3 e4 e5 e6 e7 e8 e9 e10 e11 e12 e13 e14 n L d (cBE n i0 g0) ND US KN AU LE SN KK AT LF w))) 0 0 := by
  refine zN_of (cc := cX5_bears) (maxL := 4) (lv0 := [some (.ref r), some (.int (iI i0)), some (.int (iI g0)), none]) (by decide) rfl rfl (Nat.le_of_ble_eq_true rfl) rfl ?_
  intro E Q C hE hR hI0
  obtain ⟨hn, hz, hL, hm⟩ := hg
  refine (show zG E Q 0 0 [(r, .inr (5, [.ref e1, .int (iI (↑n)), .ref e2, .ref e3, .ref e4, .ref e5, .ref e6, .ref e7, .ref e8, .int (iI L), .int d, .ref e9, .ref e10, .ref e11, .ref e12, .ref e13, .int (iI sz), .int (iI mo), .ref e14, .int (iI th)])), (e1, ar cI 8 ND), (e2, ai cI 8 AU), (e3, ai cI 8 LE), (e4, ai cI 8 SN), (e5, ar cI 8 US), (e6, ai cI 80 KK), (e7, ai cI 80 AT), (e8, ai cI 80 LF), (e9, ar cI 6 KN), (e10, ai cI 32 PL), (e11, ai cI 32 HE), (e12, ai cI 32 TU), (e13, ai cI 32 MA), (e14, ai cI 201 CU)] [some (.ref r), some (.int (iI i0)), some (.int (iI g0)), none] 0 [] from ?_)
  refine z_aload_n (i := 0) C dX5_bears_0 rfl rfl ?_
  refine z_iload_n (i := 1) C dX5_bears_1 rfl rfl ?_
  refine z_callV (n := 1) (As := [.int (iI i0)]) (st := []) (fr := []) C hE (k_risModel l D cI cZ cM cL r e1 e2 e3 e4 e5 e6 e7 e8 e9 e10 e11 e12 e13 e14 n L d sz mo th ND US KN AU LE SN KK AT LF PL HE TU MA CU i0 hi0 hn) gX5_bears_X5_isModel rfl ⟨rfl, rfl⟩ (by decide +kernel) ⟨Nat.le_of_ble_eq_true rfl, Nat.le_of_ble_eq_true rfl⟩ rfl rfl (by rw [List.append_nil]) 0 rfl rfl rfl (Nat.le_of_ble_eq_true rfl) ⟨Nat.le_of_ble_eq_true rfl, Nat.le_of_ble_eq_true rfl⟩ dX5_bears_2 (fun r w1 hpo => ?_)
  obtain ⟨rfl, rfl⟩ := hpo
  have hb9 := b2r (0 ≤ i0 ∧ i0 < ↑n)
  rw [List.append_nil]
  refine (show zG E Q (0) (0) [(r, .inr (5, [.ref e1, .int (iI (↑n)), .ref e2, .ref e3, .ref e4, .ref e5, .ref e6, .ref e7, .ref e8, .int (iI L), .int d, .ref e9, .ref e10, .ref e11, .ref e12, .ref e13, .int (iI sz), .int (iI mo), .ref e14, .int (iI (cM1 n i0))])), (e1, ar cI 8 ND), (e2, ai cI 8 AU), (e3, ai cI 8 LE), (e4, ai cI 8 SN), (e5, ar cI 8 US), (e6, ai cI 80 KK), (e7, ai cI 80 AT), (e8, ai cI 80 LF), (e9, ar cI 6 KN), (e10, ai cI 32 PL), (e11, ai cI 32 HE), (e12, ai cI 32 TU), (e13, ai cI 32 MA), (e14, ai cI 201 CU)] [some (.ref r), some (.int (iI i0)), some (.int (iI g0)), none] 5 [.int (iI (b2 (0 ≤ i0 ∧ i0 < ↑n)))] from ?_)
  refine z_if_eqI (tgt := 27) C dX5_bears_5 (by decide) ⟨by omega, by omega⟩ (fun h1 => ?_) (fun h1 => ?_)
  · have hc2 : cM1 n i0 = 1 := by unfold cM1; rw [if_pos (b20 h1)]
    refine z_aload_n (i := 0) C dX5_bears_27 rfl rfl ?_
    refine z_get (ci := 5) C (hi_X5_bears_X5) 0 rfl rfl 19 (by decide) (by decide +kernel) rfl dX5_bears_28 ?_
    refine z_if_leI (tgt := 36) C dX5_bears_31 (by decide) ⟨by omega, by omega⟩ (fun h => by exfalso; omega) (fun _ => ?_)
    refine z_iconst (v := iI 0) C dX5_bears_34 rfl ?_
    have hc : cBE n i0 g0 = 1 := by unfold cBE; rw [if_pos (b20 h1)]
    exact z_zret C hR (by decide) dX5_bears_35 (Nat.le_of_ble_eq_true rfl) (Nat.le_of_ble_eq_true rfl) (Or.inr ⟨by omega, rfl, sz, mo, PL, HE, TU, MA, CU, by rw [hc, hc2]⟩)
  · refine z_aload_n (i := 0) C dX5_bears_8 rfl rfl ?_
    refine z_iload_n (i := 2) C dX5_bears_9 rfl rfl ?_
    refine z_iconst (v := iI 0) C dX5_bears_10 rfl ?_
    refine z_bipush (v := iI 20) C dX5_bears_11 (by decide) ?_
    refine z_callS (n := 3) (As := [.int (iI g0), .int (iI 0), .int (iI 20)]) (st := [.ref r]) (fr := [(r, .inr (5, [.ref e1, .int (iI (↑n)), .ref e2, .ref e3, .ref e4, .ref e5, .ref e6, .ref e7, .ref e8, .int (iI L), .int d, .ref e9, .ref e10, .ref e11, .ref e12, .ref e13, .int (iI sz), .int (iI mo), .ref e14, .int (iI (cM1 n i0))])), (e1, ar cI 8 ND), (e2, ai cI 8 AU), (e3, ai cI 8 LE), (e4, ai cI 8 SN), (e5, ar cI 8 US), (e6, ai cI 80 KK), (e7, ai cI 80 AT), (e8, ai cI 80 LF), (e9, ar cI 6 KN), (e10, ai cI 32 PL), (e11, ai cI 32 HE), (e12, ai cI 32 TU), (e13, ai cI 32 MA), (e14, ai cI 201 CU)]) C hE (k_rin l D cI cZ cM cL g0 0 20 hg0 ⟨by omega, by omega⟩ ⟨by omega, by omega⟩) gX5_bears_X5_in rfl ⟨rfl, rfl⟩ (by decide +kernel) ⟨Nat.le_of_ble_eq_true rfl, Nat.le_of_ble_eq_true rfl⟩ rfl rfl (List.Perm.refl _) (Nat.le_of_ble_eq_true rfl) ⟨Nat.le_of_ble_eq_true rfl, Nat.le_of_ble_eq_true rfl⟩ dX5_bears_13 (fun r w1 hpo => ?_)
    obtain ⟨rfl, rfl⟩ := hpo
    have hb8 := b2r (0 ≤ g0 ∧ g0 ≤ 20)
    refine (show zG E Q (0) (0) [(r, .inr (5, [.ref e1, .int (iI (↑n)), .ref e2, .ref e3, .ref e4, .ref e5, .ref e6, .ref e7, .ref e8, .int (iI L), .int d, .ref e9, .ref e10, .ref e11, .ref e12, .ref e13, .int (iI sz), .int (iI mo), .ref e14, .int (iI (cM1 n i0))])), (e1, ar cI 8 ND), (e2, ai cI 8 AU), (e3, ai cI 8 LE), (e4, ai cI 8 SN), (e5, ar cI 8 US), (e6, ai cI 80 KK), (e7, ai cI 80 AT), (e8, ai cI 80 LF), (e9, ar cI 6 KN), (e10, ai cI 32 PL), (e11, ai cI 32 HE), (e12, ai cI 32 TU), (e13, ai cI 32 MA), (e14, ai cI 201 CU)] [some (.ref r), some (.int (iI i0)), some (.int (iI g0)), none] 16 [.int (iI (b2 (0 ≤ g0 ∧ g0 ≤ 20))), .ref r] from ?_)
    refine z_if_eqI (tgt := 23) C dX5_bears_16 (by decide) ⟨by omega, by omega⟩ (fun h2 => ?_) (fun h2 => ?_)
    · refine z_iconst (v := iI 2) C dX5_bears_23 rfl ?_
      refine z_put (ci := 5) (ws' := [(r, .inr (5, [.ref e1, .int (iI (↑n)), .ref e2, .ref e3, .ref e4, .ref e5, .ref e6, .ref e7, .ref e8, .int (iI L), .int d, .ref e9, .ref e10, .ref e11, .ref e12, .ref e13, .int (iI sz), .int (iI mo), .ref e14, .int (iI 2)])), (e1, ar cI 8 ND), (e2, ai cI 8 AU), (e3, ai cI 8 LE), (e4, ai cI 8 SN), (e5, ar cI 8 US), (e6, ai cI 80 KK), (e7, ai cI 80 AT), (e8, ai cI 80 LF), (e9, ar cI 6 KN), (e10, ai cI 32 PL), (e11, ai cI 32 HE), (e12, ai cI 32 TU), (e13, ai cI 32 MA), (e14, ai cI 201 CU)]) C (hi_X5_bears_X5) tyX5_ok nmX5 0 rfl rfl 19 (by decide) (by decide +kernel) rfl (tyX5_ok 19 (by decide)) rfl rfl (Nat.le_of_ble_eq_true rfl) rfl dX5_bears_24 ?_
      refine z_aload_n (i := 0) C dX5_bears_27 rfl rfl ?_
      refine z_get (ci := 5) C (hi_X5_bears_X5) 0 rfl rfl 19 (by decide) (by decide +kernel) rfl dX5_bears_28 ?_
      refine z_if_leI (tgt := 36) C dX5_bears_31 (by decide) ⟨by omega, by omega⟩ (fun h => by exfalso; omega) (fun _ => ?_)
      refine z_iconst (v := iI 0) C dX5_bears_34 rfl ?_
      have hc : cBE n i0 g0 = 2 := by unfold cBE; rw [if_neg (fun q => q (b21 h1)), if_pos (b20 h2)]
      exact z_zret C hR (by decide) dX5_bears_35 (Nat.le_of_ble_eq_true rfl) (Nat.le_of_ble_eq_true rfl) (Or.inr ⟨by omega, rfl, sz, mo, PL, HE, TU, MA, CU, by rw [hc]⟩)
    · refine z_iconst (v := iI 0) C dX5_bears_19 rfl ?_
      refine z_goto (tgt := 24) C dX5_bears_20 (by decide) ?_
      refine z_put (ci := 5) (ws' := [(r, .inr (5, [.ref e1, .int (iI (↑n)), .ref e2, .ref e3, .ref e4, .ref e5, .ref e6, .ref e7, .ref e8, .int (iI L), .int d, .ref e9, .ref e10, .ref e11, .ref e12, .ref e13, .int (iI sz), .int (iI mo), .ref e14, .int (iI 0)])), (e1, ar cI 8 ND), (e2, ai cI 8 AU), (e3, ai cI 8 LE), (e4, ai cI 8 SN), (e5, ar cI 8 US), (e6, ai cI 80 KK), (e7, ai cI 80 AT), (e8, ai cI 80 LF), (e9, ar cI 6 KN), (e10, ai cI 32 PL), (e11, ai cI 32 HE), (e12, ai cI 32 TU), (e13, ai cI 32 MA), (e14, ai cI 201 CU)]) C (hi_X5_bears_X5) tyX5_ok nmX5 0 rfl rfl 19 (by decide) (by decide +kernel) rfl (tyX5_ok 19 (by decide)) rfl rfl (Nat.le_of_ble_eq_true rfl) rfl dX5_bears_24 ?_
      refine z_aload_n (i := 0) C dX5_bears_27 rfl rfl ?_
      refine z_get (ci := 5) C (hi_X5_bears_X5) 0 rfl rfl 19 (by decide) (by decide +kernel) rfl dX5_bears_28 ?_
      refine z_if_leI (tgt := 36) C dX5_bears_31 (by decide) ⟨by omega, by omega⟩ (fun _ => ?_) (fun h => by exfalso; omega)
      have hx9 := b21 h1
      have hy9 := b21 h2
      obtain ⟨hl9, hs9, ht9⟩ := hm i0 (by omega) (by omega)
      have hr9 := mst_r (len := LE i0) (P := row AT i0) (F := row LF i0) (by omega) (SN i0).toNat
      refine z_aload_n (i := 0) C dX5_bears_36 rfl rfl ?_
      refine z_iload_n (i := 1) C dX5_bears_37 rfl rfl ?_
      refine z_callV (n := 1) (As := [.int (iI i0)]) (st := []) (fr := []) C hE (k_rfolds l D cI cZ cM cL r e1 e2 e3 e4 e5 e6 e7 e8 e9 e10 e11 e12 e13 e14 n L d sz mo 0 ND US KN AU LE SN KK AT LF PL HE TU MA CU i0 ⟨by omega, by omega⟩ hl9 hs9 ht9) gX5_bears_X5_folds rfl ⟨rfl, rfl⟩ (by decide +kernel) ⟨Nat.le_of_ble_eq_true rfl, Nat.le_of_ble_eq_true rfl⟩ rfl rfl (by rw [List.append_nil]) 0 rfl rfl rfl (Nat.le_of_ble_eq_true rfl) ⟨Nat.le_of_ble_eq_true rfl, Nat.le_of_ble_eq_true rfl⟩ dX5_bears_38 (fun r w1 hpo => ?_)
      obtain ⟨rfl, P1, H1, T1, M1, rfl, hA9, hM9⟩ := hpo
      have hS9 := stV_gS ht9 (by omega) (SN i0).toNat (by omega)
      rw [List.append_nil]
      refine (show zG E Q (0) (0) [(r, .inr (5, [.ref e1, .int (iI (↑n)), .ref e2, .ref e3, .ref e4, .ref e5, .ref e6, .ref e7, .ref e8, .int (iI L), .int d, .ref e9, .ref e10, .ref e11, .ref e12, .ref e13, .int (iI (gS (LE i0) (row AT i0) (SN i0).toNat)), .int (iI (mst (LE i0) (row AT i0) (row LF i0) (SN i0).toNat)), .ref e14, .int (iI 0)])), (e1, ar cI 8 ND), (e2, ai cI 8 AU), (e3, ai cI 8 LE), (e4, ai cI 8 SN), (e5, ar cI 8 US), (e6, ai cI 80 KK), (e7, ai cI 80 AT), (e8, ai cI 80 LF), (e9, ar cI 6 KN), (e10, ai cI 32 P1), (e11, ai cI 32 H1), (e12, ai cI 32 T1), (e13, ai cI 32 M1), (e14, ai cI 201 CU)] [some (.ref r), some (.int (iI i0)), some (.int (iI g0)), none] 41 [] from ?_)
      refine z_bipush (v := iI 40) C dX5_bears_41 (by decide) ?_
      refine z_iconst (v := iI 2) C dX5_bears_43 rfl ?_
      refine z_iload_n (i := 2) C dX5_bears_44 rfl rfl ?_
      refine z_imulI (v := 2 * g0) C dX5_bears_45 (by rfl) ?_
      refine z_isubI (v := 40 - (2 * g0)) C dX5_bears_46 (by omega) ?_
      refine z_istore_n (i := 3) (lv' := [some (.ref r), some (.int (iI i0)), some (.int (iI g0)), some (.int (iI (40 - (2 * g0))))]) C dX5_bears_47 rfl rfl rfl ?_
      refine z_aload_n (i := 0) C dX5_bears_48 rfl rfl ?_
      refine z_get (ci := 5) C (hi_X5_bears_X5) 0 rfl rfl 17 (by decide) (by decide +kernel) rfl dX5_bears_49 ?_
      refine z_iload_n (i := 3) C dX5_bears_52 rfl rfl ?_
      refine z_iconst (v := iI 1) C dX5_bears_53 rfl ?_
      refine z_icmp_geI (tgt := 61) C dX5_bears_54 (by decide) ⟨by omega, by omega⟩ ⟨by omega, by omega⟩ (fun h3 => ?_) (fun h3 => ?_)
      · refine z_iload_n (i := 3) C dX5_bears_61 rfl rfl ?_
        refine z_icmp_gtI (tgt := 69) C dX5_bears_62 (by decide) ⟨by omega, by omega⟩ ⟨by omega, by omega⟩ (fun h4 => ?_) (fun h4 => ?_)
        · refine z_iconst (v := iI 0) C dX5_bears_69 rfl ?_
          have hc : cBE n i0 g0 = 0 := by unfold cBE; rw [if_neg (fun q => q (b21 h1)), if_neg (fun q => q (b21 h2))]
          exact z_zret C hR (by decide) dX5_bears_70 (Nat.le_of_ble_eq_true rfl) (Nat.le_of_ble_eq_true rfl) (Or.inl ⟨hc, by first | rw [b2t (P := mst (LE i0) (row AT i0) (row LF i0) (SN i0).toNat ≤ max 1 (40 - 2 * g0)) (by omega)] | rw [b2f (P := mst (LE i0) (row AT i0) (row LF i0) (SN i0).toNat ≤ max 1 (40 - 2 * g0)) (by omega)], gS (LE i0) (row AT i0) (SN i0).toNat, mst (LE i0) (row AT i0) (row LF i0) (SN i0).toNat, P1, H1, T1, M1, CU, rfl⟩)
        · refine z_iconst (v := iI 1) C dX5_bears_65 rfl ?_
          refine z_goto (tgt := 70) C dX5_bears_66 (by decide) ?_
          have hc : cBE n i0 g0 = 0 := by unfold cBE; rw [if_neg (fun q => q (b21 h1)), if_neg (fun q => q (b21 h2))]
          exact z_zret C hR (by decide) dX5_bears_70 (Nat.le_of_ble_eq_true rfl) (Nat.le_of_ble_eq_true rfl) (Or.inl ⟨hc, by first | rw [b2t (P := mst (LE i0) (row AT i0) (row LF i0) (SN i0).toNat ≤ max 1 (40 - 2 * g0)) (by omega)] | rw [b2f (P := mst (LE i0) (row AT i0) (row LF i0) (SN i0).toNat ≤ max 1 (40 - 2 * g0)) (by omega)], gS (LE i0) (row AT i0) (SN i0).toNat, mst (LE i0) (row AT i0) (row LF i0) (SN i0).toNat, P1, H1, T1, M1, CU, rfl⟩)
      · refine z_iconst (v := iI 1) C dX5_bears_57 rfl ?_
        refine z_goto (tgt := 62) C dX5_bears_58 (by decide) ?_
        refine z_icmp_gtI (tgt := 69) C dX5_bears_62 (by decide) ⟨by omega, by omega⟩ ⟨by omega, by omega⟩ (fun h4 => ?_) (fun h4 => ?_)
        · refine z_iconst (v := iI 0) C dX5_bears_69 rfl ?_
          have hc : cBE n i0 g0 = 0 := by unfold cBE; rw [if_neg (fun q => q (b21 h1)), if_neg (fun q => q (b21 h2))]
          exact z_zret C hR (by decide) dX5_bears_70 (Nat.le_of_ble_eq_true rfl) (Nat.le_of_ble_eq_true rfl) (Or.inl ⟨hc, by first | rw [b2t (P := mst (LE i0) (row AT i0) (row LF i0) (SN i0).toNat ≤ max 1 (40 - 2 * g0)) (by omega)] | rw [b2f (P := mst (LE i0) (row AT i0) (row LF i0) (SN i0).toNat ≤ max 1 (40 - 2 * g0)) (by omega)], gS (LE i0) (row AT i0) (SN i0).toNat, mst (LE i0) (row AT i0) (row LF i0) (SN i0).toNat, P1, H1, T1, M1, CU, rfl⟩)
        · refine z_iconst (v := iI 1) C dX5_bears_65 rfl ?_
          refine z_goto (tgt := 70) C dX5_bears_66 (by decide) ?_
          have hc : cBE n i0 g0 = 0 := by unfold cBE; rw [if_neg (fun q => q (b21 h1)), if_neg (fun q => q (b21 h2))]
          exact z_zret C hR (by decide) dX5_bears_70 (Nat.le_of_ble_eq_true rfl) (Nat.le_of_ble_eq_true rfl) (Or.inl ⟨hc, by first | rw [b2t (P := mst (LE i0) (row AT i0) (row LF i0) (SN i0).toNat ≤ max 1 (40 - 2 * g0)) (by omega)] | rw [b2f (P := mst (LE i0) (row AT i0) (row LF i0) (SN i0).toNat ≤ max 1 (40 - 2 * g0)) (by omega)], gS (LE i0) (row AT i0) (SN i0).toNat, mst (LE i0) (row AT i0) (row LF i0) (SN i0).toNat, P1, H1, T1, M1, CU, rfl⟩)
theorem hi_X5_mayFold_X5 : ∀ w ∈ wsX50, w ∈ wsX5_mayFold := by decide +kernel
set_option maxHeartbeats 1000000 in
set_option maxRecDepth 100000 in
theorem k_rmayFold (l : Launch) (D : va_G) (cI cZ cM cL : ClassId) (r e1 e2 e3 e4 e5 e6 e7 e8 e9 e10 e11 e12 e13 e14 : Nat) (n : Nat) (L : Int) (d : Int32) (sz mo th : Int) (ND US KN : Int → Int32) (AU LE SN KK AT LF PL HE TU MA CU : Int → Int) (hg : rO n L US LE SN AT LF) (p0 i0 : Int) (hp0 : iR p0) (hi0 : iR i0) : zN l yX5_mayFold wsX5_mayFold { frames := 2, cells := 0, slots := 0, locals := 47 } D (zTy cI cZ cM cL) [.ref r, .int (iI p0), .int (iI i0)] (rfW cI r e1 e2 e3 e4 e5 e6 e7 e8 e9 e10 e11 e12 e13 e14 n L d sz mo th ND US KN AU LE SN KK AT LF PL HE TU MA CU) (fun r9 w => ((cEX n p0 i0) = 0 ∧ r9 = some (.int (iI (b2 (¬ lk (KN p0) (kcB (fun k : Nat => rv AU LE SN KK AT LF k) (mcB US i0) n))))) ∧ (rQ cI r e1 e2 e3 e4 e5 e6 e7 e8 e9 e10 e11 e12 e13 e14 n L d 0 ND US KN AU LE SN KK AT LF w)) ∨ (¬ (cEX n p0 i0) = 0 ∧ r9 = some (.int (iI 0)) ∧ (rQ cI r e1 e2 e3 e4 e5 e6 e7 e8 e9 e10 e11 e12 e13 e14 n L d (cEX n p0 i0) ND US KN AU LE SN KK AT LF w))) 0 0 := by
  refine zN_of (cc := cX5_mayFold) (maxL := 3) (lv0 := [some (.ref r), some (.int (iI p0)), some (.int (iI i0))]) (by decide) rfl rfl (Nat.le_of_ble_eq_true rfl) rfl ?_
  intro E Q C hE hR hI0
  obtain ⟨hn, hz, hL, hm⟩ := hg
  refine (show zG E Q 0 0 [(r, .inr (5, [.ref e1, .int (iI (↑n)), .ref e2, .ref e3, .ref e4, .ref e5, .ref e6, .ref e7, .ref e8, .int (iI L), .int d, .ref e9, .ref e10, .ref e11, .ref e12, .ref e13, .int (iI sz), .int (iI mo), .ref e14, .int (iI th)])), (e1, ar cI 8 ND), (e2, ai cI 8 AU), (e3, ai cI 8 LE), (e4, ai cI 8 SN), (e5, ar cI 8 US), (e6, ai cI 80 KK), (e7, ai cI 80 AT), (e8, ai cI 80 LF), (e9, ar cI 6 KN), (e10, ai cI 32 PL), (e11, ai cI 32 HE), (e12, ai cI 32 TU), (e13, ai cI 32 MA), (e14, ai cI 201 CU)] [some (.ref r), some (.int (iI p0)), some (.int (iI i0))] 0 [] from ?_)
  refine z_aload_n (i := 0) C dX5_mayFold_0 rfl rfl ?_
  refine z_iload_n (i := 1) C dX5_mayFold_1 rfl rfl ?_
  refine z_iload_n (i := 2) C dX5_mayFold_2 rfl rfl ?_
  refine z_callV (n := 2) (As := [.int (iI p0), .int (iI i0)]) (st := []) (fr := []) C hE (k_risExam l D cI cZ cM cL r e1 e2 e3 e4 e5 e6 e7 e8 e9 e10 e11 e12 e13 e14 n L d sz mo th ND US KN AU LE SN KK AT LF PL HE TU MA CU p0 i0 hp0 hi0 hn) gX5_mayFold_X5_isExam rfl ⟨rfl, rfl⟩ (by decide +kernel) ⟨Nat.le_of_ble_eq_true rfl, Nat.le_of_ble_eq_true rfl⟩ rfl rfl (by rw [List.append_nil]) 0 rfl rfl rfl (Nat.le_of_ble_eq_true rfl) ⟨Nat.le_of_ble_eq_true rfl, Nat.le_of_ble_eq_true rfl⟩ dX5_mayFold_3 (fun r w1 hpo => ?_)
  obtain ⟨rfl, rfl⟩ := hpo
  have hb9 := b2r ((0 ≤ p0 ∧ p0 < 6) ∧ 0 ≤ i0 ∧ i0 < ↑n)
  rw [List.append_nil]
  refine (show zG E Q (0) (0) [(r, .inr (5, [.ref e1, .int (iI (↑n)), .ref e2, .ref e3, .ref e4, .ref e5, .ref e6, .ref e7, .ref e8, .int (iI L), .int d, .ref e9, .ref e10, .ref e11, .ref e12, .ref e13, .int (iI sz), .int (iI mo), .ref e14, .int (iI (cEX n p0 i0))])), (e1, ar cI 8 ND), (e2, ai cI 8 AU), (e3, ai cI 8 LE), (e4, ai cI 8 SN), (e5, ar cI 8 US), (e6, ai cI 80 KK), (e7, ai cI 80 AT), (e8, ai cI 80 LF), (e9, ar cI 6 KN), (e10, ai cI 32 PL), (e11, ai cI 32 HE), (e12, ai cI 32 TU), (e13, ai cI 32 MA), (e14, ai cI 201 CU)] [some (.ref r), some (.int (iI p0)), some (.int (iI i0))] 6 [.int (iI (b2 ((0 ≤ p0 ∧ p0 < 6) ∧ 0 ≤ i0 ∧ i0 < ↑n)))] from ?_)
  refine z_if_eqI (tgt := 30) C dX5_mayFold_6 (by decide) ⟨by omega, by omega⟩ (fun h1 => ?_) (fun h1 => ?_)
  · refine z_iconst (v := iI 0) C dX5_mayFold_30 rfl ?_
    have hc : cEX n p0 i0 = 1 := by unfold cEX; rw [if_pos (by have := b20 h1; omega)]
    exact z_zret C hR (by decide) dX5_mayFold_31 (Nat.le_of_ble_eq_true rfl) (Nat.le_of_ble_eq_true rfl) (Or.inr ⟨by omega, rfl, sz, mo, PL, HE, TU, MA, CU, rfl⟩)
  · have hx9 := b21 h1
    refine z_aload_n (i := 0) C dX5_mayFold_9 rfl rfl ?_
    refine z_iload_n (i := 2) C dX5_mayFold_10 rfl rfl ?_
    refine z_callV (n := 1) (As := [.int (iI i0)]) (st := []) (fr := []) C hE (k_rkindsFor l D cI cZ cM cL r e1 e2 e3 e4 e5 e6 e7 e8 e9 e10 e11 e12 e13 e14 n L d sz mo (cEX n p0 i0) ND US KN AU LE SN KK AT LF PL HE TU MA CU i0 hn hz (fun i a b => (hm i a b).2.1)) gX5_mayFold_X5_kindsFor rfl ⟨rfl, rfl⟩ (by decide +kernel) ⟨Nat.le_of_ble_eq_true rfl, Nat.le_of_ble_eq_true rfl⟩ rfl rfl (by rw [List.append_nil]) 0 rfl rfl rfl (Nat.le_of_ble_eq_true rfl) ⟨Nat.le_of_ble_eq_true rfl, Nat.le_of_ble_eq_true rfl⟩ dX5_mayFold_11 (fun r w1 hpo => ?_)
    obtain ⟨rfl, rfl⟩ := hpo
    rw [List.append_nil]
    refine (show zG E Q (0) (0) [(r, .inr (5, [.ref e1, .int (iI (↑n)), .ref e2, .ref e3, .ref e4, .ref e5, .ref e6, .ref e7, .ref e8, .int (iI L), .int d, .ref e9, .ref e10, .ref e11, .ref e12, .ref e13, .int (iI sz), .int (iI mo), .ref e14, .int (iI (cEX n p0 i0))])), (e1, ar cI 8 ND), (e2, ai cI 8 AU), (e3, ai cI 8 LE), (e4, ai cI 8 SN), (e5, ar cI 8 US), (e6, ai cI 80 KK), (e7, ai cI 80 AT), (e8, ai cI 80 LF), (e9, ar cI 6 KN), (e10, ai cI 32 PL), (e11, ai cI 32 HE), (e12, ai cI 32 TU), (e13, ai cI 32 MA), (e14, ai cI 201 CU)] [some (.ref r), some (.int (iI p0)), some (.int (iI i0))] 14 [.int (kcB (fun k : Nat => rv AU LE SN KK AT LF k) (mcB US i0) n)] from ?_)
    refine z_aload_n (i := 0) C dX5_mayFold_14 rfl rfl ?_
    refine z_get (ci := 5) C (hi_X5_mayFold_X5) 0 rfl rfl 11 (by decide) (by decide +kernel) rfl dX5_mayFold_15 ?_
    refine z_iload_n (i := 1) C dX5_mayFold_18 rfl rfl ?_
    refine z_iaload C 9 rfl (zT_of hE (t0 := 0) rfl) (by omega) (by omega) (by decide) dX5_mayFold_19 ?_
    refine z_iconst (v := iI (-1)) C dX5_mayFold_20 rfl ?_
    refine z_ixor C dX5_mayFold_21 ?_
    refine z_iand C dX5_mayFold_22 ?_
    refine z_if_ne (tgt := 30) C dX5_mayFold_23 (by decide) (fun hv => ?_) (fun hv => ?_)
    · refine z_iconst (v := iI 0) C dX5_mayFold_30 rfl ?_
      have hc : cEX n p0 i0 = 0 := by unfold cEX; rw [if_neg (by have := b21 h1; omega)]
      exact z_zret C hR (by decide) dX5_mayFold_31 (Nat.le_of_ble_eq_true rfl) (Nat.le_of_ble_eq_true rfl) (Or.inl ⟨hc, by first | rw [b2t (P := ¬ lk (KN p0) (kcB (fun k : Nat => rv AU LE SN KK AT LF k) (mcB US i0) n)) (fun q => q hv)] | rw [b2f (P := ¬ lk (KN p0) (kcB (fun k : Nat => rv AU LE SN KK AT LF k) (mcB US i0) n)) (fun q => q hv)], sz, mo, PL, HE, TU, MA, CU, by rw [hc]⟩)
    · refine z_iconst (v := iI 1) C dX5_mayFold_26 rfl ?_
      refine z_goto (tgt := 31) C dX5_mayFold_27 (by decide) ?_
      have hc : cEX n p0 i0 = 0 := by unfold cEX; rw [if_neg (by have := b21 h1; omega)]
      exact z_zret C hR (by decide) dX5_mayFold_31 (Nat.le_of_ble_eq_true rfl) (Nat.le_of_ble_eq_true rfl) (Or.inl ⟨hc, by first | rw [b2t (P := ¬ lk (KN p0) (kcB (fun k : Nat => rv AU LE SN KK AT LF k) (mcB US i0) n)) (fun q => q hv)] | rw [b2f (P := ¬ lk (KN p0) (kcB (fun k : Nat => rv AU LE SN KK AT LF k) (mcB US i0) n)) (fun q => q hv)], sz, mo, PL, HE, TU, MA, CU, by rw [hc]⟩)
theorem hi_X5_lessons_X5 : ∀ w ∈ wsX50, w ∈ wsX5_lessons := by decide +kernel
set_option maxHeartbeats 1000000 in
set_option maxRecDepth 100000 in
theorem k_rlessons (l : Launch) (D : va_G) (cI cZ cM cL : ClassId) (r e1 e2 e3 e4 e5 e6 e7 e8 e9 e10 e11 e12 e13 e14 : Nat) (n : Nat) (L : Int) (d : Int32) (sz mo th : Int) (ND US KN : Int → Int32) (AU LE SN KK AT LF PL HE TU MA CU : Int → Int) (hg : rO n L US LE SN AT LF) (p0 i0 : Int) (hp0 : iR p0) (hi0 : iR i0) : zN l yX5_lessons wsX5_lessons { frames := 2, cells := 0, slots := 0, locals := 47 } D (zTy cI cZ cM cL) [.ref r, .int (iI p0), .int (iI i0)] (rfW cI r e1 e2 e3 e4 e5 e6 e7 e8 e9 e10 e11 e12 e13 e14 n L d sz mo th ND US KN AU LE SN KK AT LF PL HE TU MA CU) (fun r9 w => ((cEX n p0 i0) = 0 ∧ r9 = some (.int (bts (rch (fun k => ND k &&& (KN p0 ^^^ iI (-1))) (iI (-1)) 8 (kcB (fun k : Nat => rv AU LE SN KK AT LF k) (mcB US i0) n &&& (KN p0 ^^^ iI (-1)))) 8)) ∧ (rQ cI r e1 e2 e3 e4 e5 e6 e7 e8 e9 e10 e11 e12 e13 e14 n L d 0 ND US KN AU LE SN KK AT LF w)) ∨ (¬ (cEX n p0 i0) = 0 ∧ r9 = some (.int (iI 0)) ∧ (rQ cI r e1 e2 e3 e4 e5 e6 e7 e8 e9 e10 e11 e12 e13 e14 n L d (cEX n p0 i0) ND US KN AU LE SN KK AT LF w))) 0 0 := by
  refine zN_of (cc := cX5_lessons) (maxL := 6) (lv0 := [some (.ref r), some (.int (iI p0)), some (.int (iI i0)), none, none, none]) (by decide) rfl rfl (Nat.le_of_ble_eq_true rfl) rfl ?_
  intro E Q C hE hR hI0
  obtain ⟨hn, hz, hL, hm⟩ := hg
  refine (show zG E Q 0 0 [(r, .inr (5, [.ref e1, .int (iI (↑n)), .ref e2, .ref e3, .ref e4, .ref e5, .ref e6, .ref e7, .ref e8, .int (iI L), .int d, .ref e9, .ref e10, .ref e11, .ref e12, .ref e13, .int (iI sz), .int (iI mo), .ref e14, .int (iI th)])), (e1, ar cI 8 ND), (e2, ai cI 8 AU), (e3, ai cI 8 LE), (e4, ai cI 8 SN), (e5, ar cI 8 US), (e6, ai cI 80 KK), (e7, ai cI 80 AT), (e8, ai cI 80 LF), (e9, ar cI 6 KN), (e10, ai cI 32 PL), (e11, ai cI 32 HE), (e12, ai cI 32 TU), (e13, ai cI 32 MA), (e14, ai cI 201 CU)] [some (.ref r), some (.int (iI p0)), some (.int (iI i0)), none, none, none] 0 [] from ?_)
  have LQ : ((0 ≤ p0 ∧ p0 < 6) ∧ 0 ≤ i0 ∧ i0 < ↑n) → ∀ (z i : Nat), i ≤ 8 → 8 - i < z → zG E Q 0 0 [(r, .inr (5, [.ref e1, .int (iI (↑n)), .ref e2, .ref e3, .ref e4, .ref e5, .ref e6, .ref e7, .ref e8, .int (iI L), .int d, .ref e9, .ref e10, .ref e11, .ref e12, .ref e13, .int (iI sz), .int (iI mo), .ref e14, .int (iI (cEX n p0 i0))])), (e1, ar cI 8 ND), (e2, ai cI 8 AU), (e3, ai cI 8 LE), (e4, ai cI 8 SN), (e5, ar cI 8 US), (e6, ai cI 80 KK), (e7, ai cI 80 AT), (e8, ai cI 80 LF), (e9, ar cI 6 KN), (e10, ai cI 32 PL), (e11, ai cI 32 HE), (e12, ai cI 32 TU), (e13, ai cI 32 MA), (e14, ai cI 201 CU)] [some (.ref r), some (.int (iI p0)), some (.int (iI i0)), some (.int (rch (fun k => ND k &&& (KN p0 ^^^ iI (-1))) (iI (-1)) i (kcB (fun k : Nat => rv AU LE SN KK AT LF k) (mcB US i0) n &&& (KN p0 ^^^ iI (-1))))), some (.int (iI ↑i)), none] 29 [] := by
    intro hx9
    have lp : ∀ (z i : Nat), i ≤ 8 → 8 - i < z → zG E Q 0 0 [(r, .inr (5, [.ref e1, .int (iI (↑n)), .ref e2, .ref e3, .ref e4, .ref e5, .ref e6, .ref e7, .ref e8, .int (iI L), .int d, .ref e9, .ref e10, .ref e11, .ref e12, .ref e13, .int (iI sz), .int (iI mo), .ref e14, .int (iI (cEX n p0 i0))])), (e1, ar cI 8 ND), (e2, ai cI 8 AU), (e3, ai cI 8 LE), (e4, ai cI 8 SN), (e5, ar cI 8 US), (e6, ai cI 80 KK), (e7, ai cI 80 AT), (e8, ai cI 80 LF), (e9, ar cI 6 KN), (e10, ai cI 32 PL), (e11, ai cI 32 HE), (e12, ai cI 32 TU), (e13, ai cI 32 MA), (e14, ai cI 201 CU)] [some (.ref r), some (.int (iI p0)), some (.int (iI i0)), some (.int (rch (fun k => ND k &&& (KN p0 ^^^ iI (-1))) (iI (-1)) i (kcB (fun k : Nat => rv AU LE SN KK AT LF k) (mcB US i0) n &&& (KN p0 ^^^ iI (-1))))), some (.int (iI ↑i)), none] 29 [] := by
      intro z
      induction z with
      | zero => intro i hi hin; omega
      | succ z ih =>
        intro i hi hin
        have l48 : i < 8 → zG E Q 0 0 [(r, .inr (5, [.ref e1, .int (iI (↑n)), .ref e2, .ref e3, .ref e4, .ref e5, .ref e6, .ref e7, .ref e8, .int (iI L), .int d, .ref e9, .ref e10, .ref e11, .ref e12, .ref e13, .int (iI sz), .int (iI mo), .ref e14, .int (iI (cEX n p0 i0))])), (e1, ar cI 8 ND), (e2, ai cI 8 AU), (e3, ai cI 8 LE), (e4, ai cI 8 SN), (e5, ar cI 8 US), (e6, ai cI 80 KK), (e7, ai cI 80 AT), (e8, ai cI 80 LF), (e9, ar cI 6 KN), (e10, ai cI 32 PL), (e11, ai cI 32 HE), (e12, ai cI 32 TU), (e13, ai cI 32 MA), (e14, ai cI 201 CU)] [some (.ref r), some (.int (iI p0)), some (.int (iI i0)), some (.int (rcr (fun k => ND k &&& (KN p0 ^^^ iI (-1))) (iI (-1)) 8 (rch (fun k => ND k &&& (KN p0 ^^^ iI (-1))) (iI (-1)) i (kcB (fun k : Nat => rv AU LE SN KK AT LF k) (mcB US i0) n &&& (KN p0 ^^^ iI (-1)))))), some (.int (iI ↑i)), some (.int (iI ↑(8 : Nat)))] 85 [] := by
          intro hi8
          refine z_iincI (v := ↑(i + 1)) (lv' := [some (.ref r), some (.int (iI p0)), some (.int (iI i0)), some (.int (rcr (fun k => ND k &&& (KN p0 ^^^ iI (-1))) (iI (-1)) 8 (rch (fun k => ND k &&& (KN p0 ^^^ iI (-1))) (iI (-1)) i (kcB (fun k : Nat => rv AU LE SN KK AT LF k) (mcB US i0) n &&& (KN p0 ^^^ iI (-1)))))), some (.int (iI (↑(i + 1)))), some (.int (iI ↑(8 : Nat)))]) C dX5_lessons_85 rfl (by omega) rfl ?_
          refine z_goto (tgt := 29) C dX5_lessons_88 (by decide) ?_
          refine z_le (r := [some (.ref r), some (.int (iI p0)), some (.int (iI i0)), some (.int (rch (fun k => ND k &&& (KN p0 ^^^ iI (-1))) (iI (-1)) (i + 1) (kcB (fun k : Nat => rv AU LE SN KK AT LF k) (mcB US i0) n &&& (KN p0 ^^^ iI (-1))))), some (.int (iI ↑(i + 1))), none]) (by refine ⟨Or.inr rfl, Or.inr rfl, Or.inr rfl, Or.inr rfl, Or.inr rfl, Or.inl rfl, trivial⟩) ?_
          exact ih (i + 1) (by omega) (by omega)
        have lq : i < 8 → ∀ (k j : Nat), j ≤ 8 → 8 - j < k → zG E Q 0 0 [(r, .inr (5, [.ref e1, .int (iI (↑n)), .ref e2, .ref e3, .ref e4, .ref e5, .ref e6, .ref e7, .ref e8, .int (iI L), .int d, .ref e9, .ref e10, .ref e11, .ref e12, .ref e13, .int (iI sz), .int (iI mo), .ref e14, .int (iI (cEX n p0 i0))])), (e1, ar cI 8 ND), (e2, ai cI 8 AU), (e3, ai cI 8 LE), (e4, ai cI 8 SN), (e5, ar cI 8 US), (e6, ai cI 80 KK), (e7, ai cI 80 AT), (e8, ai cI 80 LF), (e9, ar cI 6 KN), (e10, ai cI 32 PL), (e11, ai cI 32 HE), (e12, ai cI 32 TU), (e13, ai cI 32 MA), (e14, ai cI 201 CU)] [some (.ref r), some (.int (iI p0)), some (.int (iI i0)), some (.int (rcr (fun k => ND k &&& (KN p0 ^^^ iI (-1))) (iI (-1)) j (rch (fun k => ND k &&& (KN p0 ^^^ iI (-1))) (iI (-1)) i (kcB (fun k : Nat => rv AU LE SN KK AT LF k) (mcB US i0) n &&& (KN p0 ^^^ iI (-1)))))), some (.int (iI ↑i)), some (.int (iI ↑j))] 39 [] := by
          intro hi8 k
          induction k with
          | zero => intro j hj hjn; omega
          | succ k ih2 =>
            intro j hj hjn
            refine z_iload C dX5_lessons_39 rfl ?_
            refine z_bipush (v := iI 8) C dX5_lessons_41 (by decide) ?_
            refine z_icmp_geI (tgt := 85) C dX5_lessons_43 (by decide) ⟨by omega, by omega⟩ ⟨by omega, by omega⟩ (fun hk2 => ?_) (fun hk2 => ?_)
            · have e2 : j = 8 := by omega
              subst e2
              exact l48 hi8
            · refine z_iload_n (i := 3) C dX5_lessons_46 rfl rfl ?_
              refine z_iload_n (i := 3) C dX5_lessons_47 rfl rfl ?_
              refine z_iload C dX5_lessons_48 rfl ?_
              refine z_ishr C dX5_lessons_50 ?_
              refine z_iconst (v := iI 1) C dX5_lessons_51 rfl ?_
              refine z_iand C dX5_lessons_52 ?_
              refine z_iconst (v := iI 1) C dX5_lessons_53 rfl ?_
              refine z_icmp_ne (tgt := 76) C dX5_lessons_54 (by decide) (fun hv => ?_) (fun hv => ?_)
              · refine z_iconst (v := iI 0) C dX5_lessons_76 rfl ?_
                refine z_ior C dX5_lessons_77 ?_
                refine z_istore_n (i := 3) (lv' := [some (.ref r), some (.int (iI p0)), some (.int (iI i0)), some (.int ((rcr (fun k => ND k &&& (KN p0 ^^^ iI (-1))) (iI (-1)) j (rch (fun k => ND k &&& (KN p0 ^^^ iI (-1))) (iI (-1)) i (kcB (fun k : Nat => rv AU LE SN KK AT LF k) (mcB US i0) n &&& (KN p0 ^^^ iI (-1))))) ||| (iI 0))), some (.int (iI ↑i)), some (.int (iI ↑j))]) C dX5_lessons_78 rfl rfl rfl ?_
                refine z_iincI (v := ↑(j + 1)) (lv' := [some (.ref r), some (.int (iI p0)), some (.int (iI i0)), some (.int ((rcr (fun k => ND k &&& (KN p0 ^^^ iI (-1))) (iI (-1)) j (rch (fun k => ND k &&& (KN p0 ^^^ iI (-1))) (iI (-1)) i (kcB (fun k : Nat => rv AU LE SN KK AT LF k) (mcB US i0) n &&& (KN p0 ^^^ iI (-1))))) ||| (iI 0))), some (.int (iI ↑i)), some (.int (iI (↑(j + 1))))]) C dX5_lessons_79 rfl (by omega) rfl ?_
                refine z_goto (tgt := 39) C dX5_lessons_82 (by decide) ?_
                have e1 : ((rcr (fun k => ND k &&& (KN p0 ^^^ iI (-1))) (iI (-1)) j (rch (fun k => ND k &&& (KN p0 ^^^ iI (-1))) (iI (-1)) i (kcB (fun k : Nat => rv AU LE SN KK AT LF k) (mcB US i0) n &&& (KN p0 ^^^ iI (-1))))) ||| (iI 0)) = rcr (fun k => ND k &&& (KN p0 ^^^ iI (-1))) (iI (-1)) (j + 1) (rch (fun k => ND k &&& (KN p0 ^^^ iI (-1))) (iI (-1)) i (kcB (fun k : Nat => rv AU LE SN KK AT LF k) (mcB US i0) n &&& (KN p0 ^^^ iI (-1)))) := by
                  first
                    | exact rcrT1 (f := (fun k => ND k &&& (KN p0 ^^^ iI (-1)))) (hb1.mp hv)
                    | exact rcrF1 (mt hb1.mpr hv)
                rw [e1]
                exact ih2 (j + 1) (by omega) (by omega)
              · refine z_aload_n (i := 0) C dX5_lessons_57 rfl rfl ?_
                refine z_get (ci := 5) C (hi_X5_lessons_X5) 0 rfl rfl 0 (by decide) (by decide +kernel) rfl dX5_lessons_58 ?_
                refine z_iload C dX5_lessons_61 rfl ?_
                refine z_iaload C 1 rfl (zT_of hE (t0 := 0) rfl) (by omega) (by omega) (by decide) dX5_lessons_63 ?_
                refine z_aload_n (i := 0) C dX5_lessons_64 rfl rfl ?_
                refine z_get (ci := 5) C (hi_X5_lessons_X5) 0 rfl rfl 11 (by decide) (by decide +kernel) rfl dX5_lessons_65 ?_
                refine z_iload_n (i := 1) C dX5_lessons_68 rfl rfl ?_
                refine z_iaload C 9 rfl (zT_of hE (t0 := 0) rfl) (by omega) (by omega) (by decide) dX5_lessons_69 ?_
                refine z_iconst (v := iI (-1)) C dX5_lessons_70 rfl ?_
                refine z_ixor C dX5_lessons_71 ?_
                refine z_iand C dX5_lessons_72 ?_
                refine z_goto (tgt := 77) C dX5_lessons_73 (by decide) ?_
                refine z_ior C dX5_lessons_77 ?_
                refine z_istore_n (i := 3) (lv' := [some (.ref r), some (.int (iI p0)), some (.int (iI i0)), some (.int ((rcr (fun k => ND k &&& (KN p0 ^^^ iI (-1))) (iI (-1)) j (rch (fun k => ND k &&& (KN p0 ^^^ iI (-1))) (iI (-1)) i (kcB (fun k : Nat => rv AU LE SN KK AT LF k) (mcB US i0) n &&& (KN p0 ^^^ iI (-1))))) ||| ((ND (↑j)) &&& ((KN p0) ^^^ (iI (-1)))))), some (.int (iI ↑i)), some (.int (iI ↑j))]) C dX5_lessons_78 rfl rfl rfl ?_
                refine z_iincI (v := ↑(j + 1)) (lv' := [some (.ref r), some (.int (iI p0)), some (.int (iI i0)), some (.int ((rcr (fun k => ND k &&& (KN p0 ^^^ iI (-1))) (iI (-1)) j (rch (fun k => ND k &&& (KN p0 ^^^ iI (-1))) (iI (-1)) i (kcB (fun k : Nat => rv AU LE SN KK AT LF k) (mcB US i0) n &&& (KN p0 ^^^ iI (-1))))) ||| ((ND (↑j)) &&& ((KN p0) ^^^ (iI (-1)))))), some (.int (iI ↑i)), some (.int (iI (↑(j + 1))))]) C dX5_lessons_79 rfl (by omega) rfl ?_
                refine z_goto (tgt := 39) C dX5_lessons_82 (by decide) ?_
                have e1 : ((rcr (fun k => ND k &&& (KN p0 ^^^ iI (-1))) (iI (-1)) j (rch (fun k => ND k &&& (KN p0 ^^^ iI (-1))) (iI (-1)) i (kcB (fun k : Nat => rv AU LE SN KK AT LF k) (mcB US i0) n &&& (KN p0 ^^^ iI (-1))))) ||| ((ND (↑j)) &&& ((KN p0) ^^^ (iI (-1))))) = rcr (fun k => ND k &&& (KN p0 ^^^ iI (-1))) (iI (-1)) (j + 1) (rch (fun k => ND k &&& (KN p0 ^^^ iI (-1))) (iI (-1)) i (kcB (fun k : Nat => rv AU LE SN KK AT LF k) (mcB US i0) n &&& (KN p0 ^^^ iI (-1)))) := by
                  first
                    | exact rcrT1 (f := (fun k => ND k &&& (KN p0 ^^^ iI (-1)))) (hb1.mp hv)
                    | exact rcrF1 (mt hb1.mpr hv)
                rw [e1]
                exact ih2 (j + 1) (by omega) (by omega)
        refine z_iload C dX5_lessons_29 rfl ?_
        refine z_bipush (v := iI 8) C dX5_lessons_31 (by decide) ?_
        refine z_icmp_geI (tgt := 91) C dX5_lessons_33 (by decide) ⟨by omega, by omega⟩ ⟨by omega, by omega⟩ (fun hk => ?_) (fun hk => ?_)
        · refine z_iload_n (i := 3) C dX5_lessons_91 rfl rfl ?_
          refine z_callS (n := 1) (As := [.int (rch (fun k => ND k &&& (KN p0 ^^^ iI (-1))) (iI (-1)) i (kcB (fun k : Nat => rv AU LE SN KK AT LF k) (mcB US i0) n &&& (KN p0 ^^^ iI (-1))))]) (st := []) (fr := [(r, .inr (5, [.ref e1, .int (iI (↑n)), .ref e2, .ref e3, .ref e4, .ref e5, .ref e6, .ref e7, .ref e8, .int (iI L), .int d, .ref e9, .ref e10, .ref e11, .ref e12, .ref e13, .int (iI sz), .int (iI mo), .ref e14, .int (iI (cEX n p0 i0))])), (e1, ar cI 8 ND), (e2, ai cI 8 AU), (e3, ai cI 8 LE), (e4, ai cI 8 SN), (e5, ar cI 8 US), (e6, ai cI 80 KK), (e7, ai cI 80 AT), (e8, ai cI 80 LF), (e9, ar cI 6 KN), (e10, ai cI 32 PL), (e11, ai cI 32 HE), (e12, ai cI 32 TU), (e13, ai cI 32 MA), (e14, ai cI 201 CU)]) C hE (k_rbits l D cI cZ cM cL (rch (fun k => ND k &&& (KN p0 ^^^ iI (-1))) (iI (-1)) i (kcB (fun k : Nat => rv AU LE SN KK AT LF k) (mcB US i0) n &&& (KN p0 ^^^ iI (-1))))) gX5_lessons_X5_bits rfl ⟨rfl, rfl⟩ (by decide +kernel) ⟨Nat.le_of_ble_eq_true rfl, Nat.le_of_ble_eq_true rfl⟩ rfl rfl (List.Perm.refl _) (Nat.le_of_ble_eq_true rfl) ⟨Nat.le_of_ble_eq_true rfl, Nat.le_of_ble_eq_true rfl⟩ dX5_lessons_92 (fun r w1 hpo => ?_)
          obtain ⟨rfl, rfl⟩ := hpo
          refine (show zG E Q (0) (0) [(r, .inr (5, [.ref e1, .int (iI (↑n)), .ref e2, .ref e3, .ref e4, .ref e5, .ref e6, .ref e7, .ref e8, .int (iI L), .int d, .ref e9, .ref e10, .ref e11, .ref e12, .ref e13, .int (iI sz), .int (iI mo), .ref e14, .int (iI (cEX n p0 i0))])), (e1, ar cI 8 ND), (e2, ai cI 8 AU), (e3, ai cI 8 LE), (e4, ai cI 8 SN), (e5, ar cI 8 US), (e6, ai cI 80 KK), (e7, ai cI 80 AT), (e8, ai cI 80 LF), (e9, ar cI 6 KN), (e10, ai cI 32 PL), (e11, ai cI 32 HE), (e12, ai cI 32 TU), (e13, ai cI 32 MA), (e14, ai cI 201 CU)] [some (.ref r), some (.int (iI p0)), some (.int (iI i0)), some (.int (rch (fun k => ND k &&& (KN p0 ^^^ iI (-1))) (iI (-1)) i (kcB (fun k : Nat => rv AU LE SN KK AT LF k) (mcB US i0) n &&& (KN p0 ^^^ iI (-1))))), some (.int (iI ↑i)), none] 95 [.int (bts (rch (fun k => ND k &&& (KN p0 ^^^ iI (-1))) (iI (-1)) i (kcB (fun k : Nat => rv AU LE SN KK AT LF k) (mcB US i0) n &&& (KN p0 ^^^ iI (-1)))) 8)] from ?_)
          have hc : cEX n p0 i0 = 0 := by unfold cEX; rw [if_neg (by omega)]
          exact z_iret C hR dX5_lessons_95 (Nat.le_of_ble_eq_true rfl) (Nat.le_of_ble_eq_true rfl) (Or.inl ⟨hc, by rw [show i = 8 by omega], sz, mo, PL, HE, TU, MA, CU, by rw [hc]⟩)
        · refine z_iconst (v := iI 0) C dX5_lessons_36 rfl ?_
          refine z_istore (lv' := [some (.ref r), some (.int (iI p0)), some (.int (iI i0)), some (.int (rch (fun k => ND k &&& (KN p0 ^^^ iI (-1))) (iI (-1)) i (kcB (fun k : Nat => rv AU LE SN KK AT LF k) (mcB US i0) n &&& (KN p0 ^^^ iI (-1))))), some (.int (iI ↑i)), some (.int (iI 0))]) C dX5_lessons_37 rfl rfl ?_
          exact lq (by omega) (8 + 1) 0 (by omega) (by omega)
    exact lp
  refine z_aload_n (i := 0) C dX5_lessons_0 rfl rfl ?_
  refine z_iload_n (i := 1) C dX5_lessons_1 rfl rfl ?_
  refine z_iload_n (i := 2) C dX5_lessons_2 rfl rfl ?_
  refine z_callV (n := 2) (As := [.int (iI p0), .int (iI i0)]) (st := []) (fr := []) C hE (k_risExam l D cI cZ cM cL r e1 e2 e3 e4 e5 e6 e7 e8 e9 e10 e11 e12 e13 e14 n L d sz mo th ND US KN AU LE SN KK AT LF PL HE TU MA CU p0 i0 hp0 hi0 hn) gX5_lessons_X5_isExam rfl ⟨rfl, rfl⟩ (by decide +kernel) ⟨Nat.le_of_ble_eq_true rfl, Nat.le_of_ble_eq_true rfl⟩ rfl rfl (by rw [List.append_nil]) 0 rfl rfl rfl (Nat.le_of_ble_eq_true rfl) ⟨Nat.le_of_ble_eq_true rfl, Nat.le_of_ble_eq_true rfl⟩ dX5_lessons_3 (fun r w1 hpo => ?_)
  obtain ⟨rfl, rfl⟩ := hpo
  have hb9 := b2r ((0 ≤ p0 ∧ p0 < 6) ∧ 0 ≤ i0 ∧ i0 < ↑n)
  rw [List.append_nil]
  refine (show zG E Q (0) (0) [(r, .inr (5, [.ref e1, .int (iI (↑n)), .ref e2, .ref e3, .ref e4, .ref e5, .ref e6, .ref e7, .ref e8, .int (iI L), .int d, .ref e9, .ref e10, .ref e11, .ref e12, .ref e13, .int (iI sz), .int (iI mo), .ref e14, .int (iI (cEX n p0 i0))])), (e1, ar cI 8 ND), (e2, ai cI 8 AU), (e3, ai cI 8 LE), (e4, ai cI 8 SN), (e5, ar cI 8 US), (e6, ai cI 80 KK), (e7, ai cI 80 AT), (e8, ai cI 80 LF), (e9, ar cI 6 KN), (e10, ai cI 32 PL), (e11, ai cI 32 HE), (e12, ai cI 32 TU), (e13, ai cI 32 MA), (e14, ai cI 201 CU)] [some (.ref r), some (.int (iI p0)), some (.int (iI i0)), none, none, none] 6 [.int (iI (b2 ((0 ≤ p0 ∧ p0 < 6) ∧ 0 ≤ i0 ∧ i0 < ↑n)))] from ?_)
  refine z_if_neI (tgt := 11) C dX5_lessons_6 (by decide) ⟨by omega, by omega⟩ (fun h1 => ?_) (fun h1 => ?_)
  · have hx9 := b21 h1
    refine z_aload_n (i := 0) C dX5_lessons_11 rfl rfl ?_
    refine z_iload_n (i := 2) C dX5_lessons_12 rfl rfl ?_
    refine z_callV (n := 1) (As := [.int (iI i0)]) (st := []) (fr := []) C hE (k_rkindsFor l D cI cZ cM cL r e1 e2 e3 e4 e5 e6 e7 e8 e9 e10 e11 e12 e13 e14 n L d sz mo (cEX n p0 i0) ND US KN AU LE SN KK AT LF PL HE TU MA CU i0 hn hz (fun i a b => (hm i a b).2.1)) gX5_lessons_X5_kindsFor rfl ⟨rfl, rfl⟩ (by decide +kernel) ⟨Nat.le_of_ble_eq_true rfl, Nat.le_of_ble_eq_true rfl⟩ rfl rfl (by rw [List.append_nil]) 0 rfl rfl rfl (Nat.le_of_ble_eq_true rfl) ⟨Nat.le_of_ble_eq_true rfl, Nat.le_of_ble_eq_true rfl⟩ dX5_lessons_13 (fun r w1 hpo => ?_)
    obtain ⟨rfl, rfl⟩ := hpo
    rw [List.append_nil]
    refine (show zG E Q (0) (0) [(r, .inr (5, [.ref e1, .int (iI (↑n)), .ref e2, .ref e3, .ref e4, .ref e5, .ref e6, .ref e7, .ref e8, .int (iI L), .int d, .ref e9, .ref e10, .ref e11, .ref e12, .ref e13, .int (iI sz), .int (iI mo), .ref e14, .int (iI (cEX n p0 i0))])), (e1, ar cI 8 ND), (e2, ai cI 8 AU), (e3, ai cI 8 LE), (e4, ai cI 8 SN), (e5, ar cI 8 US), (e6, ai cI 80 KK), (e7, ai cI 80 AT), (e8, ai cI 80 LF), (e9, ar cI 6 KN), (e10, ai cI 32 PL), (e11, ai cI 32 HE), (e12, ai cI 32 TU), (e13, ai cI 32 MA), (e14, ai cI 201 CU)] [some (.ref r), some (.int (iI p0)), some (.int (iI i0)), none, none, none] 16 [.int (kcB (fun k : Nat => rv AU LE SN KK AT LF k) (mcB US i0) n)] from ?_)
    refine z_aload_n (i := 0) C dX5_lessons_16 rfl rfl ?_
    refine z_get (ci := 5) C (hi_X5_lessons_X5) 0 rfl rfl 11 (by decide) (by decide +kernel) rfl dX5_lessons_17 ?_
    refine z_iload_n (i := 1) C dX5_lessons_20 rfl rfl ?_
    refine z_iaload C 9 rfl (zT_of hE (t0 := 0) rfl) (by omega) (by omega) (by decide) dX5_lessons_21 ?_
    refine z_iconst (v := iI (-1)) C dX5_lessons_22 rfl ?_
    refine z_ixor C dX5_lessons_23 ?_
    refine z_iand C dX5_lessons_24 ?_
    refine z_istore_n (i := 3) (lv' := [some (.ref r), some (.int (iI p0)), some (.int (iI i0)), some (.int ((kcB (fun k : Nat => rv AU LE SN KK AT LF k) (mcB US i0) n) &&& ((KN p0) ^^^ (iI (-1))))), none, none]) C dX5_lessons_25 rfl rfl rfl ?_
    refine z_iconst (v := iI 0) C dX5_lessons_26 rfl ?_
    refine z_istore (lv' := [some (.ref r), some (.int (iI p0)), some (.int (iI i0)), some (.int ((kcB (fun k : Nat => rv AU LE SN KK AT LF k) (mcB US i0) n) &&& ((KN p0) ^^^ (iI (-1))))), some (.int (iI 0)), none]) C dX5_lessons_27 rfl rfl ?_
    refine (show zG E Q 0 0 [(r, .inr (5, [.ref e1, .int (iI (↑n)), .ref e2, .ref e3, .ref e4, .ref e5, .ref e6, .ref e7, .ref e8, .int (iI L), .int d, .ref e9, .ref e10, .ref e11, .ref e12, .ref e13, .int (iI sz), .int (iI mo), .ref e14, .int (iI (cEX n p0 i0))])), (e1, ar cI 8 ND), (e2, ai cI 8 AU), (e3, ai cI 8 LE), (e4, ai cI 8 SN), (e5, ar cI 8 US), (e6, ai cI 80 KK), (e7, ai cI 80 AT), (e8, ai cI 80 LF), (e9, ar cI 6 KN), (e10, ai cI 32 PL), (e11, ai cI 32 HE), (e12, ai cI 32 TU), (e13, ai cI 32 MA), (e14, ai cI 201 CU)] [some (.ref r), some (.int (iI p0)), some (.int (iI i0)), some (.int (rch (fun k => ND k &&& (KN p0 ^^^ iI (-1))) (iI (-1)) 0 (kcB (fun k : Nat => rv AU LE SN KK AT LF k) (mcB US i0) n &&& (KN p0 ^^^ iI (-1))))), some (.int (iI ↑(0 : Nat))), none] 29 [] from ?_)
    exact LQ hx9 9 0 (by omega) (by omega)
  · refine z_iconst (v := iI 0) C dX5_lessons_9 rfl ?_
    have hc : cEX n p0 i0 = 1 := by unfold cEX; rw [if_pos (by have := b20 h1; omega)]
    exact z_iret C hR dX5_lessons_10 (Nat.le_of_ble_eq_true rfl) (Nat.le_of_ble_eq_true rfl) (Or.inr ⟨by omega, rfl, sz, mo, PL, HE, TU, MA, CU, rfl⟩)
theorem hi_X5_credit_X5 : ∀ w ∈ wsX50, w ∈ wsX5_credit := by decide +kernel
set_option maxHeartbeats 1000000 in
set_option maxRecDepth 100000 in
theorem k_rcredit (l : Launch) (D : va_G) (cI cZ cM cL : ClassId) (r e1 e2 e3 e4 e5 e6 e7 e8 e9 e10 e11 e12 e13 e14 : Nat) (n : Nat) (L : Int) (d : Int32) (sz mo th : Int) (ND US KN : Int → Int32) (AU LE SN KK AT LF PL HE TU MA CU : Int → Int) (hg : rO n L US LE SN AT LF) (au0 : Int) (ha0 : iR au0) (hAU : ∀ i : Int, 0 ≤ i → i < n → 0 ≤ AU i ∧ AU i ≤ 9) : zN l yX5_credit wsX5_credit { frames := 1, cells := 0, slots := 0, locals := 24 } D (zTy cI cZ cM cL) [.ref r, .int (iI au0)] (rfW cI r e1 e2 e3 e4 e5 e6 e7 e8 e9 e10 e11 e12 e13 e14 n L d sz mo th ND US KN AU LE SN KK AT LF PL HE TU MA CU) (fun r9 w => ((cCR au0) = 0 ∧ r9 = some (.int (iI (rCR US AU n au0 n))) ∧ (rQ cI r e1 e2 e3 e4 e5 e6 e7 e8 e9 e10 e11 e12 e13 e14 n L d 0 ND US KN AU LE SN KK AT LF w)) ∨ (¬ (cCR au0) = 0 ∧ r9 = some (.int (iI 0)) ∧ (rQ cI r e1 e2 e3 e4 e5 e6 e7 e8 e9 e10 e11 e12 e13 e14 n L d (cCR au0) ND US KN AU LE SN KK AT LF w))) 0 0 := by
  refine zN_of (cc := cX5_credit) (maxL := 6) (lv0 := [some (.ref r), some (.int (iI au0)), none, none, none, none]) (by decide) rfl rfl (Nat.le_of_ble_eq_true rfl) rfl ?_
  intro E Q C hE hR hI0
  obtain ⟨hn, hz, hL, hm⟩ := hg
  refine (show zG E Q 0 0 [(r, .inr (5, [.ref e1, .int (iI (↑n)), .ref e2, .ref e3, .ref e4, .ref e5, .ref e6, .ref e7, .ref e8, .int (iI L), .int d, .ref e9, .ref e10, .ref e11, .ref e12, .ref e13, .int (iI sz), .int (iI mo), .ref e14, .int (iI th)])), (e1, ar cI 8 ND), (e2, ai cI 8 AU), (e3, ai cI 8 LE), (e4, ai cI 8 SN), (e5, ar cI 8 US), (e6, ai cI 80 KK), (e7, ai cI 80 AT), (e8, ai cI 80 LF), (e9, ar cI 6 KN), (e10, ai cI 32 PL), (e11, ai cI 32 HE), (e12, ai cI 32 TU), (e13, ai cI 32 MA), (e14, ai cI 201 CU)] [some (.ref r), some (.int (iI au0)), none, none, none, none] 0 [] from ?_)
  have LQ : (0 ≤ au0 ∧ au0 ≤ 9) → ∀ (z k : Nat), k ≤ n → n - k < z → zG E Q 0 0 [(r, .inr (5, [.ref e1, .int (iI (↑n)), .ref e2, .ref e3, .ref e4, .ref e5, .ref e6, .ref e7, .ref e8, .int (iI L), .int d, .ref e9, .ref e10, .ref e11, .ref e12, .ref e13, .int (iI sz), .int (iI mo), .ref e14, .int (iI 0)])), (e1, ar cI 8 ND), (e2, ai cI 8 AU), (e3, ai cI 8 LE), (e4, ai cI 8 SN), (e5, ar cI 8 US), (e6, ai cI 80 KK), (e7, ai cI 80 AT), (e8, ai cI 80 LF), (e9, ar cI 6 KN), (e10, ai cI 32 PL), (e11, ai cI 32 HE), (e12, ai cI 32 TU), (e13, ai cI 32 MA), (e14, ai cI 201 CU)] [some (.ref r), some (.int (iI au0)), some (.int (iI (rCR US AU n au0 k))), some (.int (iI ↑k)), none, none] 23 [] := by
    intro ha9 z
    induction z with
    | zero => intro k hk1 hkn; omega
    | succ z ih =>
      intro k hk1 hkn
      have hr9 := rCR_r US AU n au0 k
      have l48 : k < n → zG E Q 0 0 [(r, .inr (5, [.ref e1, .int (iI (↑n)), .ref e2, .ref e3, .ref e4, .ref e5, .ref e6, .ref e7, .ref e8, .int (iI L), .int d, .ref e9, .ref e10, .ref e11, .ref e12, .ref e13, .int (iI sz), .int (iI mo), .ref e14, .int (iI 0)])), (e1, ar cI 8 ND), (e2, ai cI 8 AU), (e3, ai cI 8 LE), (e4, ai cI 8 SN), (e5, ar cI 8 US), (e6, ai cI 80 KK), (e7, ai cI 80 AT), (e8, ai cI 80 LF), (e9, ar cI 6 KN), (e10, ai cI 32 PL), (e11, ai cI 32 HE), (e12, ai cI 32 TU), (e13, ai cI 32 MA), (e14, ai cI 201 CU)] [some (.ref r), some (.int (iI au0)), some (.int (iI (rCR US AU n au0 k))), some (.int (iI ↑k)), some (.int (iI (b2 (hasB US AU ↑k au0 n = true)))), some (.int (iI ↑n))] 102 [] := by
        intro hk8
        have hb8 := b2r (hasB US AU ↑k au0 n = true)
        refine z_iload_n (i := 2) C dX5_credit_102 rfl rfl ?_
        refine z_iload C dX5_credit_103 rfl ?_
        refine z_if_eqI (tgt := 122) C dX5_credit_105 (by decide) ⟨by omega, by omega⟩ (fun hh => ?_) (fun hh => ?_)
        · refine z_iconst (v := iI 0) C dX5_credit_122 rfl ?_
          refine z_iaddI (v := (rCR US AU n au0 k) + 0) C dX5_credit_123 (by omega) ?_
          refine z_istore_n (i := 2) (lv' := [some (.ref r), some (.int (iI au0)), some (.int (iI ((rCR US AU n au0 k) + 0))), some (.int (iI ↑k)), some (.int (iI (b2 (hasB US AU ↑k au0 n = true)))), some (.int (iI ↑n))]) C dX5_credit_124 rfl rfl rfl ?_
          refine z_iincI (v := ↑(k + 1)) (lv' := [some (.ref r), some (.int (iI au0)), some (.int (iI ((rCR US AU n au0 k) + 0))), some (.int (iI (↑(k + 1)))), some (.int (iI (b2 (hasB US AU ↑k au0 n = true)))), some (.int (iI ↑n))]) C dX5_credit_125 rfl (by omega) rfl ?_
          refine z_goto (tgt := 23) C dX5_credit_128 (by decide) ?_
          have e1 : ((rCR US AU n au0 k) + 0) = rCR US AU n au0 (k + 1) := by
            show _ = rCR US AU n au0 k + (if hasB US AU ↑k au0 n = true ∧ AU ↑k ≠ au0 then 1 else 0)
            rw [if_neg (fun q => b20 hh q.1)]
          rw [e1]
          refine z_le (r := [some (.ref r), some (.int (iI au0)), some (.int (iI (rCR US AU n au0 (k + 1)))), some (.int (iI ↑(k + 1))), none, none]) ⟨Or.inr rfl, Or.inr rfl, Or.inr rfl, Or.inr rfl, Or.inl rfl, Or.inl rfl, trivial⟩ ?_
          exact ih (k + 1) (by omega) (by omega)
        · have hA9 := hAU ↑k (by omega) (by omega)
          refine z_aload_n (i := 0) C dX5_credit_108 rfl rfl ?_
          refine z_get (ci := 5) C (hi_X5_credit_X5) 0 rfl rfl 2 (by decide) (by decide +kernel) rfl dX5_credit_109 ?_
          refine z_iload_n (i := 3) C dX5_credit_112 rfl rfl ?_
          refine z_ialoadI 2 (he := rfl) C (zT_of hE (t0 := 0) rfl) (by omega) (by omega) (by decide) dX5_credit_113 ?_
          refine z_iload_n (i := 1) C dX5_credit_114 rfl rfl ?_
          refine z_icmp_eqI (tgt := 122) C dX5_credit_115 (by decide) ⟨by omega, by omega⟩ ⟨by omega, by omega⟩ (fun hq => ?_) (fun hq => ?_)
          · refine z_iconst (v := iI 0) C dX5_credit_122 rfl ?_
            refine z_iaddI (v := (rCR US AU n au0 k) + 0) C dX5_credit_123 (by omega) ?_
            refine z_istore_n (i := 2) (lv' := [some (.ref r), some (.int (iI au0)), some (.int (iI ((rCR US AU n au0 k) + 0))), some (.int (iI ↑k)), some (.int (iI (b2 (hasB US AU ↑k au0 n = true)))), some (.int (iI ↑n))]) C dX5_credit_124 rfl rfl rfl ?_
            refine z_iincI (v := ↑(k + 1)) (lv' := [some (.ref r), some (.int (iI au0)), some (.int (iI ((rCR US AU n au0 k) + 0))), some (.int (iI (↑(k + 1)))), some (.int (iI (b2 (hasB US AU ↑k au0 n = true)))), some (.int (iI ↑n))]) C dX5_credit_125 rfl (by omega) rfl ?_
            refine z_goto (tgt := 23) C dX5_credit_128 (by decide) ?_
            have e1 : ((rCR US AU n au0 k) + 0) = rCR US AU n au0 (k + 1) := by
              show _ = rCR US AU n au0 k + (if hasB US AU ↑k au0 n = true ∧ AU ↑k ≠ au0 then 1 else 0)
              rw [if_neg (fun q => q.2 hq)]
            rw [e1]
            refine z_le (r := [some (.ref r), some (.int (iI au0)), some (.int (iI (rCR US AU n au0 (k + 1)))), some (.int (iI ↑(k + 1))), none, none]) ⟨Or.inr rfl, Or.inr rfl, Or.inr rfl, Or.inr rfl, Or.inl rfl, Or.inl rfl, trivial⟩ ?_
            exact ih (k + 1) (by omega) (by omega)
          · refine z_iconst (v := iI 1) C dX5_credit_118 rfl ?_
            refine z_goto (tgt := 123) C dX5_credit_119 (by decide) ?_
            refine z_iaddI (v := (rCR US AU n au0 k) + 1) C dX5_credit_123 (by omega) ?_
            refine z_istore_n (i := 2) (lv' := [some (.ref r), some (.int (iI au0)), some (.int (iI ((rCR US AU n au0 k) + 1))), some (.int (iI ↑k)), some (.int (iI (b2 (hasB US AU ↑k au0 n = true)))), some (.int (iI ↑n))]) C dX5_credit_124 rfl rfl rfl ?_
            refine z_iincI (v := ↑(k + 1)) (lv' := [some (.ref r), some (.int (iI au0)), some (.int (iI ((rCR US AU n au0 k) + 1))), some (.int (iI (↑(k + 1)))), some (.int (iI (b2 (hasB US AU ↑k au0 n = true)))), some (.int (iI ↑n))]) C dX5_credit_125 rfl (by omega) rfl ?_
            refine z_goto (tgt := 23) C dX5_credit_128 (by decide) ?_
            have e1 : ((rCR US AU n au0 k) + 1) = rCR US AU n au0 (k + 1) := by
              show _ = rCR US AU n au0 k + (if hasB US AU ↑k au0 n = true ∧ AU ↑k ≠ au0 then 1 else 0)
              rw [if_pos ⟨b21 hh, hq⟩]
            rw [e1]
            refine z_le (r := [some (.ref r), some (.int (iI au0)), some (.int (iI (rCR US AU n au0 (k + 1)))), some (.int (iI ↑(k + 1))), none, none]) ⟨Or.inr rfl, Or.inr rfl, Or.inr rfl, Or.inr rfl, Or.inl rfl, Or.inl rfl, trivial⟩ ?_
            exact ih (k + 1) (by omega) (by omega)
      have lq : k < n → ∀ (z2 j : Nat), j ≤ n → n - j < z2 → zG E Q 0 0 [(r, .inr (5, [.ref e1, .int (iI (↑n)), .ref e2, .ref e3, .ref e4, .ref e5, .ref e6, .ref e7, .ref e8, .int (iI L), .int d, .ref e9, .ref e10, .ref e11, .ref e12, .ref e13, .int (iI sz), .int (iI mo), .ref e14, .int (iI 0)])), (e1, ar cI 8 ND), (e2, ai cI 8 AU), (e3, ai cI 8 LE), (e4, ai cI 8 SN), (e5, ar cI 8 US), (e6, ai cI 80 KK), (e7, ai cI 80 AT), (e8, ai cI 80 LF), (e9, ar cI 6 KN), (e10, ai cI 32 PL), (e11, ai cI 32 HE), (e12, ai cI 32 TU), (e13, ai cI 32 MA), (e14, ai cI 201 CU)] [some (.ref r), some (.int (iI au0)), some (.int (iI (rCR US AU n au0 k))), some (.int (iI ↑k)), some (.int (iI (b2 (hasB US AU ↑k au0 j = true)))), some (.int (iI ↑j))] 44 [] := by
        intro hk8 z2
        induction z2 with
        | zero => intro j hj hjn; omega
        | succ z2 ih2 =>
          intro j hj hjn
          refine z_iload C dX5_credit_44 rfl ?_
          refine z_aload_n (i := 0) C dX5_credit_46 rfl rfl ?_
          refine z_get (ci := 5) C (hi_X5_credit_X5) 0 rfl rfl 1 (by decide) (by decide +kernel) rfl dX5_credit_47 ?_
          refine z_icmp_geI (tgt := 102) C dX5_credit_50 (by decide) ⟨by omega, by omega⟩ ⟨by omega, by omega⟩ (fun hk2 => ?_) (fun hk2 => ?_)
          · have e2 : j = n := by omega
            rw [e2]
            exact l48 hk8
          · have hb8 := b2r (hasB US AU ↑k au0 j = true)
            refine z_iload C dX5_credit_53 rfl ?_
            refine z_if_neI (tgt := 89) C dX5_credit_55 (by decide) ⟨by omega, by omega⟩ (fun hh => ?_) (fun hh => ?_)
            · refine z_iconst (v := iI 1) C dX5_credit_89 rfl ?_
              refine z_goto (tgt := 94) C dX5_credit_90 (by decide) ?_
              refine z_istore (lv' := [some (.ref r), some (.int (iI au0)), some (.int (iI (rCR US AU n au0 k))), some (.int (iI ↑k)), some (.int (iI 1)), some (.int (iI ↑j))]) C dX5_credit_94 rfl rfl ?_
              refine z_iincI (v := ↑(j + 1)) (lv' := [some (.ref r), some (.int (iI au0)), some (.int (iI (rCR US AU n au0 k))), some (.int (iI ↑k)), some (.int (iI 1)), some (.int (iI (↑(j + 1))))]) C dX5_credit_96 rfl (by omega) rfl ?_
              refine z_goto (tgt := 44) C dX5_credit_99 (by decide) ?_
              have e1 : (1 : Int) = b2 (hasB US AU ↑k au0 (j + 1) = true) := by
                exact (b2t (hasB_s.mpr (Or.inl (b21 hh)))).symm
              have e2 : ([some (.ref r), some (.int (iI au0)), some (.int (iI (rCR US AU n au0 k))), some (.int (iI ↑k)), some (.int (iI 1)), some (.int (iI (↑(j + 1))))] : List (Option Value)) = [some (.ref r), some (.int (iI au0)), some (.int (iI (rCR US AU n au0 k))), some (.int (iI ↑k)), some (.int (iI (b2 (hasB US AU ↑k au0 (j + 1) = true)))), some (.int (iI (↑(j + 1))))] := by rw [← e1]
              rw [e2]
              exact ih2 (j + 1) (by omega) (by omega)
            · refine z_iload C dX5_credit_58 rfl ?_
              refine z_iload_n (i := 3) C dX5_credit_60 rfl rfl ?_
              refine z_icmp_eqI (tgt := 93) C dX5_credit_61 (by decide) ⟨by omega, by omega⟩ ⟨by omega, by omega⟩ (fun hq1 => ?_) (fun hq1 => ?_)
              · refine z_iconst (v := iI 0) C dX5_credit_93 rfl ?_
                refine z_istore (lv' := [some (.ref r), some (.int (iI au0)), some (.int (iI (rCR US AU n au0 k))), some (.int (iI ↑k)), some (.int (iI 0)), some (.int (iI ↑j))]) C dX5_credit_94 rfl rfl ?_
                refine z_iincI (v := ↑(j + 1)) (lv' := [some (.ref r), some (.int (iI au0)), some (.int (iI (rCR US AU n au0 k))), some (.int (iI ↑k)), some (.int (iI 0)), some (.int (iI (↑(j + 1))))]) C dX5_credit_96 rfl (by omega) rfl ?_
                refine z_goto (tgt := 44) C dX5_credit_99 (by decide) ?_
                have e1 : (0 : Int) = b2 (hasB US AU ↑k au0 (j + 1) = true) := by
                  exact (b2f (fun q => (hasB_s.mp q).elim (b20 hh) (fun q => q.1 hq1))).symm
                have e2 : ([some (.ref r), some (.int (iI au0)), some (.int (iI (rCR US AU n au0 k))), some (.int (iI ↑k)), some (.int (iI 0)), some (.int (iI (↑(j + 1))))] : List (Option Value)) = [some (.ref r), some (.int (iI au0)), some (.int (iI (rCR US AU n au0 k))), some (.int (iI ↑k)), some (.int (iI (b2 (hasB US AU ↑k au0 (j + 1) = true)))), some (.int (iI (↑(j + 1))))] := by rw [← e1]
                rw [e2]
                exact ih2 (j + 1) (by omega) (by omega)
              · refine z_aload_n (i := 0) C dX5_credit_64 rfl rfl ?_
                refine z_iload_n (i := 3) C dX5_credit_65 rfl rfl ?_
                refine z_callV (n := 1) (As := [.int (iI ↑k)]) (st := []) (fr := []) C hE (k_rused l D cI cZ cM cL r e1 e2 e3 e4 e5 e6 e7 e8 e9 e10 e11 e12 e13 e14 n L d sz mo 0 ND US KN AU LE SN KK AT LF PL HE TU MA CU ↑k hn hz) gX5_credit_X5_used rfl ⟨rfl, rfl⟩ (by decide +kernel) ⟨Nat.le_of_ble_eq_true rfl, Nat.le_of_ble_eq_true rfl⟩ rfl rfl (by rw [List.append_nil]) 0 rfl rfl rfl (Nat.le_of_ble_eq_true rfl) ⟨Nat.le_of_ble_eq_true rfl, Nat.le_of_ble_eq_true rfl⟩ dX5_credit_66 (fun r w1 hpo => ?_)
                obtain ⟨rfl, rfl⟩ := hpo
                rw [List.append_nil]
                refine (show zG E Q (0) (0) [(r, .inr (5, [.ref e1, .int (iI (↑n)), .ref e2, .ref e3, .ref e4, .ref e5, .ref e6, .ref e7, .ref e8, .int (iI L), .int d, .ref e9, .ref e10, .ref e11, .ref e12, .ref e13, .int (iI sz), .int (iI mo), .ref e14, .int (iI 0)])), (e1, ar cI 8 ND), (e2, ai cI 8 AU), (e3, ai cI 8 LE), (e4, ai cI 8 SN), (e5, ar cI 8 US), (e6, ai cI 80 KK), (e7, ai cI 80 AT), (e8, ai cI 80 LF), (e9, ar cI 6 KN), (e10, ai cI 32 PL), (e11, ai cI 32 HE), (e12, ai cI 32 TU), (e13, ai cI 32 MA), (e14, ai cI 201 CU)] [some (.ref r), some (.int (iI au0)), some (.int (iI (rCR US AU n au0 k))), some (.int (iI ↑k)), some (.int (iI (b2 (hasB US AU ↑k au0 j = true)))), some (.int (iI ↑j))] 69 [.int (mcB US ↑k)] from ?_)
                refine z_iload C dX5_credit_69 rfl ?_
                refine z_ishr C dX5_credit_71 ?_
                refine z_iconst (v := iI 1) C dX5_credit_72 rfl ?_
                refine z_iand C dX5_credit_73 ?_
                refine z_iconst (v := iI 1) C dX5_credit_74 rfl ?_
                refine z_icmp_ne (tgt := 93) C dX5_credit_75 (by decide) (fun hq2 => ?_) (fun hq2 => ?_)
                · refine z_iconst (v := iI 0) C dX5_credit_93 rfl ?_
                  refine z_istore (lv' := [some (.ref r), some (.int (iI au0)), some (.int (iI (rCR US AU n au0 k))), some (.int (iI ↑k)), some (.int (iI 0)), some (.int (iI ↑j))]) C dX5_credit_94 rfl rfl ?_
                  refine z_iincI (v := ↑(j + 1)) (lv' := [some (.ref r), some (.int (iI au0)), some (.int (iI (rCR US AU n au0 k))), some (.int (iI ↑k)), some (.int (iI 0)), some (.int (iI (↑(j + 1))))]) C dX5_credit_96 rfl (by omega) rfl ?_
                  refine z_goto (tgt := 44) C dX5_credit_99 (by decide) ?_
                  have e1 : (0 : Int) = b2 (hasB US AU ↑k au0 (j + 1) = true) := by
                    exact (b2f (fun q => (hasB_s.mp q).elim (b20 hh) (fun q => hq2 (hb1.mpr q.2.1)))).symm
                  have e2 : ([some (.ref r), some (.int (iI au0)), some (.int (iI (rCR US AU n au0 k))), some (.int (iI ↑k)), some (.int (iI 0)), some (.int (iI (↑(j + 1))))] : List (Option Value)) = [some (.ref r), some (.int (iI au0)), some (.int (iI (rCR US AU n au0 k))), some (.int (iI ↑k)), some (.int (iI (b2 (hasB US AU ↑k au0 (j + 1) = true)))), some (.int (iI (↑(j + 1))))] := by rw [← e1]
                  rw [e2]
                  exact ih2 (j + 1) (by omega) (by omega)
                · have hA9 := hAU ↑j (by omega) (by omega)
                  refine z_aload_n (i := 0) C dX5_credit_78 rfl rfl ?_
                  refine z_get (ci := 5) C (hi_X5_credit_X5) 0 rfl rfl 2 (by decide) (by decide +kernel) rfl dX5_credit_79 ?_
                  refine z_iload C dX5_credit_82 rfl ?_
                  refine z_ialoadI 2 (he := rfl) C (zT_of hE (t0 := 0) rfl) (by omega) (by omega) (by decide) dX5_credit_84 ?_
                  refine z_iload_n (i := 1) C dX5_credit_85 rfl rfl ?_
                  refine z_icmp_neI (tgt := 93) C dX5_credit_86 (by decide) ⟨by omega, by omega⟩ ⟨by omega, by omega⟩ (fun hq3 => ?_) (fun hq3 => ?_)
                  · refine z_iconst (v := iI 0) C dX5_credit_93 rfl ?_
                    refine z_istore (lv' := [some (.ref r), some (.int (iI au0)), some (.int (iI (rCR US AU n au0 k))), some (.int (iI ↑k)), some (.int (iI 0)), some (.int (iI ↑j))]) C dX5_credit_94 rfl rfl ?_
                    refine z_iincI (v := ↑(j + 1)) (lv' := [some (.ref r), some (.int (iI au0)), some (.int (iI (rCR US AU n au0 k))), some (.int (iI ↑k)), some (.int (iI 0)), some (.int (iI (↑(j + 1))))]) C dX5_credit_96 rfl (by omega) rfl ?_
                    refine z_goto (tgt := 44) C dX5_credit_99 (by decide) ?_
                    have e1 : (0 : Int) = b2 (hasB US AU ↑k au0 (j + 1) = true) := by
                      exact (b2f (fun q => (hasB_s.mp q).elim (b20 hh) (fun q => hq3 q.2.2))).symm
                    have e2 : ([some (.ref r), some (.int (iI au0)), some (.int (iI (rCR US AU n au0 k))), some (.int (iI ↑k)), some (.int (iI 0)), some (.int (iI (↑(j + 1))))] : List (Option Value)) = [some (.ref r), some (.int (iI au0)), some (.int (iI (rCR US AU n au0 k))), some (.int (iI ↑k)), some (.int (iI (b2 (hasB US AU ↑k au0 (j + 1) = true)))), some (.int (iI (↑(j + 1))))] := by rw [← e1]
                    rw [e2]
                    exact ih2 (j + 1) (by omega) (by omega)
                  · refine z_iconst (v := iI 1) C dX5_credit_89 rfl ?_
                    refine z_goto (tgt := 94) C dX5_credit_90 (by decide) ?_
                    refine z_istore (lv' := [some (.ref r), some (.int (iI au0)), some (.int (iI (rCR US AU n au0 k))), some (.int (iI ↑k)), some (.int (iI 1)), some (.int (iI ↑j))]) C dX5_credit_94 rfl rfl ?_
                    refine z_iincI (v := ↑(j + 1)) (lv' := [some (.ref r), some (.int (iI au0)), some (.int (iI (rCR US AU n au0 k))), some (.int (iI ↑k)), some (.int (iI 1)), some (.int (iI (↑(j + 1))))]) C dX5_credit_96 rfl (by omega) rfl ?_
                    refine z_goto (tgt := 44) C dX5_credit_99 (by decide) ?_
                    have e1 : (1 : Int) = b2 (hasB US AU ↑k au0 (j + 1) = true) := by
                      exact (b2t (hasB_s.mpr (Or.inr ⟨hq1, hb1.mp hq2, hq3⟩))).symm
                    have e2 : ([some (.ref r), some (.int (iI au0)), some (.int (iI (rCR US AU n au0 k))), some (.int (iI ↑k)), some (.int (iI 1)), some (.int (iI (↑(j + 1))))] : List (Option Value)) = [some (.ref r), some (.int (iI au0)), some (.int (iI (rCR US AU n au0 k))), some (.int (iI ↑k)), some (.int (iI (b2 (hasB US AU ↑k au0 (j + 1) = true)))), some (.int (iI (↑(j + 1))))] := by rw [← e1]
                    rw [e2]
                    exact ih2 (j + 1) (by omega) (by omega)
      refine z_iload_n (i := 3) C dX5_credit_23 rfl rfl ?_
      refine z_aload_n (i := 0) C dX5_credit_24 rfl rfl ?_
      refine z_get (ci := 5) C (hi_X5_credit_X5) 0 rfl rfl 1 (by decide) (by decide +kernel) rfl dX5_credit_25 ?_
      refine z_icmp_geI (tgt := 131) C dX5_credit_28 (by decide) ⟨by omega, by omega⟩ ⟨by omega, by omega⟩ (fun hk => ?_) (fun hk => ?_)
      · refine z_iload_n (i := 2) C dX5_credit_131 rfl rfl ?_
        have hc : cCR au0 = 0 := by unfold cCR; rw [if_neg (by omega)]
        exact z_iret C hR dX5_credit_132 (Nat.le_of_ble_eq_true rfl) (Nat.le_of_ble_eq_true rfl) (Or.inl ⟨hc, by rw [show k = n by omega], sz, mo, PL, HE, TU, MA, CU, rfl⟩)
      · refine z_aload_n (i := 0) C dX5_credit_31 rfl rfl ?_
        refine z_get (ci := 5) C (hi_X5_credit_X5) 0 rfl rfl 19 (by decide) (by decide +kernel) rfl dX5_credit_32 ?_
        refine z_if_neI (tgt := 131) C dX5_credit_35 (by decide) ⟨by omega, by omega⟩ (fun h => by exfalso; omega) (fun _ => ?_)
        refine z_iconst (v := iI 0) C dX5_credit_38 rfl ?_
        refine z_istore (lv' := [some (.ref r), some (.int (iI au0)), some (.int (iI (rCR US AU n au0 k))), some (.int (iI ↑k)), some (.int (iI 0)), none]) C dX5_credit_39 rfl rfl ?_
        refine z_iconst (v := iI 0) C dX5_credit_41 rfl ?_
        refine z_istore (lv' := [some (.ref r), some (.int (iI au0)), some (.int (iI (rCR US AU n au0 k))), some (.int (iI ↑k)), some (.int (iI 0)), some (.int (iI 0))]) C dX5_credit_42 rfl rfl ?_
        have e0 : (0 : Int) = b2 (hasB US AU ↑k au0 0 = true) := (b2f (fun q => by cases q)).symm
        refine (show zG E Q 0 0 [(r, .inr (5, [.ref e1, .int (iI (↑n)), .ref e2, .ref e3, .ref e4, .ref e5, .ref e6, .ref e7, .ref e8, .int (iI L), .int d, .ref e9, .ref e10, .ref e11, .ref e12, .ref e13, .int (iI sz), .int (iI mo), .ref e14, .int (iI 0)])), (e1, ar cI 8 ND), (e2, ai cI 8 AU), (e3, ai cI 8 LE), (e4, ai cI 8 SN), (e5, ar cI 8 US), (e6, ai cI 80 KK), (e7, ai cI 80 AT), (e8, ai cI 80 LF), (e9, ar cI 6 KN), (e10, ai cI 32 PL), (e11, ai cI 32 HE), (e12, ai cI 32 TU), (e13, ai cI 32 MA), (e14, ai cI 201 CU)] [some (.ref r), some (.int (iI au0)), some (.int (iI (rCR US AU n au0 k))), some (.int (iI ↑k)), some (.int (iI 0)), some (.int (iI ↑(0 : Nat)))] 44 [] from ?_)
        have e2 : ([some (.ref r), some (.int (iI au0)), some (.int (iI (rCR US AU n au0 k))), some (.int (iI ↑k)), some (.int (iI 0)), some (.int (iI ↑(0 : Nat)))] : List (Option Value)) = [some (.ref r), some (.int (iI au0)), some (.int (iI (rCR US AU n au0 k))), some (.int (iI ↑k)), some (.int (iI (b2 (hasB US AU ↑k au0 0 = true)))), some (.int (iI ↑(0 : Nat)))] := by rw [← e0]
        rw [e2]
        exact lq (by omega) (n + 1) 0 (by omega) (by omega)
  refine z_aload_n (i := 0) C dX5_credit_0 rfl rfl ?_
  refine z_iload_n (i := 1) C dX5_credit_1 rfl rfl ?_
  refine z_iconst (v := iI 0) C dX5_credit_2 rfl ?_
  refine z_bipush (v := iI 9) C dX5_credit_3 (by decide) ?_
  refine z_callS (n := 3) (As := [.int (iI au0), .int (iI 0), .int (iI 9)]) (st := [.ref r]) (fr := [(r, .inr (5, [.ref e1, .int (iI (↑n)), .ref e2, .ref e3, .ref e4, .ref e5, .ref e6, .ref e7, .ref e8, .int (iI L), .int d, .ref e9, .ref e10, .ref e11, .ref e12, .ref e13, .int (iI sz), .int (iI mo), .ref e14, .int (iI th)])), (e1, ar cI 8 ND), (e2, ai cI 8 AU), (e3, ai cI 8 LE), (e4, ai cI 8 SN), (e5, ar cI 8 US), (e6, ai cI 80 KK), (e7, ai cI 80 AT), (e8, ai cI 80 LF), (e9, ar cI 6 KN), (e10, ai cI 32 PL), (e11, ai cI 32 HE), (e12, ai cI 32 TU), (e13, ai cI 32 MA), (e14, ai cI 201 CU)]) C hE (k_rin l D cI cZ cM cL au0 0 9 ha0 ⟨by omega, by omega⟩ ⟨by omega, by omega⟩) gX5_credit_X5_in rfl ⟨rfl, rfl⟩ (by decide +kernel) ⟨Nat.le_of_ble_eq_true rfl, Nat.le_of_ble_eq_true rfl⟩ rfl rfl (List.Perm.refl _) (Nat.le_of_ble_eq_true rfl) ⟨Nat.le_of_ble_eq_true rfl, Nat.le_of_ble_eq_true rfl⟩ dX5_credit_5 (fun r w1 hpo => ?_)
  obtain ⟨rfl, rfl⟩ := hpo
  have hb9 := b2r (0 ≤ au0 ∧ au0 ≤ 9)
  refine (show zG E Q (0) (0) [(r, .inr (5, [.ref e1, .int (iI (↑n)), .ref e2, .ref e3, .ref e4, .ref e5, .ref e6, .ref e7, .ref e8, .int (iI L), .int d, .ref e9, .ref e10, .ref e11, .ref e12, .ref e13, .int (iI sz), .int (iI mo), .ref e14, .int (iI th)])), (e1, ar cI 8 ND), (e2, ai cI 8 AU), (e3, ai cI 8 LE), (e4, ai cI 8 SN), (e5, ar cI 8 US), (e6, ai cI 80 KK), (e7, ai cI 80 AT), (e8, ai cI 80 LF), (e9, ar cI 6 KN), (e10, ai cI 32 PL), (e11, ai cI 32 HE), (e12, ai cI 32 TU), (e13, ai cI 32 MA), (e14, ai cI 201 CU)] [some (.ref r), some (.int (iI au0)), none, none, none, none] 8 [.int (iI (b2 (0 ≤ au0 ∧ au0 ≤ 9))), .ref r] from ?_)
  refine z_if_eqI (tgt := 15) C dX5_credit_8 (by decide) ⟨by omega, by omega⟩ (fun h1 => ?_) (fun h1 => ?_)
  · refine z_iconst (v := iI 1) C dX5_credit_15 rfl ?_
    refine z_put (ci := 5) (ws' := [(r, .inr (5, [.ref e1, .int (iI (↑n)), .ref e2, .ref e3, .ref e4, .ref e5, .ref e6, .ref e7, .ref e8, .int (iI L), .int d, .ref e9, .ref e10, .ref e11, .ref e12, .ref e13, .int (iI sz), .int (iI mo), .ref e14, .int (iI 1)])), (e1, ar cI 8 ND), (e2, ai cI 8 AU), (e3, ai cI 8 LE), (e4, ai cI 8 SN), (e5, ar cI 8 US), (e6, ai cI 80 KK), (e7, ai cI 80 AT), (e8, ai cI 80 LF), (e9, ar cI 6 KN), (e10, ai cI 32 PL), (e11, ai cI 32 HE), (e12, ai cI 32 TU), (e13, ai cI 32 MA), (e14, ai cI 201 CU)]) C (hi_X5_credit_X5) tyX5_ok nmX5 0 rfl rfl 19 (by decide) (by decide +kernel) rfl (tyX5_ok 19 (by decide)) rfl rfl (Nat.le_of_ble_eq_true rfl) rfl dX5_credit_16 ?_
    refine z_iconst (v := iI 0) C dX5_credit_19 rfl ?_
    refine z_istore_n (i := 2) (lv' := [some (.ref r), some (.int (iI au0)), some (.int (iI 0)), none, none, none]) C dX5_credit_20 rfl rfl rfl ?_
    refine z_iconst (v := iI 0) C dX5_credit_21 rfl ?_
    refine z_istore_n (i := 3) (lv' := [some (.ref r), some (.int (iI au0)), some (.int (iI 0)), some (.int (iI 0)), none, none]) C dX5_credit_22 rfl rfl rfl ?_
    refine z_iload_n (i := 3) C dX5_credit_23 rfl rfl ?_
    refine z_aload_n (i := 0) C dX5_credit_24 rfl rfl ?_
    refine z_get (ci := 5) C (hi_X5_credit_X5) 0 rfl rfl 1 (by decide) (by decide +kernel) rfl dX5_credit_25 ?_
    refine z_icmp_geI (tgt := 131) C dX5_credit_28 (by decide) ⟨by omega, by omega⟩ ⟨by omega, by omega⟩ (fun hk0 => ?_) (fun hk0 => ?_)
    · refine z_iload_n (i := 2) C dX5_credit_131 rfl rfl ?_
      have hc : cCR au0 = 1 := by unfold cCR; rw [if_pos (by have := b20 h1; omega)]
      exact z_iret C hR dX5_credit_132 (Nat.le_of_ble_eq_true rfl) (Nat.le_of_ble_eq_true rfl) (Or.inr ⟨by omega, rfl, sz, mo, PL, HE, TU, MA, CU, by rw [hc]⟩)
    · refine z_aload_n (i := 0) C dX5_credit_31 rfl rfl ?_
      refine z_get (ci := 5) C (hi_X5_credit_X5) 0 rfl rfl 19 (by decide) (by decide +kernel) rfl dX5_credit_32 ?_
      refine z_if_neI (tgt := 131) C dX5_credit_35 (by decide) ⟨by omega, by omega⟩ (fun _ => ?_) (fun h => by exfalso; omega)
      refine z_iload_n (i := 2) C dX5_credit_131 rfl rfl ?_
      have hc : cCR au0 = 1 := by unfold cCR; rw [if_pos (by have := b20 h1; omega)]
      exact z_iret C hR dX5_credit_132 (Nat.le_of_ble_eq_true rfl) (Nat.le_of_ble_eq_true rfl) (Or.inr ⟨by omega, rfl, sz, mo, PL, HE, TU, MA, CU, by rw [hc]⟩)
  · refine z_iconst (v := iI 0) C dX5_credit_11 rfl ?_
    refine z_goto (tgt := 16) C dX5_credit_12 (by decide) ?_
    refine z_put (ci := 5) (ws' := [(r, .inr (5, [.ref e1, .int (iI (↑n)), .ref e2, .ref e3, .ref e4, .ref e5, .ref e6, .ref e7, .ref e8, .int (iI L), .int d, .ref e9, .ref e10, .ref e11, .ref e12, .ref e13, .int (iI sz), .int (iI mo), .ref e14, .int (iI 0)])), (e1, ar cI 8 ND), (e2, ai cI 8 AU), (e3, ai cI 8 LE), (e4, ai cI 8 SN), (e5, ar cI 8 US), (e6, ai cI 80 KK), (e7, ai cI 80 AT), (e8, ai cI 80 LF), (e9, ar cI 6 KN), (e10, ai cI 32 PL), (e11, ai cI 32 HE), (e12, ai cI 32 TU), (e13, ai cI 32 MA), (e14, ai cI 201 CU)]) C (hi_X5_credit_X5) tyX5_ok nmX5 0 rfl rfl 19 (by decide) (by decide +kernel) rfl (tyX5_ok 19 (by decide)) rfl rfl (Nat.le_of_ble_eq_true rfl) rfl dX5_credit_16 ?_
    refine z_iconst (v := iI 0) C dX5_credit_19 rfl ?_
    refine z_istore_n (i := 2) (lv' := [some (.ref r), some (.int (iI au0)), some (.int (iI 0)), none, none, none]) C dX5_credit_20 rfl rfl rfl ?_
    refine z_iconst (v := iI 0) C dX5_credit_21 rfl ?_
    refine z_istore_n (i := 3) (lv' := [some (.ref r), some (.int (iI au0)), some (.int (iI 0)), some (.int (iI 0)), none, none]) C dX5_credit_22 rfl rfl rfl ?_
    refine (show zG E Q 0 0 [(r, .inr (5, [.ref e1, .int (iI (↑n)), .ref e2, .ref e3, .ref e4, .ref e5, .ref e6, .ref e7, .ref e8, .int (iI L), .int d, .ref e9, .ref e10, .ref e11, .ref e12, .ref e13, .int (iI sz), .int (iI mo), .ref e14, .int (iI 0)])), (e1, ar cI 8 ND), (e2, ai cI 8 AU), (e3, ai cI 8 LE), (e4, ai cI 8 SN), (e5, ar cI 8 US), (e6, ai cI 80 KK), (e7, ai cI 80 AT), (e8, ai cI 80 LF), (e9, ar cI 6 KN), (e10, ai cI 32 PL), (e11, ai cI 32 HE), (e12, ai cI 32 TU), (e13, ai cI 32 MA), (e14, ai cI 201 CU)] [some (.ref r), some (.int (iI au0)), some (.int (iI (rCR US AU n au0 0))), some (.int (iI ↑(0 : Nat))), none, none] 23 [] from ?_)
    exact LQ (b21 h1) (n + 1) 0 (by omega) (by omega)
theorem hi_X5_init_X5 : ∀ w ∈ wsX50, w ∈ wsX5_init := by decide +kernel
set_option maxHeartbeats 1000000 in
set_option maxRecDepth 100000 in
theorem k_rinit (l : Launch) (D : va_G) (cI cZ cM cL : ClassId) (r : Nat) : zN l yX5_init wsX5_init { frames := 1, cells := 14, slots := 615, locals := 20 } D (zTy cI cZ cM cL) [.ref r] [(r, .inr (5, [.null, .int (iI 0), .null, .null, .null, .null, .null, .null, .null, .int (iI 0), .int (iI 0), .null, .null, .null, .null, .null, .int (iI 0), .int (iI 0), .null, .int (iI 0)]))] (fun r9 w => r9 = none ∧ ∃ e1 e2 e3 e4 e5 e6 e7 e8 e9 e10 e11 e12 e13 e14 : Nat, w = rfW cI r e1 e2 e3 e4 e5 e6 e7 e8 e9 e10 e11 e12 e13 e14 0 0 (iI 0) 0 0 0 (fun _ => iI 0) (fun _ => iI 0) (fun _ => iI 0) (fun _ => 0) (fun _ => 0) (fun _ => 0) (fun _ => 0) (fun _ => 0) (fun _ => 0) (fun _ => 0) (fun _ => 0) (fun _ => 0) (fun _ => 0) (fun _ => 0)) 14 615 := by
  refine zN_of (cc := cX5_init) (maxL := 1) (lv0 := [some (.ref r)]) (by decide) rfl rfl (Nat.le_of_ble_eq_true rfl) rfl ?_
  intro E Q C hE hR hI0
  have hI := hI0 rfl
  refine z_aload_n (i := 0) C dX5_init_0 rfl rfl ?_
  refine z_objInit C (by decide +kernel) (by decide +kernel) (by decide +kernel) (Nat.le_of_ble_eq_true rfl) ⟨Nat.le_of_ble_eq_true rfl, Nat.le_of_ble_eq_true rfl⟩ dX5_init_1 ?_
  refine z_aload_n (i := 0) C dX5_init_4 rfl rfl ?_
  refine z_bipush (v := iI 8) C dX5_init_5 (by decide) ?_
  refine z_newint C 0 8 (by decide +kernel) (zT_of hE rfl) rfl (Nat.le_of_ble_eq_true rfl) (Nat.le_of_ble_eq_true rfl) (Nat.le_of_ble_eq_true rfl) dX5_init_7 (fun e1 => ?_)
  refine (show zG E Q (0 + 1) (0 + 8) [(r, .inr (5, [.null, .int (iI 0), .null, .null, .null, .null, .null, .null, .null, .int (iI 0), .int (iI 0), .null, .null, .null, .null, .null, .int (iI 0), .int (iI 0), .null, .int (iI 0)])), (e1, ai cI 8 (fun _ => 0))] [some (.ref r)] 9 [.ref e1, .ref r] from ?_)
  refine z_putF (ci := 5) (ws' := [(r, .inr (5, [.ref e1, .int (iI 0), .null, .null, .null, .null, .null, .null, .null, .int (iI 0), .int (iI 0), .null, .null, .null, .null, .null, .int (iI 0), .int (iI 0), .null, .int (iI 0)])), (e1, ai cI 8 (fun _ => 0))]) C hI (hi_X5_init_X5) tyX5_ok nmX5 0 rfl rfl 0 (by decide) (by decide +kernel) rfl rfl (tyX5_ok 0 (by decide)) rfl rfl (Nat.le_of_ble_eq_true rfl) rfl dX5_init_9 ?_
  refine z_aload_n (i := 0) C dX5_init_12 rfl rfl ?_
  refine z_bipush (v := iI 8) C dX5_init_13 (by decide) ?_
  refine z_newint C 0 8 (by decide +kernel) (zT_of hE rfl) rfl (Nat.le_of_ble_eq_true rfl) (Nat.le_of_ble_eq_true rfl) (Nat.le_of_ble_eq_true rfl) dX5_init_15 (fun e2 => ?_)
  refine (show zG E Q (0 + 1 + 1) (0 + 8 + 8) [(r, .inr (5, [.ref e1, .int (iI 0), .null, .null, .null, .null, .null, .null, .null, .int (iI 0), .int (iI 0), .null, .null, .null, .null, .null, .int (iI 0), .int (iI 0), .null, .int (iI 0)])), (e1, ai cI 8 (fun _ => 0)), (e2, ai cI 8 (fun _ => 0))] [some (.ref r)] 17 [.ref e2, .ref r] from ?_)
  refine z_putF (ci := 5) (ws' := [(r, .inr (5, [.ref e1, .int (iI 0), .ref e2, .null, .null, .null, .null, .null, .null, .int (iI 0), .int (iI 0), .null, .null, .null, .null, .null, .int (iI 0), .int (iI 0), .null, .int (iI 0)])), (e1, ai cI 8 (fun _ => 0)), (e2, ai cI 8 (fun _ => 0))]) C hI (hi_X5_init_X5) tyX5_ok nmX5 0 rfl rfl 2 (by decide) (by decide +kernel) rfl rfl (tyX5_ok 2 (by decide)) rfl rfl (Nat.le_of_ble_eq_true rfl) rfl dX5_init_17 ?_
  refine z_aload_n (i := 0) C dX5_init_20 rfl rfl ?_
  refine z_bipush (v := iI 8) C dX5_init_21 (by decide) ?_
  refine z_newint C 0 8 (by decide +kernel) (zT_of hE rfl) rfl (Nat.le_of_ble_eq_true rfl) (Nat.le_of_ble_eq_true rfl) (Nat.le_of_ble_eq_true rfl) dX5_init_23 (fun e3 => ?_)
  refine (show zG E Q (0 + 1 + 1 + 1) (0 + 8 + 8 + 8) [(r, .inr (5, [.ref e1, .int (iI 0), .ref e2, .null, .null, .null, .null, .null, .null, .int (iI 0), .int (iI 0), .null, .null, .null, .null, .null, .int (iI 0), .int (iI 0), .null, .int (iI 0)])), (e1, ai cI 8 (fun _ => 0)), (e2, ai cI 8 (fun _ => 0)), (e3, ai cI 8 (fun _ => 0))] [some (.ref r)] 25 [.ref e3, .ref r] from ?_)
  refine z_putF (ci := 5) (ws' := [(r, .inr (5, [.ref e1, .int (iI 0), .ref e2, .ref e3, .null, .null, .null, .null, .null, .int (iI 0), .int (iI 0), .null, .null, .null, .null, .null, .int (iI 0), .int (iI 0), .null, .int (iI 0)])), (e1, ai cI 8 (fun _ => 0)), (e2, ai cI 8 (fun _ => 0)), (e3, ai cI 8 (fun _ => 0))]) C hI (hi_X5_init_X5) tyX5_ok nmX5 0 rfl rfl 3 (by decide) (by decide +kernel) rfl rfl (tyX5_ok 3 (by decide)) rfl rfl (Nat.le_of_ble_eq_true rfl) rfl dX5_init_25 ?_
  refine z_aload_n (i := 0) C dX5_init_28 rfl rfl ?_
  refine z_bipush (v := iI 8) C dX5_init_29 (by decide) ?_
  refine z_newint C 0 8 (by decide +kernel) (zT_of hE rfl) rfl (Nat.le_of_ble_eq_true rfl) (Nat.le_of_ble_eq_true rfl) (Nat.le_of_ble_eq_true rfl) dX5_init_31 (fun e4 => ?_)
  refine (show zG E Q (0 + 1 + 1 + 1 + 1) (0 + 8 + 8 + 8 + 8) [(r, .inr (5, [.ref e1, .int (iI 0), .ref e2, .ref e3, .null, .null, .null, .null, .null, .int (iI 0), .int (iI 0), .null, .null, .null, .null, .null, .int (iI 0), .int (iI 0), .null, .int (iI 0)])), (e1, ai cI 8 (fun _ => 0)), (e2, ai cI 8 (fun _ => 0)), (e3, ai cI 8 (fun _ => 0)), (e4, ai cI 8 (fun _ => 0))] [some (.ref r)] 33 [.ref e4, .ref r] from ?_)
  refine z_putF (ci := 5) (ws' := [(r, .inr (5, [.ref e1, .int (iI 0), .ref e2, .ref e3, .ref e4, .null, .null, .null, .null, .int (iI 0), .int (iI 0), .null, .null, .null, .null, .null, .int (iI 0), .int (iI 0), .null, .int (iI 0)])), (e1, ai cI 8 (fun _ => 0)), (e2, ai cI 8 (fun _ => 0)), (e3, ai cI 8 (fun _ => 0)), (e4, ai cI 8 (fun _ => 0))]) C hI (hi_X5_init_X5) tyX5_ok nmX5 0 rfl rfl 4 (by decide) (by decide +kernel) rfl rfl (tyX5_ok 4 (by decide)) rfl rfl (Nat.le_of_ble_eq_true rfl) rfl dX5_init_33 ?_
  refine z_aload_n (i := 0) C dX5_init_36 rfl rfl ?_
  refine z_bipush (v := iI 8) C dX5_init_37 (by decide) ?_
  refine z_newint C 0 8 (by decide +kernel) (zT_of hE rfl) rfl (Nat.le_of_ble_eq_true rfl) (Nat.le_of_ble_eq_true rfl) (Nat.le_of_ble_eq_true rfl) dX5_init_39 (fun e5 => ?_)
  refine (show zG E Q (0 + 1 + 1 + 1 + 1 + 1) (0 + 8 + 8 + 8 + 8 + 8) [(r, .inr (5, [.ref e1, .int (iI 0), .ref e2, .ref e3, .ref e4, .null, .null, .null, .null, .int (iI 0), .int (iI 0), .null, .null, .null, .null, .null, .int (iI 0), .int (iI 0), .null, .int (iI 0)])), (e1, ai cI 8 (fun _ => 0)), (e2, ai cI 8 (fun _ => 0)), (e3, ai cI 8 (fun _ => 0)), (e4, ai cI 8 (fun _ => 0)), (e5, ai cI 8 (fun _ => 0))] [some (.ref r)] 41 [.ref e5, .ref r] from ?_)
  refine z_putF (ci := 5) (ws' := [(r, .inr (5, [.ref e1, .int (iI 0), .ref e2, .ref e3, .ref e4, .ref e5, .null, .null, .null, .int (iI 0), .int (iI 0), .null, .null, .null, .null, .null, .int (iI 0), .int (iI 0), .null, .int (iI 0)])), (e1, ai cI 8 (fun _ => 0)), (e2, ai cI 8 (fun _ => 0)), (e3, ai cI 8 (fun _ => 0)), (e4, ai cI 8 (fun _ => 0)), (e5, ai cI 8 (fun _ => 0))]) C hI (hi_X5_init_X5) tyX5_ok nmX5 0 rfl rfl 5 (by decide) (by decide +kernel) rfl rfl (tyX5_ok 5 (by decide)) rfl rfl (Nat.le_of_ble_eq_true rfl) rfl dX5_init_41 ?_
  refine z_aload_n (i := 0) C dX5_init_44 rfl rfl ?_
  refine z_bipush (v := iI 80) C dX5_init_45 (by decide) ?_
  refine z_newint C 0 80 (by decide +kernel) (zT_of hE rfl) rfl (Nat.le_of_ble_eq_true rfl) (Nat.le_of_ble_eq_true rfl) (Nat.le_of_ble_eq_true rfl) dX5_init_47 (fun e6 => ?_)
  refine (show zG E Q (0 + 1 + 1 + 1 + 1 + 1 + 1) (0 + 8 + 8 + 8 + 8 + 8 + 80) [(r, .inr (5, [.ref e1, .int (iI 0), .ref e2, .ref e3, .ref e4, .ref e5, .null, .null, .null, .int (iI 0), .int (iI 0), .null, .null, .null, .null, .null, .int (iI 0), .int (iI 0), .null, .int (iI 0)])), (e1, ai cI 8 (fun _ => 0)), (e2, ai cI 8 (fun _ => 0)), (e3, ai cI 8 (fun _ => 0)), (e4, ai cI 8 (fun _ => 0)), (e5, ai cI 8 (fun _ => 0)), (e6, ai cI 80 (fun _ => 0))] [some (.ref r)] 49 [.ref e6, .ref r] from ?_)
  refine z_putF (ci := 5) (ws' := [(r, .inr (5, [.ref e1, .int (iI 0), .ref e2, .ref e3, .ref e4, .ref e5, .ref e6, .null, .null, .int (iI 0), .int (iI 0), .null, .null, .null, .null, .null, .int (iI 0), .int (iI 0), .null, .int (iI 0)])), (e1, ai cI 8 (fun _ => 0)), (e2, ai cI 8 (fun _ => 0)), (e3, ai cI 8 (fun _ => 0)), (e4, ai cI 8 (fun _ => 0)), (e5, ai cI 8 (fun _ => 0)), (e6, ai cI 80 (fun _ => 0))]) C hI (hi_X5_init_X5) tyX5_ok nmX5 0 rfl rfl 6 (by decide) (by decide +kernel) rfl rfl (tyX5_ok 6 (by decide)) rfl rfl (Nat.le_of_ble_eq_true rfl) rfl dX5_init_49 ?_
  refine z_aload_n (i := 0) C dX5_init_52 rfl rfl ?_
  refine z_bipush (v := iI 80) C dX5_init_53 (by decide) ?_
  refine z_newint C 0 80 (by decide +kernel) (zT_of hE rfl) rfl (Nat.le_of_ble_eq_true rfl) (Nat.le_of_ble_eq_true rfl) (Nat.le_of_ble_eq_true rfl) dX5_init_55 (fun e7 => ?_)
  refine (show zG E Q (0 + 1 + 1 + 1 + 1 + 1 + 1 + 1) (0 + 8 + 8 + 8 + 8 + 8 + 80 + 80) [(r, .inr (5, [.ref e1, .int (iI 0), .ref e2, .ref e3, .ref e4, .ref e5, .ref e6, .null, .null, .int (iI 0), .int (iI 0), .null, .null, .null, .null, .null, .int (iI 0), .int (iI 0), .null, .int (iI 0)])), (e1, ai cI 8 (fun _ => 0)), (e2, ai cI 8 (fun _ => 0)), (e3, ai cI 8 (fun _ => 0)), (e4, ai cI 8 (fun _ => 0)), (e5, ai cI 8 (fun _ => 0)), (e6, ai cI 80 (fun _ => 0)), (e7, ai cI 80 (fun _ => 0))] [some (.ref r)] 57 [.ref e7, .ref r] from ?_)
  refine z_putF (ci := 5) (ws' := [(r, .inr (5, [.ref e1, .int (iI 0), .ref e2, .ref e3, .ref e4, .ref e5, .ref e6, .ref e7, .null, .int (iI 0), .int (iI 0), .null, .null, .null, .null, .null, .int (iI 0), .int (iI 0), .null, .int (iI 0)])), (e1, ai cI 8 (fun _ => 0)), (e2, ai cI 8 (fun _ => 0)), (e3, ai cI 8 (fun _ => 0)), (e4, ai cI 8 (fun _ => 0)), (e5, ai cI 8 (fun _ => 0)), (e6, ai cI 80 (fun _ => 0)), (e7, ai cI 80 (fun _ => 0))]) C hI (hi_X5_init_X5) tyX5_ok nmX5 0 rfl rfl 7 (by decide) (by decide +kernel) rfl rfl (tyX5_ok 7 (by decide)) rfl rfl (Nat.le_of_ble_eq_true rfl) rfl dX5_init_57 ?_
  refine z_aload_n (i := 0) C dX5_init_60 rfl rfl ?_
  refine z_bipush (v := iI 80) C dX5_init_61 (by decide) ?_
  refine z_newint C 0 80 (by decide +kernel) (zT_of hE rfl) rfl (Nat.le_of_ble_eq_true rfl) (Nat.le_of_ble_eq_true rfl) (Nat.le_of_ble_eq_true rfl) dX5_init_63 (fun e8 => ?_)
  refine (show zG E Q (0 + 1 + 1 + 1 + 1 + 1 + 1 + 1 + 1) (0 + 8 + 8 + 8 + 8 + 8 + 80 + 80 + 80) [(r, .inr (5, [.ref e1, .int (iI 0), .ref e2, .ref e3, .ref e4, .ref e5, .ref e6, .ref e7, .null, .int (iI 0), .int (iI 0), .null, .null, .null, .null, .null, .int (iI 0), .int (iI 0), .null, .int (iI 0)])), (e1, ai cI 8 (fun _ => 0)), (e2, ai cI 8 (fun _ => 0)), (e3, ai cI 8 (fun _ => 0)), (e4, ai cI 8 (fun _ => 0)), (e5, ai cI 8 (fun _ => 0)), (e6, ai cI 80 (fun _ => 0)), (e7, ai cI 80 (fun _ => 0)), (e8, ai cI 80 (fun _ => 0))] [some (.ref r)] 65 [.ref e8, .ref r] from ?_)
  refine z_putF (ci := 5) (ws' := [(r, .inr (5, [.ref e1, .int (iI 0), .ref e2, .ref e3, .ref e4, .ref e5, .ref e6, .ref e7, .ref e8, .int (iI 0), .int (iI 0), .null, .null, .null, .null, .null, .int (iI 0), .int (iI 0), .null, .int (iI 0)])), (e1, ai cI 8 (fun _ => 0)), (e2, ai cI 8 (fun _ => 0)), (e3, ai cI 8 (fun _ => 0)), (e4, ai cI 8 (fun _ => 0)), (e5, ai cI 8 (fun _ => 0)), (e6, ai cI 80 (fun _ => 0)), (e7, ai cI 80 (fun _ => 0)), (e8, ai cI 80 (fun _ => 0))]) C hI (hi_X5_init_X5) tyX5_ok nmX5 0 rfl rfl 8 (by decide) (by decide +kernel) rfl rfl (tyX5_ok 8 (by decide)) rfl rfl (Nat.le_of_ble_eq_true rfl) rfl dX5_init_65 ?_
  refine z_aload_n (i := 0) C dX5_init_68 rfl rfl ?_
  refine z_bipush (v := iI 6) C dX5_init_69 (by decide) ?_
  refine z_newint C 0 6 (by decide +kernel) (zT_of hE rfl) rfl (Nat.le_of_ble_eq_true rfl) (Nat.le_of_ble_eq_true rfl) (Nat.le_of_ble_eq_true rfl) dX5_init_71 (fun e9 => ?_)
  refine (show zG E Q (0 + 1 + 1 + 1 + 1 + 1 + 1 + 1 + 1 + 1) (0 + 8 + 8 + 8 + 8 + 8 + 80 + 80 + 80 + 6) [(r, .inr (5, [.ref e1, .int (iI 0), .ref e2, .ref e3, .ref e4, .ref e5, .ref e6, .ref e7, .ref e8, .int (iI 0), .int (iI 0), .null, .null, .null, .null, .null, .int (iI 0), .int (iI 0), .null, .int (iI 0)])), (e1, ai cI 8 (fun _ => 0)), (e2, ai cI 8 (fun _ => 0)), (e3, ai cI 8 (fun _ => 0)), (e4, ai cI 8 (fun _ => 0)), (e5, ai cI 8 (fun _ => 0)), (e6, ai cI 80 (fun _ => 0)), (e7, ai cI 80 (fun _ => 0)), (e8, ai cI 80 (fun _ => 0)), (e9, ai cI 6 (fun _ => 0))] [some (.ref r)] 73 [.ref e9, .ref r] from ?_)
  refine z_putF (ci := 5) (ws' := [(r, .inr (5, [.ref e1, .int (iI 0), .ref e2, .ref e3, .ref e4, .ref e5, .ref e6, .ref e7, .ref e8, .int (iI 0), .int (iI 0), .ref e9, .null, .null, .null, .null, .int (iI 0), .int (iI 0), .null, .int (iI 0)])), (e1, ai cI 8 (fun _ => 0)), (e2, ai cI 8 (fun _ => 0)), (e3, ai cI 8 (fun _ => 0)), (e4, ai cI 8 (fun _ => 0)), (e5, ai cI 8 (fun _ => 0)), (e6, ai cI 80 (fun _ => 0)), (e7, ai cI 80 (fun _ => 0)), (e8, ai cI 80 (fun _ => 0)), (e9, ai cI 6 (fun _ => 0))]) C hI (hi_X5_init_X5) tyX5_ok nmX5 0 rfl rfl 11 (by decide) (by decide +kernel) rfl rfl (tyX5_ok 11 (by decide)) rfl rfl (Nat.le_of_ble_eq_true rfl) rfl dX5_init_73 ?_
  refine z_aload_n (i := 0) C dX5_init_76 rfl rfl ?_
  refine z_bipush (v := iI 32) C dX5_init_77 (by decide) ?_
  refine z_newint C 0 32 (by decide +kernel) (zT_of hE rfl) rfl (Nat.le_of_ble_eq_true rfl) (Nat.le_of_ble_eq_true rfl) (Nat.le_of_ble_eq_true rfl) dX5_init_79 (fun e10 => ?_)
  refine (show zG E Q (0 + 1 + 1 + 1 + 1 + 1 + 1 + 1 + 1 + 1 + 1) (0 + 8 + 8 + 8 + 8 + 8 + 80 + 80 + 80 + 6 + 32) [(r, .inr (5, [.ref e1, .int (iI 0), .ref e2, .ref e3, .ref e4, .ref e5, .ref e6, .ref e7, .ref e8, .int (iI 0), .int (iI 0), .ref e9, .null, .null, .null, .null, .int (iI 0), .int (iI 0), .null, .int (iI 0)])), (e1, ai cI 8 (fun _ => 0)), (e2, ai cI 8 (fun _ => 0)), (e3, ai cI 8 (fun _ => 0)), (e4, ai cI 8 (fun _ => 0)), (e5, ai cI 8 (fun _ => 0)), (e6, ai cI 80 (fun _ => 0)), (e7, ai cI 80 (fun _ => 0)), (e8, ai cI 80 (fun _ => 0)), (e9, ai cI 6 (fun _ => 0)), (e10, ai cI 32 (fun _ => 0))] [some (.ref r)] 81 [.ref e10, .ref r] from ?_)
  refine z_putF (ci := 5) (ws' := [(r, .inr (5, [.ref e1, .int (iI 0), .ref e2, .ref e3, .ref e4, .ref e5, .ref e6, .ref e7, .ref e8, .int (iI 0), .int (iI 0), .ref e9, .ref e10, .null, .null, .null, .int (iI 0), .int (iI 0), .null, .int (iI 0)])), (e1, ai cI 8 (fun _ => 0)), (e2, ai cI 8 (fun _ => 0)), (e3, ai cI 8 (fun _ => 0)), (e4, ai cI 8 (fun _ => 0)), (e5, ai cI 8 (fun _ => 0)), (e6, ai cI 80 (fun _ => 0)), (e7, ai cI 80 (fun _ => 0)), (e8, ai cI 80 (fun _ => 0)), (e9, ai cI 6 (fun _ => 0)), (e10, ai cI 32 (fun _ => 0))]) C hI (hi_X5_init_X5) tyX5_ok nmX5 0 rfl rfl 12 (by decide) (by decide +kernel) rfl rfl (tyX5_ok 12 (by decide)) rfl rfl (Nat.le_of_ble_eq_true rfl) rfl dX5_init_81 ?_
  refine z_aload_n (i := 0) C dX5_init_84 rfl rfl ?_
  refine z_bipush (v := iI 32) C dX5_init_85 (by decide) ?_
  refine z_newint C 0 32 (by decide +kernel) (zT_of hE rfl) rfl (Nat.le_of_ble_eq_true rfl) (Nat.le_of_ble_eq_true rfl) (Nat.le_of_ble_eq_true rfl) dX5_init_87 (fun e11 => ?_)
  refine (show zG E Q (0 + 1 + 1 + 1 + 1 + 1 + 1 + 1 + 1 + 1 + 1 + 1) (0 + 8 + 8 + 8 + 8 + 8 + 80 + 80 + 80 + 6 + 32 + 32) [(r, .inr (5, [.ref e1, .int (iI 0), .ref e2, .ref e3, .ref e4, .ref e5, .ref e6, .ref e7, .ref e8, .int (iI 0), .int (iI 0), .ref e9, .ref e10, .null, .null, .null, .int (iI 0), .int (iI 0), .null, .int (iI 0)])), (e1, ai cI 8 (fun _ => 0)), (e2, ai cI 8 (fun _ => 0)), (e3, ai cI 8 (fun _ => 0)), (e4, ai cI 8 (fun _ => 0)), (e5, ai cI 8 (fun _ => 0)), (e6, ai cI 80 (fun _ => 0)), (e7, ai cI 80 (fun _ => 0)), (e8, ai cI 80 (fun _ => 0)), (e9, ai cI 6 (fun _ => 0)), (e10, ai cI 32 (fun _ => 0)), (e11, ai cI 32 (fun _ => 0))] [some (.ref r)] 89 [.ref e11, .ref r] from ?_)
  refine z_putF (ci := 5) (ws' := [(r, .inr (5, [.ref e1, .int (iI 0), .ref e2, .ref e3, .ref e4, .ref e5, .ref e6, .ref e7, .ref e8, .int (iI 0), .int (iI 0), .ref e9, .ref e10, .ref e11, .null, .null, .int (iI 0), .int (iI 0), .null, .int (iI 0)])), (e1, ai cI 8 (fun _ => 0)), (e2, ai cI 8 (fun _ => 0)), (e3, ai cI 8 (fun _ => 0)), (e4, ai cI 8 (fun _ => 0)), (e5, ai cI 8 (fun _ => 0)), (e6, ai cI 80 (fun _ => 0)), (e7, ai cI 80 (fun _ => 0)), (e8, ai cI 80 (fun _ => 0)), (e9, ai cI 6 (fun _ => 0)), (e10, ai cI 32 (fun _ => 0)), (e11, ai cI 32 (fun _ => 0))]) C hI (hi_X5_init_X5) tyX5_ok nmX5 0 rfl rfl 13 (by decide) (by decide +kernel) rfl rfl (tyX5_ok 13 (by decide)) rfl rfl (Nat.le_of_ble_eq_true rfl) rfl dX5_init_89 ?_
  refine z_aload_n (i := 0) C dX5_init_92 rfl rfl ?_
  refine z_bipush (v := iI 32) C dX5_init_93 (by decide) ?_
  refine z_newint C 0 32 (by decide +kernel) (zT_of hE rfl) rfl (Nat.le_of_ble_eq_true rfl) (Nat.le_of_ble_eq_true rfl) (Nat.le_of_ble_eq_true rfl) dX5_init_95 (fun e12 => ?_)
  refine (show zG E Q (0 + 1 + 1 + 1 + 1 + 1 + 1 + 1 + 1 + 1 + 1 + 1 + 1) (0 + 8 + 8 + 8 + 8 + 8 + 80 + 80 + 80 + 6 + 32 + 32 + 32) [(r, .inr (5, [.ref e1, .int (iI 0), .ref e2, .ref e3, .ref e4, .ref e5, .ref e6, .ref e7, .ref e8, .int (iI 0), .int (iI 0), .ref e9, .ref e10, .ref e11, .null, .null, .int (iI 0), .int (iI 0), .null, .int (iI 0)])), (e1, ai cI 8 (fun _ => 0)), (e2, ai cI 8 (fun _ => 0)), (e3, ai cI 8 (fun _ => 0)), (e4, ai cI 8 (fun _ => 0)), (e5, ai cI 8 (fun _ => 0)), (e6, ai cI 80 (fun _ => 0)), (e7, ai cI 80 (fun _ => 0)), (e8, ai cI 80 (fun _ => 0)), (e9, ai cI 6 (fun _ => 0)), (e10, ai cI 32 (fun _ => 0)), (e11, ai cI 32 (fun _ => 0)), (e12, ai cI 32 (fun _ => 0))] [some (.ref r)] 97 [.ref e12, .ref r] from ?_)
  refine z_putF (ci := 5) (ws' := [(r, .inr (5, [.ref e1, .int (iI 0), .ref e2, .ref e3, .ref e4, .ref e5, .ref e6, .ref e7, .ref e8, .int (iI 0), .int (iI 0), .ref e9, .ref e10, .ref e11, .ref e12, .null, .int (iI 0), .int (iI 0), .null, .int (iI 0)])), (e1, ai cI 8 (fun _ => 0)), (e2, ai cI 8 (fun _ => 0)), (e3, ai cI 8 (fun _ => 0)), (e4, ai cI 8 (fun _ => 0)), (e5, ai cI 8 (fun _ => 0)), (e6, ai cI 80 (fun _ => 0)), (e7, ai cI 80 (fun _ => 0)), (e8, ai cI 80 (fun _ => 0)), (e9, ai cI 6 (fun _ => 0)), (e10, ai cI 32 (fun _ => 0)), (e11, ai cI 32 (fun _ => 0)), (e12, ai cI 32 (fun _ => 0))]) C hI (hi_X5_init_X5) tyX5_ok nmX5 0 rfl rfl 14 (by decide) (by decide +kernel) rfl rfl (tyX5_ok 14 (by decide)) rfl rfl (Nat.le_of_ble_eq_true rfl) rfl dX5_init_97 ?_
  refine z_aload_n (i := 0) C dX5_init_100 rfl rfl ?_
  refine z_bipush (v := iI 32) C dX5_init_101 (by decide) ?_
  refine z_newint C 0 32 (by decide +kernel) (zT_of hE rfl) rfl (Nat.le_of_ble_eq_true rfl) (Nat.le_of_ble_eq_true rfl) (Nat.le_of_ble_eq_true rfl) dX5_init_103 (fun e13 => ?_)
  refine (show zG E Q (0 + 1 + 1 + 1 + 1 + 1 + 1 + 1 + 1 + 1 + 1 + 1 + 1 + 1) (0 + 8 + 8 + 8 + 8 + 8 + 80 + 80 + 80 + 6 + 32 + 32 + 32 + 32) [(r, .inr (5, [.ref e1, .int (iI 0), .ref e2, .ref e3, .ref e4, .ref e5, .ref e6, .ref e7, .ref e8, .int (iI 0), .int (iI 0), .ref e9, .ref e10, .ref e11, .ref e12, .null, .int (iI 0), .int (iI 0), .null, .int (iI 0)])), (e1, ai cI 8 (fun _ => 0)), (e2, ai cI 8 (fun _ => 0)), (e3, ai cI 8 (fun _ => 0)), (e4, ai cI 8 (fun _ => 0)), (e5, ai cI 8 (fun _ => 0)), (e6, ai cI 80 (fun _ => 0)), (e7, ai cI 80 (fun _ => 0)), (e8, ai cI 80 (fun _ => 0)), (e9, ai cI 6 (fun _ => 0)), (e10, ai cI 32 (fun _ => 0)), (e11, ai cI 32 (fun _ => 0)), (e12, ai cI 32 (fun _ => 0)), (e13, ai cI 32 (fun _ => 0))] [some (.ref r)] 105 [.ref e13, .ref r] from ?_)
  refine z_putF (ci := 5) (ws' := [(r, .inr (5, [.ref e1, .int (iI 0), .ref e2, .ref e3, .ref e4, .ref e5, .ref e6, .ref e7, .ref e8, .int (iI 0), .int (iI 0), .ref e9, .ref e10, .ref e11, .ref e12, .ref e13, .int (iI 0), .int (iI 0), .null, .int (iI 0)])), (e1, ai cI 8 (fun _ => 0)), (e2, ai cI 8 (fun _ => 0)), (e3, ai cI 8 (fun _ => 0)), (e4, ai cI 8 (fun _ => 0)), (e5, ai cI 8 (fun _ => 0)), (e6, ai cI 80 (fun _ => 0)), (e7, ai cI 80 (fun _ => 0)), (e8, ai cI 80 (fun _ => 0)), (e9, ai cI 6 (fun _ => 0)), (e10, ai cI 32 (fun _ => 0)), (e11, ai cI 32 (fun _ => 0)), (e12, ai cI 32 (fun _ => 0)), (e13, ai cI 32 (fun _ => 0))]) C hI (hi_X5_init_X5) tyX5_ok nmX5 0 rfl rfl 15 (by decide) (by decide +kernel) rfl rfl (tyX5_ok 15 (by decide)) rfl rfl (Nat.le_of_ble_eq_true rfl) rfl dX5_init_105 ?_
  refine z_aload_n (i := 0) C dX5_init_108 rfl rfl ?_
  refine z_sipush (v := iI 201) C dX5_init_109 (by decide) ?_
  refine z_newint C 0 201 (by decide +kernel) (zT_of hE rfl) rfl (Nat.le_of_ble_eq_true rfl) (Nat.le_of_ble_eq_true rfl) (Nat.le_of_ble_eq_true rfl) dX5_init_112 (fun e14 => ?_)
  refine (show zG E Q (0 + 1 + 1 + 1 + 1 + 1 + 1 + 1 + 1 + 1 + 1 + 1 + 1 + 1 + 1) (0 + 8 + 8 + 8 + 8 + 8 + 80 + 80 + 80 + 6 + 32 + 32 + 32 + 32 + 201) [(r, .inr (5, [.ref e1, .int (iI 0), .ref e2, .ref e3, .ref e4, .ref e5, .ref e6, .ref e7, .ref e8, .int (iI 0), .int (iI 0), .ref e9, .ref e10, .ref e11, .ref e12, .ref e13, .int (iI 0), .int (iI 0), .null, .int (iI 0)])), (e1, ai cI 8 (fun _ => 0)), (e2, ai cI 8 (fun _ => 0)), (e3, ai cI 8 (fun _ => 0)), (e4, ai cI 8 (fun _ => 0)), (e5, ai cI 8 (fun _ => 0)), (e6, ai cI 80 (fun _ => 0)), (e7, ai cI 80 (fun _ => 0)), (e8, ai cI 80 (fun _ => 0)), (e9, ai cI 6 (fun _ => 0)), (e10, ai cI 32 (fun _ => 0)), (e11, ai cI 32 (fun _ => 0)), (e12, ai cI 32 (fun _ => 0)), (e13, ai cI 32 (fun _ => 0)), (e14, ai cI 201 (fun _ => 0))] [some (.ref r)] 114 [.ref e14, .ref r] from ?_)
  refine z_putF (ci := 5) (ws' := [(r, .inr (5, [.ref e1, .int (iI 0), .ref e2, .ref e3, .ref e4, .ref e5, .ref e6, .ref e7, .ref e8, .int (iI 0), .int (iI 0), .ref e9, .ref e10, .ref e11, .ref e12, .ref e13, .int (iI 0), .int (iI 0), .ref e14, .int (iI 0)])), (e1, ai cI 8 (fun _ => 0)), (e2, ai cI 8 (fun _ => 0)), (e3, ai cI 8 (fun _ => 0)), (e4, ai cI 8 (fun _ => 0)), (e5, ai cI 8 (fun _ => 0)), (e6, ai cI 80 (fun _ => 0)), (e7, ai cI 80 (fun _ => 0)), (e8, ai cI 80 (fun _ => 0)), (e9, ai cI 6 (fun _ => 0)), (e10, ai cI 32 (fun _ => 0)), (e11, ai cI 32 (fun _ => 0)), (e12, ai cI 32 (fun _ => 0)), (e13, ai cI 32 (fun _ => 0)), (e14, ai cI 201 (fun _ => 0))]) C hI (hi_X5_init_X5) tyX5_ok nmX5 0 rfl rfl 18 (by decide) (by decide +kernel) rfl rfl (tyX5_ok 18 (by decide)) rfl rfl (Nat.le_of_ble_eq_true rfl) rfl dX5_init_114 ?_
  exact z_vret C hR dX5_init_117 (Nat.le_of_ble_eq_true rfl) (Nat.le_of_ble_eq_true rfl) (⟨rfl, e1, e2, e3, e4, e5, e6, e7, e8, e9, e10, e11, e12, e13, e14, rfl⟩)
