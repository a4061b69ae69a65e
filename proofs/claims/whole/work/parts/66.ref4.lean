/-! THE REFERENCE: layers, kinds, the fewest pieces, the least rest. -/
theorem hi_X5_layersOf_X5 : ∀ w ∈ wsX50, w ∈ wsX5_layersOf := by decide +kernel
set_option maxHeartbeats 1000000 in
set_option maxRecDepth 100000 in
theorem k_rlayersOf (l : Launch) (D : va_G) (cI cZ cM cL : ClassId) (r e1 e2 e3 e4 e5 e6 e7 e8 e9 e10 e11 e12 e13 e14 : Nat) (n : Nat) (L : Int) (d : Int32) (sz mo th : Int) (ND US KN : Int → Int32) (AU LE SN KK AT LF PL HE TU MA CU : Int → Int) (i0 : Int) (hi0 : 0 ≤ i0 ∧ i0 < 8) (hlen : 2 ≤ LE i0 ∧ LE i0 ≤ 32) (hsn : 0 ≤ SN i0 ∧ SN i0 ≤ 10) (hst : stV (LE i0) (SN i0) (row AT i0) (row LF i0)) : zN l yX5_layersOf wsX5_layersOf { frames := 3, cells := 0, slots := 0, locals := 74 } D (zTy cI cZ cM cL) [.ref r, .int (iI i0)] (rfW cI r e1 e2 e3 e4 e5 e6 e7 e8 e9 e10 e11 e12 e13 e14 n L d sz mo th ND US KN AU LE SN KK AT LF PL HE TU MA CU) (fun r9 w => r9 = some (.int (iI (mxC (fun k => cnt (gP (LE i0) (row AT i0) (row LF i0) (SN i0).toNat) k (LE i0).toNat) (gS (LE i0) (row AT i0) (SN i0).toNat).toNat))) ∧ ∃ (P1 H1 T1 M1 : Int → Int), w = (rfW cI r e1 e2 e3 e4 e5 e6 e7 e8 e9 e10 e11 e12 e13 e14 n L d (gS (LE i0) (row AT i0) (SN i0).toNat) (mst (LE i0) (row AT i0) (row LF i0) (SN i0).toNat) th ND US KN AU LE SN KK AT LF P1 H1 T1 M1 CU)) 0 0 := by
  refine zN_of (cc := cX5_layersOf) (maxL := 4) (lv0 := [some (.ref r), some (.int (iI i0)), none, none]) (by decide) rfl rfl (Nat.le_of_ble_eq_true rfl) rfl ?_
  intro E Q C hE hR hI0
  refine (show zG E Q 0 0 [(r, .inr (5, [.ref e1, .int (iI (↑n)), .ref e2, .ref e3, .ref e4, .ref e5, .ref e6, .ref e7, .ref e8, .int (iI L), .int d, .ref e9, .ref e10, .ref e11, .ref e12, .ref e13, .int (iI sz), .int (iI mo), .ref e14, .int (iI th)])), (e1, ar cI 8 ND), (e2, ai cI 8 AU), (e3, ai cI 8 LE), (e4, ai cI 8 SN), (e5, ar cI 8 US), (e6, ai cI 80 KK), (e7, ai cI 80 AT), (e8, ai cI 80 LF), (e9, ar cI 6 KN), (e10, ai cI 32 PL), (e11, ai cI 32 HE), (e12, ai cI 32 TU), (e13, ai cI 32 MA), (e14, ai cI 201 CU)] [some (.ref r), some (.int (iI i0)), none, none] 0 [] from ?_)
  have LQ : ∀ (P1 H1 T1 M1 : Int → Int), (∀ k : Int, 0 ≤ k → k < 32 → M1 k = cnt (gP (LE i0) (row AT i0) (row LF i0) (SN i0).toNat) k (LE i0).toNat) → ∀ (z j : Nat), j ≤ (gS (LE i0) (row AT i0) (SN i0).toNat).toNat → (gS (LE i0) (row AT i0) (SN i0).toNat).toNat - j < z → zG E Q 0 0 [(r, .inr (5, [.ref e1, .int (iI (↑n)), .ref e2, .ref e3, .ref e4, .ref e5, .ref e6, .ref e7, .ref e8, .int (iI L), .int d, .ref e9, .ref e10, .ref e11, .ref e12, .ref e13, .int (iI (gS (LE i0) (row AT i0) (SN i0).toNat)), .int (iI (mst (LE i0) (row AT i0) (row LF i0) (SN i0).toNat)), .ref e14, .int (iI th)])), (e1, ar cI 8 ND), (e2, ai cI 8 AU), (e3, ai cI 8 LE), (e4, ai cI 8 SN), (e5, ar cI 8 US), (e6, ai cI 80 KK), (e7, ai cI 80 AT), (e8, ai cI 80 LF), (e9, ar cI 6 KN), (e10, ai cI 32 P1), (e11, ai cI 32 H1), (e12, ai cI 32 T1), (e13, ai cI 32 M1), (e14, ai cI 201 CU)] [some (.ref r), some (.int (iI i0)), some (.int (iI (mxC M1 j))), some (.int (iI ↑j))] 9 [] := by
    intro P1 H1 T1 M1 hM9
    have hS9 := stV_gS hst (by omega) (SN i0).toNat (by omega)
    have lp : ∀ (z : Nat) (j : Nat), j ≤ (gS (LE i0) (row AT i0) (SN i0).toNat).toNat → (gS (LE i0) (row AT i0) (SN i0).toNat).toNat - j < z → zG E Q (0) (0) [(r, .inr (5, [.ref e1, .int (iI (↑n)), .ref e2, .ref e3, .ref e4, .ref e5, .ref e6, .ref e7, .ref e8, .int (iI L), .int d, .ref e9, .ref e10, .ref e11, .ref e12, .ref e13, .int (iI (gS (LE i0) (row AT i0) (SN i0).toNat)), .int (iI (mst (LE i0) (row AT i0) (row LF i0) (SN i0).toNat)), .ref e14, .int (iI th)])), (e1, ar cI 8 ND), (e2, ai cI 8 AU), (e3, ai cI 8 LE), (e4, ai cI 8 SN), (e5, ar cI 8 US), (e6, ai cI 80 KK), (e7, ai cI 80 AT), (e8, ai cI 80 LF), (e9, ar cI 6 KN), (e10, ai cI 32 P1), (e11, ai cI 32 H1), (e12, ai cI 32 T1), (e13, ai cI 32 M1), (e14, ai cI 201 CU)] [some (.ref r), some (.int (iI i0)), some (.int (iI (mxC M1 j))), some (.int (iI ↑j))] 9 [] := by
      intro z
      induction z with
      | zero => intro j hj hjn; omega
      | succ z ih =>
        intro j hj hjn
        refine z_iload_n (i := 3) C dX5_layersOf_9 rfl rfl ?_
        refine z_aload_n (i := 0) C dX5_layersOf_10 rfl rfl ?_
        refine z_get (ci := 5) C (hi_X5_layersOf_X5) 0 rfl rfl 16 (by decide) (by decide +kernel) rfl dX5_layersOf_11 ?_
        refine z_icmp_geI (tgt := 44) C dX5_layersOf_14 (by decide) ⟨by omega, by omega⟩ ⟨by omega, by omega⟩ (fun hk => ?_) (fun hk => ?_)
        · refine z_iload_n (i := 2) C dX5_layersOf_44 rfl rfl ?_
          exact z_iret C hR dX5_layersOf_45 (Nat.le_of_ble_eq_true rfl) (Nat.le_of_ble_eq_true rfl) (⟨by rw [← mxC_c2 (f := M1) (gS (LE i0) (row AT i0) (SN i0).toNat).toNat (fun k a b => hM9 k a (by omega)), show (gS (LE i0) (row AT i0) (SN i0).toNat).toNat = j by omega], P1, H1, T1, M1, rfl⟩)
        · have hc9 := hM9 ↑j (by omega) (by omega)
          have hr9 := cnt_r (Pl := gP (LE i0) (row AT i0) (row LF i0) (SN i0).toNat) (k := ↑j) (LE i0).toNat
          have hm9 := mxC_r (f := M1) (B := 32) (by omega) j (fun k a b => by rw [hM9 k a (by omega)]; have := cnt_r (Pl := gP (LE i0) (row AT i0) (row LF i0) (SN i0).toNat) (k := k) (LE i0).toNat; omega)
          refine z_aload_n (i := 0) C dX5_layersOf_17 rfl rfl ?_
          refine z_get (ci := 5) C (hi_X5_layersOf_X5) 0 rfl rfl 15 (by decide) (by decide +kernel) rfl dX5_layersOf_18 ?_
          refine z_iload_n (i := 3) C dX5_layersOf_21 rfl rfl ?_
          refine z_ialoadI 13 (he := rfl) C (zT_of hE (t0 := 0) rfl) (by omega) (by omega) (by decide) dX5_layersOf_22 ?_
          refine z_iload_n (i := 2) C dX5_layersOf_23 rfl rfl ?_
          refine z_icmp_leI (tgt := 36) C dX5_layersOf_24 (by decide) ⟨by omega, by omega⟩ ⟨by omega, by omega⟩ (fun hv => ?_) (fun hv => ?_)
          · refine z_iload_n (i := 2) C dX5_layersOf_36 rfl rfl ?_
            refine z_istore_n (i := 2) (lv' := [some (.ref r), some (.int (iI i0)), some (.int (iI (mxC M1 j))), some (.int (iI ↑j))]) C dX5_layersOf_37 rfl rfl rfl ?_
            refine z_iincI (v := ↑(j + 1)) (lv' := [some (.ref r), some (.int (iI i0)), some (.int (iI (mxC M1 j))), some (.int (iI (↑(j + 1))))]) C dX5_layersOf_38 rfl (by omega) rfl ?_
            refine z_goto (tgt := 9) C dX5_layersOf_41 (by decide) ?_
            have e1 : (mxC M1 j) = mxC M1 (j + 1) := by show _ = max (mxC M1 j) (M1 ↑j); omega
            rw [e1]
            exact ih (j + 1) (by omega) (by omega)
          · refine z_aload_n (i := 0) C dX5_layersOf_27 rfl rfl ?_
            refine z_get (ci := 5) C (hi_X5_layersOf_X5) 0 rfl rfl 15 (by decide) (by decide +kernel) rfl dX5_layersOf_28 ?_
            refine z_iload_n (i := 3) C dX5_layersOf_31 rfl rfl ?_
            refine z_ialoadI 13 (he := rfl) C (zT_of hE (t0 := 0) rfl) (by omega) (by omega) (by decide) dX5_layersOf_32 ?_
            refine z_goto (tgt := 37) C dX5_layersOf_33 (by decide) ?_
            refine z_istore_n (i := 2) (lv' := [some (.ref r), some (.int (iI i0)), some (.int (iI (M1 (↑j)))), some (.int (iI ↑j))]) C dX5_layersOf_37 rfl rfl rfl ?_
            refine z_iincI (v := ↑(j + 1)) (lv' := [some (.ref r), some (.int (iI i0)), some (.int (iI (M1 (↑j)))), some (.int (iI (↑(j + 1))))]) C dX5_layersOf_38 rfl (by omega) rfl ?_
            refine z_goto (tgt := 9) C dX5_layersOf_41 (by decide) ?_
            have e1 : (M1 (↑j)) = mxC M1 (j + 1) := by show _ = max (mxC M1 j) (M1 ↑j); omega
            rw [e1]
            exact ih (j + 1) (by omega) (by omega)
    exact lp
  refine z_aload_n (i := 0) C dX5_layersOf_0 rfl rfl ?_
  refine z_iload_n (i := 1) C dX5_layersOf_1 rfl rfl ?_
  refine z_callV (n := 1) (As := [.int (iI i0)]) (st := []) (fr := []) C hE (k_rfolds l D cI cZ cM cL r e1 e2 e3 e4 e5 e6 e7 e8 e9 e10 e11 e12 e13 e14 n L d sz mo th ND US KN AU LE SN KK AT LF PL HE TU MA CU i0 hi0 hlen hsn hst) gX5_layersOf_X5_folds rfl ⟨rfl, rfl⟩ (by decide +kernel) ⟨Nat.le_of_ble_eq_true rfl, Nat.le_of_ble_eq_true rfl⟩ rfl rfl (by rw [List.append_nil]) 0 rfl rfl rfl (Nat.le_of_ble_eq_true rfl) ⟨Nat.le_of_ble_eq_true rfl, Nat.le_of_ble_eq_true rfl⟩ dX5_layersOf_2 (fun r w1 hpo => ?_)
  obtain ⟨rfl, P1, H1, T1, M1, rfl, hA9, hM9⟩ := hpo
  have hS9 := stV_gS hst (by omega) (SN i0).toNat (by omega)
  rw [List.append_nil]
  refine (show zG E Q (0) (0) [(r, .inr (5, [.ref e1, .int (iI (↑n)), .ref e2, .ref e3, .ref e4, .ref e5, .ref e6, .ref e7, .ref e8, .int (iI L), .int d, .ref e9, .ref e10, .ref e11, .ref e12, .ref e13, .int (iI (gS (LE i0) (row AT i0) (SN i0).toNat)), .int (iI (mst (LE i0) (row AT i0) (row LF i0) (SN i0).toNat)), .ref e14, .int (iI th)])), (e1, ar cI 8 ND), (e2, ai cI 8 AU), (e3, ai cI 8 LE), (e4, ai cI 8 SN), (e5, ar cI 8 US), (e6, ai cI 80 KK), (e7, ai cI 80 AT), (e8, ai cI 80 LF), (e9, ar cI 6 KN), (e10, ai cI 32 P1), (e11, ai cI 32 H1), (e12, ai cI 32 T1), (e13, ai cI 32 M1), (e14, ai cI 201 CU)] [some (.ref r), some (.int (iI i0)), none, none] 5 [] from ?_)
  refine z_iconst (v := iI 0) C dX5_layersOf_5 rfl ?_
  refine z_istore_n (i := 2) (lv' := [some (.ref r), some (.int (iI i0)), some (.int (iI 0)), none]) C dX5_layersOf_6 rfl rfl rfl ?_
  refine z_iconst (v := iI 0) C dX5_layersOf_7 rfl ?_
  refine z_istore_n (i := 3) (lv' := [some (.ref r), some (.int (iI i0)), some (.int (iI 0)), some (.int (iI 0))]) C dX5_layersOf_8 rfl rfl rfl ?_
  have lq := LQ P1 H1 T1 M1 hM9 ((gS (LE i0) (row AT i0) (SN i0).toNat).toNat + 1) 0 (by omega) (by omega)
  exact lq
theorem hi_X5_kindsFor_X5 : ∀ w ∈ wsX50, w ∈ wsX5_kindsFor := by decide +kernel
set_option maxHeartbeats 1000000 in
set_option maxRecDepth 100000 in
theorem k_rkindsFor (l : Launch) (D : va_G) (cI cZ cM cL : ClassId) (r e1 e2 e3 e4 e5 e6 e7 e8 e9 e10 e11 e12 e13 e14 : Nat) (n : Nat) (L : Int) (d : Int32) (sz mo th : Int) (ND US KN : Int → Int32) (AU LE SN KK AT LF PL HE TU MA CU : Int → Int) (i0 : Int) (hn : n ≤ 8) (hz : ∀ k : Int, n ≤ k → k < 8 → US k = 0) (hsn : ∀ i : Int, 0 ≤ i → i < n → 0 ≤ SN i ∧ SN i ≤ 10) : zN l yX5_kindsFor wsX5_kindsFor { frames := 1, cells := 0, slots := 0, locals := 24 } D (zTy cI cZ cM cL) [.ref r, .int (iI i0)] (rfW cI r e1 e2 e3 e4 e5 e6 e7 e8 e9 e10 e11 e12 e13 e14 n L d sz mo th ND US KN AU LE SN KK AT LF PL HE TU MA CU) (fun r9 w => r9 = some (.int (kcB (fun k : Nat => rv AU LE SN KK AT LF k) (mcB US i0) n)) ∧ w = (rfW cI r e1 e2 e3 e4 e5 e6 e7 e8 e9 e10 e11 e12 e13 e14 n L d sz mo th ND US KN AU LE SN KK AT LF PL HE TU MA CU)) 0 0 := by
  refine zN_of (cc := cX5_kindsFor) (maxL := 4) (lv0 := [some (.ref r), some (.int (iI i0)), none, none]) (by decide) rfl rfl (Nat.le_of_ble_eq_true rfl) rfl ?_
  intro E Q C hE hR hI0
  refine (show zG E Q 0 0 [(r, .inr (5, [.ref e1, .int (iI (↑n)), .ref e2, .ref e3, .ref e4, .ref e5, .ref e6, .ref e7, .ref e8, .int (iI L), .int d, .ref e9, .ref e10, .ref e11, .ref e12, .ref e13, .int (iI sz), .int (iI mo), .ref e14, .int (iI th)])), (e1, ar cI 8 ND), (e2, ai cI 8 AU), (e3, ai cI 8 LE), (e4, ai cI 8 SN), (e5, ar cI 8 US), (e6, ai cI 80 KK), (e7, ai cI 80 AT), (e8, ai cI 80 LF), (e9, ar cI 6 KN), (e10, ai cI 32 PL), (e11, ai cI 32 HE), (e12, ai cI 32 TU), (e13, ai cI 32 MA), (e14, ai cI 201 CU)] [some (.ref r), some (.int (iI i0)), none, none] 0 [] from ?_)
  have lp : ∀ (z : Nat) (j : Nat), j ≤ n → n - j < z → zG E Q (0) (0) [(r, .inr (5, [.ref e1, .int (iI (↑n)), .ref e2, .ref e3, .ref e4, .ref e5, .ref e6, .ref e7, .ref e8, .int (iI L), .int d, .ref e9, .ref e10, .ref e11, .ref e12, .ref e13, .int (iI sz), .int (iI mo), .ref e14, .int (iI th)])), (e1, ar cI 8 ND), (e2, ai cI 8 AU), (e3, ai cI 8 LE), (e4, ai cI 8 SN), (e5, ar cI 8 US), (e6, ai cI 80 KK), (e7, ai cI 80 AT), (e8, ai cI 80 LF), (e9, ar cI 6 KN), (e10, ai cI 32 PL), (e11, ai cI 32 HE), (e12, ai cI 32 TU), (e13, ai cI 32 MA), (e14, ai cI 201 CU)] [some (.ref r), some (.int (iI i0)), some (.int (kcB (fun k : Nat => rv AU LE SN KK AT LF k) (mcB US i0) j)), some (.int (iI ↑j))] 4 [] := by
    intro z
    induction z with
    | zero => intro j hj hjn; omega
    | succ z ih =>
      intro j hj hjn
      refine z_iload_n (i := 3) C dX5_kindsFor_4 rfl rfl ?_
      refine z_aload_n (i := 0) C dX5_kindsFor_5 rfl rfl ?_
      refine z_get (ci := 5) C (hi_X5_kindsFor_X5) 0 rfl rfl 1 (by decide) (by decide +kernel) rfl dX5_kindsFor_6 ?_
      refine z_icmp_geI (tgt := 43) C dX5_kindsFor_9 (by decide) ⟨by omega, by omega⟩ ⟨by omega, by omega⟩ (fun hk => ?_) (fun hk => ?_)
      · refine z_iload_n (i := 2) C dX5_kindsFor_43 rfl rfl ?_
        exact z_iret C hR dX5_kindsFor_44 (Nat.le_of_ble_eq_true rfl) (Nat.le_of_ble_eq_true rfl) (⟨by rw [show j = n by omega], rfl⟩)
      · refine z_iload_n (i := 2) C dX5_kindsFor_12 rfl rfl ?_
        refine z_aload_n (i := 0) C dX5_kindsFor_13 rfl rfl ?_
        refine z_iload_n (i := 1) C dX5_kindsFor_14 rfl rfl ?_
        refine z_callV (n := 1) (As := [.int (iI i0)]) (st := [.int (kcB (fun k : Nat => rv AU LE SN KK AT LF k) (mcB US i0) j)]) (fr := []) C hE (k_rused l D cI cZ cM cL r e1 e2 e3 e4 e5 e6 e7 e8 e9 e10 e11 e12 e13 e14 n L d sz mo th ND US KN AU LE SN KK AT LF PL HE TU MA CU i0 hn hz) gX5_kindsFor_X5_used rfl ⟨rfl, rfl⟩ (by decide +kernel) ⟨Nat.le_of_ble_eq_true rfl, Nat.le_of_ble_eq_true rfl⟩ rfl rfl (by rw [List.append_nil]) 0 rfl rfl rfl (Nat.le_of_ble_eq_true rfl) ⟨Nat.le_of_ble_eq_true rfl, Nat.le_of_ble_eq_true rfl⟩ dX5_kindsFor_15 (fun r w1 hpo => ?_)
        obtain ⟨rfl, rfl⟩ := hpo
        rw [List.append_nil]
        refine (show zG E Q (0) (0) [(r, .inr (5, [.ref e1, .int (iI (↑n)), .ref e2, .ref e3, .ref e4, .ref e5, .ref e6, .ref e7, .ref e8, .int (iI L), .int d, .ref e9, .ref e10, .ref e11, .ref e12, .ref e13, .int (iI sz), .int (iI mo), .ref e14, .int (iI th)])), (e1, ar cI 8 ND), (e2, ai cI 8 AU), (e3, ai cI 8 LE), (e4, ai cI 8 SN), (e5, ar cI 8 US), (e6, ai cI 80 KK), (e7, ai cI 80 AT), (e8, ai cI 80 LF), (e9, ar cI 6 KN), (e10, ai cI 32 PL), (e11, ai cI 32 HE), (e12, ai cI 32 TU), (e13, ai cI 32 MA), (e14, ai cI 201 CU)] [some (.ref r), some (.int (iI i0)), some (.int (kcB (fun k : Nat => rv AU LE SN KK AT LF k) (mcB US i0) j)), some (.int (iI ↑j))] 18 [.int (mcB US i0), .int (kcB (fun k : Nat => rv AU LE SN KK AT LF k) (mcB US i0) j)] from ?_)
        refine z_iload_n (i := 3) C dX5_kindsFor_18 rfl rfl ?_
        refine z_ishr C dX5_kindsFor_19 ?_
        refine z_iconst (v := iI 1) C dX5_kindsFor_20 rfl ?_
        refine z_iand C dX5_kindsFor_21 ?_
        refine z_iconst (v := iI 1) C dX5_kindsFor_22 rfl ?_
        refine z_icmp_ne (tgt := 34) C dX5_kindsFor_23 (by decide) (fun hv => ?_) (fun hv => ?_)
        · refine z_iconst (v := iI 0) C dX5_kindsFor_34 rfl ?_
          refine z_ior C dX5_kindsFor_35 ?_
          refine z_istore_n (i := 2) (lv' := [some (.ref r), some (.int (iI i0)), some (.int ((kcB (fun k : Nat => rv AU LE SN KK AT LF k) (mcB US i0) j) ||| (iI 0))), some (.int (iI ↑j))]) C dX5_kindsFor_36 rfl rfl rfl ?_
          refine z_iincI (v := ↑(j + 1)) (lv' := [some (.ref r), some (.int (iI i0)), some (.int ((kcB (fun k : Nat => rv AU LE SN KK AT LF k) (mcB US i0) j) ||| (iI 0))), some (.int (iI (↑(j + 1))))]) C dX5_kindsFor_37 rfl (by omega) rfl ?_
          refine z_goto (tgt := 4) C dX5_kindsFor_40 (by decide) ?_
          have e1 : ((kcB (fun k : Nat => rv AU LE SN KK AT LF k) (mcB US i0) j) ||| (iI 0)) = kcB (fun k : Nat => rv AU LE SN KK AT LF k) (mcB US i0) (j + 1) := by
            show _ = (if hb (mcB US i0) (iI ↑j) then kcB (fun k : Nat => rv AU LE SN KK AT LF k) (mcB US i0) j ||| okb (mK (rv AU LE SN KK AT LF ↑j)) (msn (rv AU LE SN KK AT LF ↑j)).toNat else kcB (fun k : Nat => rv AU LE SN KK AT LF k) (mcB US i0) j)
            first
              | (rw [if_pos (hb1.mp hv)]; rfl)
              | rw [if_neg (mt hb1.mpr hv), iI0, Int32.or_zero]
          rw [e1]
          exact ih (j + 1) (by omega) (by omega)
        · refine z_aload_n (i := 0) C dX5_kindsFor_26 rfl rfl ?_
          refine z_iload_n (i := 3) C dX5_kindsFor_27 rfl rfl ?_
          refine z_callV (n := 1) (As := [.int (iI ↑j)]) (st := [.int (kcB (fun k : Nat => rv AU LE SN KK AT LF k) (mcB US i0) j)]) (fr := []) C hE (k_rownKinds l D cI cZ cM cL r e1 e2 e3 e4 e5 e6 e7 e8 e9 e10 e11 e12 e13 e14 n L d sz mo th ND US KN AU LE SN KK AT LF PL HE TU MA CU ↑j ⟨by omega, by omega⟩ (hsn ↑j (by omega) (by omega))) gX5_kindsFor_X5_ownKinds rfl ⟨rfl, rfl⟩ (by decide +kernel) ⟨Nat.le_of_ble_eq_true rfl, Nat.le_of_ble_eq_true rfl⟩ rfl rfl (by rw [List.append_nil]) 0 rfl rfl rfl (Nat.le_of_ble_eq_true rfl) ⟨Nat.le_of_ble_eq_true rfl, Nat.le_of_ble_eq_true rfl⟩ dX5_kindsFor_28 (fun r w1 hpo => ?_)
          obtain ⟨rfl, rfl⟩ := hpo
          rw [List.append_nil]
          refine (show zG E Q (0) (0) [(r, .inr (5, [.ref e1, .int (iI (↑n)), .ref e2, .ref e3, .ref e4, .ref e5, .ref e6, .ref e7, .ref e8, .int (iI L), .int d, .ref e9, .ref e10, .ref e11, .ref e12, .ref e13, .int (iI sz), .int (iI mo), .ref e14, .int (iI th)])), (e1, ar cI 8 ND), (e2, ai cI 8 AU), (e3, ai cI 8 LE), (e4, ai cI 8 SN), (e5, ar cI 8 US), (e6, ai cI 80 KK), (e7, ai cI 80 AT), (e8, ai cI 80 LF), (e9, ar cI 6 KN), (e10, ai cI 32 PL), (e11, ai cI 32 HE), (e12, ai cI 32 TU), (e13, ai cI 32 MA), (e14, ai cI 201 CU)] [some (.ref r), some (.int (iI i0)), some (.int (kcB (fun k : Nat => rv AU LE SN KK AT LF k) (mcB US i0) j)), some (.int (iI ↑j))] 31 [.int (okb (fun q => KK (10 * ↑j + q)) (SN ↑j).toNat), .int (kcB (fun k : Nat => rv AU LE SN KK AT LF k) (mcB US i0) j)] from ?_)
          refine z_goto (tgt := 35) C dX5_kindsFor_31 (by decide) ?_
          refine z_ior C dX5_kindsFor_35 ?_
          refine z_istore_n (i := 2) (lv' := [some (.ref r), some (.int (iI i0)), some (.int ((kcB (fun k : Nat => rv AU LE SN KK AT LF k) (mcB US i0) j) ||| (okb (fun q => KK (10 * ↑j + q)) (SN ↑j).toNat))), some (.int (iI ↑j))]) C dX5_kindsFor_36 rfl rfl rfl ?_
          refine z_iincI (v := ↑(j + 1)) (lv' := [some (.ref r), some (.int (iI i0)), some (.int ((kcB (fun k : Nat => rv AU LE SN KK AT LF k) (mcB US i0) j) ||| (okb (fun q => KK (10 * ↑j + q)) (SN ↑j).toNat))), some (.int (iI (↑(j + 1))))]) C dX5_kindsFor_37 rfl (by omega) rfl ?_
          refine z_goto (tgt := 4) C dX5_kindsFor_40 (by decide) ?_
          have e1 : ((kcB (fun k : Nat => rv AU LE SN KK AT LF k) (mcB US i0) j) ||| (okb (fun q => KK (10 * ↑j + q)) (SN ↑j).toNat)) = kcB (fun k : Nat => rv AU LE SN KK AT LF k) (mcB US i0) (j + 1) := by
            show _ = (if hb (mcB US i0) (iI ↑j) then kcB (fun k : Nat => rv AU LE SN KK AT LF k) (mcB US i0) j ||| okb (mK (rv AU LE SN KK AT LF ↑j)) (msn (rv AU LE SN KK AT LF ↑j)).toNat else kcB (fun k : Nat => rv AU LE SN KK AT LF k) (mcB US i0) j)
            first
              | (rw [if_pos (hb1.mp hv)]; rfl)
              | rw [if_neg (mt hb1.mpr hv), iI0, Int32.or_zero]
          rw [e1]
          exact ih (j + 1) (by omega) (by omega)
  refine z_iconst (v := iI 0) C dX5_kindsFor_0 rfl ?_
  refine z_istore_n (i := 2) (lv' := [some (.ref r), some (.int (iI i0)), some (.int (iI 0)), none]) C dX5_kindsFor_1 rfl rfl rfl ?_
  refine z_iconst (v := iI 0) C dX5_kindsFor_2 rfl ?_
  refine z_istore_n (i := 3) (lv' := [some (.ref r), some (.int (iI i0)), some (.int (iI 0)), some (.int (iI 0))]) C dX5_kindsFor_3 rfl rfl rfl ?_
  exact lp (n + 1) 0 (by omega) (by omega)
theorem hi_X5_fewest_X5 : ∀ w ∈ wsX50, w ∈ wsX5_fewest := by decide +kernel
set_option maxHeartbeats 1000000 in
set_option maxRecDepth 100000 in
theorem k_rfewest (l : Launch) (D : va_G) (cI cZ cM cL : ClassId) (r e1 e2 e3 e4 e5 e6 e7 e8 e9 e10 e11 e12 e13 e14 : Nat) (n : Nat) (L : Int) (d : Int32) (sz mo th : Int) (ND US KN : Int → Int32) (AU LE SN KK AT LF PL HE TU MA CU : Int → Int) (hL : 0 ≤ L ∧ L ≤ 200) : zN l yX5_fewest wsX5_fewest { frames := 0, cells := 0, slots := 0, locals := 0 } D (zTy cI cZ cM cL) [.ref r] (rfW cI r e1 e2 e3 e4 e5 e6 e7 e8 e9 e10 e11 e12 e13 e14 n L d sz mo th ND US KN AU LE SN KK AT LF PL HE TU MA CU) (fun r9 w => r9 = none ∧ ∃ C1 : Int → Int, w = (rfW cI r e1 e2 e3 e4 e5 e6 e7 e8 e9 e10 e11 e12 e13 e14 n L d sz mo th ND US KN AU LE SN KK AT LF PL HE TU MA C1) ∧ ∀ y : Int, 0 ≤ y → y ≤ L → C1 y = fwt d L.toNat y) 0 0 := by
  refine zN_of (cc := cX5_fewest) (maxL := 4) (lv0 := [some (.ref r), none, none, none]) (by decide) rfl rfl (Nat.le_of_ble_eq_true rfl) rfl ?_
  intro E Q C hE hR hI0
  refine (show zG E Q 0 0 [(r, .inr (5, [.ref e1, .int (iI (↑n)), .ref e2, .ref e3, .ref e4, .ref e5, .ref e6, .ref e7, .ref e8, .int (iI L), .int d, .ref e9, .ref e10, .ref e11, .ref e12, .ref e13, .int (iI sz), .int (iI mo), .ref e14, .int (iI th)])), (e1, ar cI 8 ND), (e2, ai cI 8 AU), (e3, ai cI 8 LE), (e4, ai cI 8 SN), (e5, ar cI 8 US), (e6, ai cI 80 KK), (e7, ai cI 80 AT), (e8, ai cI 80 LF), (e9, ar cI 6 KN), (e10, ai cI 32 PL), (e11, ai cI 32 HE), (e12, ai cI 32 TU), (e13, ai cI 32 MA), (e14, ai cI 201 CU)] [some (.ref r), none, none, none] 0 [] from ?_)
  have lp : ∀ (z m : Nat) (C1 : Int → Int), m ≤ L.toNat → L.toNat - m < z → (∀ y : Int, 0 ≤ y → y ≤ m → C1 y = fwt d m y) → zG E Q 0 0 [(r, .inr (5, [.ref e1, .int (iI (↑n)), .ref e2, .ref e3, .ref e4, .ref e5, .ref e6, .ref e7, .ref e8, .int (iI L), .int d, .ref e9, .ref e10, .ref e11, .ref e12, .ref e13, .int (iI sz), .int (iI mo), .ref e14, .int (iI th)])), (e1, ar cI 8 ND), (e2, ai cI 8 AU), (e3, ai cI 8 LE), (e4, ai cI 8 SN), (e5, ar cI 8 US), (e6, ai cI 80 KK), (e7, ai cI 80 AT), (e8, ai cI 80 LF), (e9, ar cI 6 KN), (e10, ai cI 32 PL), (e11, ai cI 32 HE), (e12, ai cI 32 TU), (e13, ai cI 32 MA), (e14, ai cI 201 C1)] [some (.ref r), some (.int (iI (↑m + 1))), none, none] 9 [] := by
    intro z
    induction z with
    | zero => intro m C1 hm hmn hC; omega
    | succ z ih =>
      intro m C1 hm hmn hC
      have lq : ↑m + 1 ≤ L → ∀ (k : Nat) (j : Nat) (C2 : Int → Int), j ≤ 20 → j ≤ m + 1 → 20 - j < k → (∀ y : Int, 0 ≤ y → y ≤ m → C2 y = fwt d m y) → C2 (↑m + 1) = fwb d (fwt d m) (↑m + 1) j → zG E Q (0) (0) [(r, .inr (5, [.ref e1, .int (iI (↑n)), .ref e2, .ref e3, .ref e4, .ref e5, .ref e6, .ref e7, .ref e8, .int (iI L), .int d, .ref e9, .ref e10, .ref e11, .ref e12, .ref e13, .int (iI sz), .int (iI mo), .ref e14, .int (iI th)])), (e1, ar cI 8 ND), (e2, ai cI 8 AU), (e3, ai cI 8 LE), (e4, ai cI 8 SN), (e5, ar cI 8 US), (e6, ai cI 80 KK), (e7, ai cI 80 AT), (e8, ai cI 80 LF), (e9, ar cI 6 KN), (e10, ai cI 32 PL), (e11, ai cI 32 HE), (e12, ai cI 32 TU), (e13, ai cI 32 MA), (e14, ai cI 201 C2)] [some (.ref r), some (.int (iI (↑m + 1))), some (.int (iI (↑j + 1))), none] 26 [] := by
        intro hmL k
        induction k with
        | zero => intro j C2 hj hj2 hjn hD hQ; omega
        | succ k ih2 =>
          intro j C2 hj hj2 hjn hD hQ
          refine z_iload_n (i := 2) C dX5_fewest_26 rfl rfl ?_
          refine z_bipush (v := iI 20) C dX5_fewest_27 (by decide) ?_
          refine z_icmp_gtI (tgt := 115) C dX5_fewest_29 (by decide) ⟨by omega, by omega⟩ ⟨by omega, by omega⟩ (fun hk1 => ?_) (fun hk1 => ?_)
          · refine z_iincI (v := ↑(m + 1) + 1) (lv' := [some (.ref r), some (.int (iI (↑(m + 1) + 1))), some (.int (iI (↑j + 1))), none]) C dX5_fewest_115 rfl (by omega) rfl ?_
            refine z_goto (tgt := 9) C dX5_fewest_118 (by decide) ?_
            refine z_le (r := [some (.ref r), some (.int (iI (↑(m + 1) + 1))), none, none]) ⟨Or.inr rfl, Or.inr rfl, Or.inl rfl, Or.inl rfl, trivial⟩ ?_
            exact ih (m + 1) C2 (by omega) (by omega) (fwt_in hD hQ (by omega))
          · refine z_iload_n (i := 2) C dX5_fewest_32 rfl rfl ?_
            refine z_iload_n (i := 1) C dX5_fewest_33 rfl rfl ?_
            refine z_icmp_gtI (tgt := 115) C dX5_fewest_34 (by decide) ⟨by omega, by omega⟩ ⟨by omega, by omega⟩ (fun hk2 => ?_) (fun hk2 => ?_)
            · refine z_iincI (v := ↑(m + 1) + 1) (lv' := [some (.ref r), some (.int (iI (↑(m + 1) + 1))), some (.int (iI (↑j + 1))), none]) C dX5_fewest_115 rfl (by omega) rfl ?_
              refine z_goto (tgt := 9) C dX5_fewest_118 (by decide) ?_
              refine z_le (r := [some (.ref r), some (.int (iI (↑(m + 1) + 1))), none, none]) ⟨Or.inr rfl, Or.inr rfl, Or.inl rfl, Or.inl rfl, trivial⟩ ?_
              exact ih (m + 1) C2 (by omega) (by omega) (fwt_in hD hQ (by omega))
            · have hd9 := hD (↑m + 1 - (↑j + 1)) (by omega) (by omega)
              have hr9 := fwt_r (d := d) m (↑m + 1 - (↑j + 1)) (by omega) (by omega)
              have hf9 := fwb_r (d := d) (A := fwt d m) (x := ↑m + 1) (B := m) (fun y a b => (fwt_r m y a (by omega)).2) j (by omega)
              refine z_aload_n (i := 0) C dX5_fewest_37 rfl rfl ?_
              refine z_get (ci := 5) C (hi_X5_fewest_X5) 0 rfl rfl 10 (by decide) (by decide +kernel) rfl dX5_fewest_38 ?_
              refine z_iload_n (i := 2) C dX5_fewest_41 rfl rfl ?_
              refine z_iconst (v := iI 1) C dX5_fewest_42 rfl ?_
              refine z_isubI (v := (↑j + 1) - 1) C dX5_fewest_43 (by omega) ?_
              refine z_top (y := iI ↑j) (by rw [show ↑j + 1 - 1 = (↑j : Int) by omega]) ?_
              refine z_ishr C dX5_fewest_44 ?_
              refine z_iconst (v := iI 1) C dX5_fewest_45 rfl ?_
              refine z_iand C dX5_fewest_46 ?_
              refine z_iconst (v := iI 1) C dX5_fewest_47 rfl ?_
              refine z_icmp_ne (tgt := 62) C dX5_fewest_48 (by decide) (fun hv => ?_) (fun hv => ?_)
              · refine z_iconst (v := iI (-1)) C dX5_fewest_62 rfl ?_
                have hb9 : -1 = if hb d (iI ↑j) then fwt d m (↑m + 1 - (↑j + 1)) else -1 := by
                  first
                    | (rw [if_pos (hb1.mp hv)]; exact hd9)
                    | rw [if_neg (mt hb1.mpr hv)]
                refine z_istore_n (i := 3) (lv' := [some (.ref r), some (.int (iI (↑m + 1))), some (.int (iI (↑j + 1))), some (.int (iI (-1)))]) C dX5_fewest_63 rfl rfl rfl ?_
                refine z_aload_n (i := 0) C dX5_fewest_64 rfl rfl ?_
                refine z_get (ci := 5) C (hi_X5_fewest_X5) 0 rfl rfl 18 (by decide) (by decide +kernel) rfl dX5_fewest_65 ?_
                refine z_iload_n (i := 1) C dX5_fewest_68 rfl rfl ?_
                refine z_iload_n (i := 3) C dX5_fewest_69 rfl rfl ?_
                refine z_iconst (v := iI (-1)) C dX5_fewest_70 rfl ?_
                refine z_icmp_eqI (tgt := 102) C dX5_fewest_71 (by decide) ⟨by omega, by omega⟩ ⟨by omega, by omega⟩ (fun _ => ?_) (fun h => by exfalso; omega)
                refine z_aload_n (i := 0) C dX5_fewest_102 rfl rfl ?_
                refine z_get (ci := 5) C (hi_X5_fewest_X5) 0 rfl rfl 18 (by decide) (by decide +kernel) rfl dX5_fewest_103 ?_
                refine z_iload_n (i := 1) C dX5_fewest_106 rfl rfl ?_
                refine z_ialoadI 14 (he := rfl) C (zT_of hE (t0 := 0) rfl) (by omega) (by omega) (by decide) dX5_fewest_107 ?_
                refine z_iastoreI 14 (he := rfl) (ws' := [(r, .inr (5, [.ref e1, .int (iI (↑n)), .ref e2, .ref e3, .ref e4, .ref e5, .ref e6, .ref e7, .ref e8, .int (iI L), .int d, .ref e9, .ref e10, .ref e11, .ref e12, .ref e13, .int (iI sz), .int (iI mo), .ref e14, .int (iI th)])), (e1, ar cI 8 ND), (e2, ai cI 8 AU), (e3, ai cI 8 LE), (e4, ai cI 8 SN), (e5, ar cI 8 US), (e6, ai cI 80 KK), (e7, ai cI 80 AT), (e8, ai cI 80 LF), (e9, ar cI 6 KN), (e10, ai cI 32 PL), (e11, ai cI 32 HE), (e12, ai cI 32 TU), (e13, ai cI 32 MA), (e14, ai cI 201 (zup C2 (↑m + 1) (C2 (↑m + 1))))]) C (zT_of hE (t0 := 0) rfl) (by omega) (by omega) (by decide) rfl dX5_fewest_108 ?_
                refine z_iincI (v := ↑(j + 1) + 1) (lv' := [some (.ref r), some (.int (iI (↑m + 1))), some (.int (iI (↑(j + 1) + 1))), some (.int (iI (-1)))]) C dX5_fewest_109 rfl (by omega) rfl ?_
                refine z_goto (tgt := 26) C dX5_fewest_112 (by decide) ?_
                refine z_le (r := [some (.ref r), some (.int (iI (↑m + 1))), some (.int (iI (↑(j + 1) + 1))), none]) ⟨Or.inr rfl, Or.inr rfl, Or.inr rfl, Or.inl rfl, trivial⟩ ?_
                exact ih2 (j + 1) _ (by omega) (by omega) (by omega) (fun y a b => by rw [zup_ne _ _ (by omega)]; exact hD y a b) (by rw [zup_self, fwb_s d (fwt d m) (↑m + 1) j _ hb9, ← hQ]; first | rw [if_pos ⟨by omega, by omega⟩] | rw [if_neg (by omega)])
              · refine z_aload_n (i := 0) C dX5_fewest_51 rfl rfl ?_
                refine z_get (ci := 5) C (hi_X5_fewest_X5) 0 rfl rfl 18 (by decide) (by decide +kernel) rfl dX5_fewest_52 ?_
                refine z_iload_n (i := 1) C dX5_fewest_55 rfl rfl ?_
                refine z_iload_n (i := 2) C dX5_fewest_56 rfl rfl ?_
                refine z_isubI (v := (↑m + 1) - (↑j + 1)) C dX5_fewest_57 (by omega) ?_
                refine z_ialoadI 14 (he := rfl) C (zT_of hE (t0 := 0) rfl) (by omega) (by omega) (by decide) dX5_fewest_58 ?_
                refine z_goto (tgt := 63) C dX5_fewest_59 (by decide) ?_
                have hb9 : C2 ((↑m + 1) - (↑j + 1)) = if hb d (iI ↑j) then fwt d m (↑m + 1 - (↑j + 1)) else -1 := by
                  first
                    | (rw [if_pos (hb1.mp hv)]; exact hd9)
                    | rw [if_neg (mt hb1.mpr hv)]
                refine z_istore_n (i := 3) (lv' := [some (.ref r), some (.int (iI (↑m + 1))), some (.int (iI (↑j + 1))), some (.int (iI (C2 ((↑m + 1) - (↑j + 1)))))]) C dX5_fewest_63 rfl rfl rfl ?_
                refine z_aload_n (i := 0) C dX5_fewest_64 rfl rfl ?_
                refine z_get (ci := 5) C (hi_X5_fewest_X5) 0 rfl rfl 18 (by decide) (by decide +kernel) rfl dX5_fewest_65 ?_
                refine z_iload_n (i := 1) C dX5_fewest_68 rfl rfl ?_
                refine z_iload_n (i := 3) C dX5_fewest_69 rfl rfl ?_
                refine z_iconst (v := iI (-1)) C dX5_fewest_70 rfl ?_
                refine z_icmp_eqI (tgt := 102) C dX5_fewest_71 (by decide) ⟨by omega, by omega⟩ ⟨by omega, by omega⟩ (fun hx1 => ?_) (fun hx1 => ?_)
                · refine z_aload_n (i := 0) C dX5_fewest_102 rfl rfl ?_
                  refine z_get (ci := 5) C (hi_X5_fewest_X5) 0 rfl rfl 18 (by decide) (by decide +kernel) rfl dX5_fewest_103 ?_
                  refine z_iload_n (i := 1) C dX5_fewest_106 rfl rfl ?_
                  refine z_ialoadI 14 (he := rfl) C (zT_of hE (t0 := 0) rfl) (by omega) (by omega) (by decide) dX5_fewest_107 ?_
                  refine z_iastoreI 14 (he := rfl) (ws' := [(r, .inr (5, [.ref e1, .int (iI (↑n)), .ref e2, .ref e3, .ref e4, .ref e5, .ref e6, .ref e7, .ref e8, .int (iI L), .int d, .ref e9, .ref e10, .ref e11, .ref e12, .ref e13, .int (iI sz), .int (iI mo), .ref e14, .int (iI th)])), (e1, ar cI 8 ND), (e2, ai cI 8 AU), (e3, ai cI 8 LE), (e4, ai cI 8 SN), (e5, ar cI 8 US), (e6, ai cI 80 KK), (e7, ai cI 80 AT), (e8, ai cI 80 LF), (e9, ar cI 6 KN), (e10, ai cI 32 PL), (e11, ai cI 32 HE), (e12, ai cI 32 TU), (e13, ai cI 32 MA), (e14, ai cI 201 (zup C2 (↑m + 1) (C2 (↑m + 1))))]) C (zT_of hE (t0 := 0) rfl) (by omega) (by omega) (by decide) rfl dX5_fewest_108 ?_
                  refine z_iincI (v := ↑(j + 1) + 1) (lv' := [some (.ref r), some (.int (iI (↑m + 1))), some (.int (iI (↑(j + 1) + 1))), some (.int (iI (C2 ((↑m + 1) - (↑j + 1)))))]) C dX5_fewest_109 rfl (by omega) rfl ?_
                  refine z_goto (tgt := 26) C dX5_fewest_112 (by decide) ?_
                  refine z_le (r := [some (.ref r), some (.int (iI (↑m + 1))), some (.int (iI (↑(j + 1) + 1))), none]) ⟨Or.inr rfl, Or.inr rfl, Or.inr rfl, Or.inl rfl, trivial⟩ ?_
                  exact ih2 (j + 1) _ (by omega) (by omega) (by omega) (fun y a b => by rw [zup_ne _ _ (by omega)]; exact hD y a b) (by rw [zup_self, fwb_s d (fwt d m) (↑m + 1) j _ hb9, ← hQ]; first | rw [if_pos ⟨by omega, by omega⟩] | rw [if_neg (by omega)])
                · refine z_aload_n (i := 0) C dX5_fewest_74 rfl rfl ?_
                  refine z_get (ci := 5) C (hi_X5_fewest_X5) 0 rfl rfl 18 (by decide) (by decide +kernel) rfl dX5_fewest_75 ?_
                  refine z_iload_n (i := 1) C dX5_fewest_78 rfl rfl ?_
                  refine z_ialoadI 14 (he := rfl) C (zT_of hE (t0 := 0) rfl) (by omega) (by omega) (by decide) dX5_fewest_79 ?_
                  refine z_iconst (v := iI (-1)) C dX5_fewest_80 rfl ?_
                  refine z_icmp_eqI (tgt := 96) C dX5_fewest_81 (by decide) ⟨by omega, by omega⟩ ⟨by omega, by omega⟩ (fun hx2 => ?_) (fun hx2 => ?_)
                  · refine z_iload_n (i := 3) C dX5_fewest_96 rfl rfl ?_
                    refine z_iconst (v := iI 1) C dX5_fewest_97 rfl ?_
                    refine z_iaddI (v := (C2 ((↑m + 1) - (↑j + 1))) + 1) C dX5_fewest_98 (by omega) ?_
                    refine z_goto (tgt := 108) C dX5_fewest_99 (by decide) ?_
                    refine z_iastoreI 14 (he := rfl) (ws' := [(r, .inr (5, [.ref e1, .int (iI (↑n)), .ref e2, .ref e3, .ref e4, .ref e5, .ref e6, .ref e7, .ref e8, .int (iI L), .int d, .ref e9, .ref e10, .ref e11, .ref e12, .ref e13, .int (iI sz), .int (iI mo), .ref e14, .int (iI th)])), (e1, ar cI 8 ND), (e2, ai cI 8 AU), (e3, ai cI 8 LE), (e4, ai cI 8 SN), (e5, ar cI 8 US), (e6, ai cI 80 KK), (e7, ai cI 80 AT), (e8, ai cI 80 LF), (e9, ar cI 6 KN), (e10, ai cI 32 PL), (e11, ai cI 32 HE), (e12, ai cI 32 TU), (e13, ai cI 32 MA), (e14, ai cI 201 (zup C2 (↑m + 1) ((C2 ((↑m + 1) - (↑j + 1))) + 1)))]) C (zT_of hE (t0 := 0) rfl) (by omega) (by omega) (by decide) rfl dX5_fewest_108 ?_
                    refine z_iincI (v := ↑(j + 1) + 1) (lv' := [some (.ref r), some (.int (iI (↑m + 1))), some (.int (iI (↑(j + 1) + 1))), some (.int (iI (C2 ((↑m + 1) - (↑j + 1)))))]) C dX5_fewest_109 rfl (by omega) rfl ?_
                    refine z_goto (tgt := 26) C dX5_fewest_112 (by decide) ?_
                    refine z_le (r := [some (.ref r), some (.int (iI (↑m + 1))), some (.int (iI (↑(j + 1) + 1))), none]) ⟨Or.inr rfl, Or.inr rfl, Or.inr rfl, Or.inl rfl, trivial⟩ ?_
                    exact ih2 (j + 1) _ (by omega) (by omega) (by omega) (fun y a b => by rw [zup_ne _ _ (by omega)]; exact hD y a b) (by rw [zup_self, fwb_s d (fwt d m) (↑m + 1) j _ hb9, ← hQ]; first | rw [if_pos ⟨by omega, by omega⟩] | rw [if_neg (by omega)])
                  · refine z_iload_n (i := 3) C dX5_fewest_84 rfl rfl ?_
                    refine z_iconst (v := iI 1) C dX5_fewest_85 rfl ?_
                    refine z_iaddI (v := (C2 ((↑m + 1) - (↑j + 1))) + 1) C dX5_fewest_86 (by omega) ?_
                    refine z_aload_n (i := 0) C dX5_fewest_87 rfl rfl ?_
                    refine z_get (ci := 5) C (hi_X5_fewest_X5) 0 rfl rfl 18 (by decide) (by decide +kernel) rfl dX5_fewest_88 ?_
                    refine z_iload_n (i := 1) C dX5_fewest_91 rfl rfl ?_
                    refine z_ialoadI 14 (he := rfl) C (zT_of hE (t0 := 0) rfl) (by omega) (by omega) (by decide) dX5_fewest_92 ?_
                    refine z_icmp_geI (tgt := 102) C dX5_fewest_93 (by decide) ⟨by omega, by omega⟩ ⟨by omega, by omega⟩ (fun hx3 => ?_) (fun hx3 => ?_)
                    · refine z_aload_n (i := 0) C dX5_fewest_102 rfl rfl ?_
                      refine z_get (ci := 5) C (hi_X5_fewest_X5) 0 rfl rfl 18 (by decide) (by decide +kernel) rfl dX5_fewest_103 ?_
                      refine z_iload_n (i := 1) C dX5_fewest_106 rfl rfl ?_
                      refine z_ialoadI 14 (he := rfl) C (zT_of hE (t0 := 0) rfl) (by omega) (by omega) (by decide) dX5_fewest_107 ?_
                      refine z_iastoreI 14 (he := rfl) (ws' := [(r, .inr (5, [.ref e1, .int (iI (↑n)), .ref e2, .ref e3, .ref e4, .ref e5, .ref e6, .ref e7, .ref e8, .int (iI L), .int d, .ref e9, .ref e10, .ref e11, .ref e12, .ref e13, .int (iI sz), .int (iI mo), .ref e14, .int (iI th)])), (e1, ar cI 8 ND), (e2, ai cI 8 AU), (e3, ai cI 8 LE), (e4, ai cI 8 SN), (e5, ar cI 8 US), (e6, ai cI 80 KK), (e7, ai cI 80 AT), (e8, ai cI 80 LF), (e9, ar cI 6 KN), (e10, ai cI 32 PL), (e11, ai cI 32 HE), (e12, ai cI 32 TU), (e13, ai cI 32 MA), (e14, ai cI 201 (zup C2 (↑m + 1) (C2 (↑m + 1))))]) C (zT_of hE (t0 := 0) rfl) (by omega) (by omega) (by decide) rfl dX5_fewest_108 ?_
                      refine z_iincI (v := ↑(j + 1) + 1) (lv' := [some (.ref r), some (.int (iI (↑m + 1))), some (.int (iI (↑(j + 1) + 1))), some (.int (iI (C2 ((↑m + 1) - (↑j + 1)))))]) C dX5_fewest_109 rfl (by omega) rfl ?_
                      refine z_goto (tgt := 26) C dX5_fewest_112 (by decide) ?_
                      refine z_le (r := [some (.ref r), some (.int (iI (↑m + 1))), some (.int (iI (↑(j + 1) + 1))), none]) ⟨Or.inr rfl, Or.inr rfl, Or.inr rfl, Or.inl rfl, trivial⟩ ?_
                      exact ih2 (j + 1) _ (by omega) (by omega) (by omega) (fun y a b => by rw [zup_ne _ _ (by omega)]; exact hD y a b) (by rw [zup_self, fwb_s d (fwt d m) (↑m + 1) j _ hb9, ← hQ]; first | rw [if_pos ⟨by omega, by omega⟩] | rw [if_neg (by omega)])
                    · refine z_iload_n (i := 3) C dX5_fewest_96 rfl rfl ?_
                      refine z_iconst (v := iI 1) C dX5_fewest_97 rfl ?_
                      refine z_iaddI (v := (C2 ((↑m + 1) - (↑j + 1))) + 1) C dX5_fewest_98 (by omega) ?_
                      refine z_goto (tgt := 108) C dX5_fewest_99 (by decide) ?_
                      refine z_iastoreI 14 (he := rfl) (ws' := [(r, .inr (5, [.ref e1, .int (iI (↑n)), .ref e2, .ref e3, .ref e4, .ref e5, .ref e6, .ref e7, .ref e8, .int (iI L), .int d, .ref e9, .ref e10, .ref e11, .ref e12, .ref e13, .int (iI sz), .int (iI mo), .ref e14, .int (iI th)])), (e1, ar cI 8 ND), (e2, ai cI 8 AU), (e3, ai cI 8 LE), (e4, ai cI 8 SN), (e5, ar cI 8 US), (e6, ai cI 80 KK), (e7, ai cI 80 AT), (e8, ai cI 80 LF), (e9, ar cI 6 KN), (e10, ai cI 32 PL), (e11, ai cI 32 HE), (e12, ai cI 32 TU), (e13, ai cI 32 MA), (e14, ai cI 201 (zup C2 (↑m + 1) ((C2 ((↑m + 1) - (↑j + 1))) + 1)))]) C (zT_of hE (t0 := 0) rfl) (by omega) (by omega) (by decide) rfl dX5_fewest_108 ?_
                      refine z_iincI (v := ↑(j + 1) + 1) (lv' := [some (.ref r), some (.int (iI (↑m + 1))), some (.int (iI (↑(j + 1) + 1))), some (.int (iI (C2 ((↑m + 1) - (↑j + 1)))))]) C dX5_fewest_109 rfl (by omega) rfl ?_
                      refine z_goto (tgt := 26) C dX5_fewest_112 (by decide) ?_
                      refine z_le (r := [some (.ref r), some (.int (iI (↑m + 1))), some (.int (iI (↑(j + 1) + 1))), none]) ⟨Or.inr rfl, Or.inr rfl, Or.inr rfl, Or.inl rfl, trivial⟩ ?_
                      exact ih2 (j + 1) _ (by omega) (by omega) (by omega) (fun y a b => by rw [zup_ne _ _ (by omega)]; exact hD y a b) (by rw [zup_self, fwb_s d (fwt d m) (↑m + 1) j _ hb9, ← hQ]; first | rw [if_pos ⟨by omega, by omega⟩] | rw [if_neg (by omega)])
      refine z_iload_n (i := 1) C dX5_fewest_9 rfl rfl ?_
      refine z_aload_n (i := 0) C dX5_fewest_10 rfl rfl ?_
      refine z_get (ci := 5) C (hi_X5_fewest_X5) 0 rfl rfl 9 (by decide) (by decide +kernel) rfl dX5_fewest_11 ?_
      refine z_icmp_gtI (tgt := 121) C dX5_fewest_14 (by decide) ⟨by omega, by omega⟩ ⟨by omega, by omega⟩ (fun hk => ?_) (fun hk => ?_)
      · exact z_vret C hR dX5_fewest_121 (Nat.le_of_ble_eq_true rfl) (Nat.le_of_ble_eq_true rfl) (⟨rfl, C1, rfl, fun y a b => by rw [show L.toNat = m by omega]; exact hC y a (by omega)⟩)
      · refine z_aload_n (i := 0) C dX5_fewest_17 rfl rfl ?_
        refine z_get (ci := 5) C (hi_X5_fewest_X5) 0 rfl rfl 18 (by decide) (by decide +kernel) rfl dX5_fewest_18 ?_
        refine z_iload_n (i := 1) C dX5_fewest_21 rfl rfl ?_
        refine z_iconst (v := iI (-1)) C dX5_fewest_22 rfl ?_
        refine z_iastoreI 14 (he := rfl) (ws' := [(r, .inr (5, [.ref e1, .int (iI (↑n)), .ref e2, .ref e3, .ref e4, .ref e5, .ref e6, .ref e7, .ref e8, .int (iI L), .int d, .ref e9, .ref e10, .ref e11, .ref e12, .ref e13, .int (iI sz), .int (iI mo), .ref e14, .int (iI th)])), (e1, ar cI 8 ND), (e2, ai cI 8 AU), (e3, ai cI 8 LE), (e4, ai cI 8 SN), (e5, ar cI 8 US), (e6, ai cI 80 KK), (e7, ai cI 80 AT), (e8, ai cI 80 LF), (e9, ar cI 6 KN), (e10, ai cI 32 PL), (e11, ai cI 32 HE), (e12, ai cI 32 TU), (e13, ai cI 32 MA), (e14, ai cI 201 (zup C1 (↑m + 1) (-1)))]) C (zT_of hE (t0 := 0) rfl) (by omega) (by omega) (by decide) rfl dX5_fewest_23 ?_
        refine z_iconst (v := iI 1) C dX5_fewest_24 rfl ?_
        refine z_istore_n (i := 2) (lv' := [some (.ref r), some (.int (iI (↑m + 1))), some (.int (iI 1)), none]) C dX5_fewest_25 rfl rfl rfl ?_
        refine (show zG E Q 0 0 [(r, .inr (5, [.ref e1, .int (iI (↑n)), .ref e2, .ref e3, .ref e4, .ref e5, .ref e6, .ref e7, .ref e8, .int (iI L), .int d, .ref e9, .ref e10, .ref e11, .ref e12, .ref e13, .int (iI sz), .int (iI mo), .ref e14, .int (iI th)])), (e1, ar cI 8 ND), (e2, ai cI 8 AU), (e3, ai cI 8 LE), (e4, ai cI 8 SN), (e5, ar cI 8 US), (e6, ai cI 80 KK), (e7, ai cI 80 AT), (e8, ai cI 80 LF), (e9, ar cI 6 KN), (e10, ai cI 32 PL), (e11, ai cI 32 HE), (e12, ai cI 32 TU), (e13, ai cI 32 MA), (e14, ai cI 201 (zup C1 (↑m + 1) (-1)))] [some (.ref r), some (.int (iI (↑m + 1))), some (.int (iI (↑(0 : Nat) + 1))), none] 26 [] from ?_)
        exact lq (by omega) 21 0 _ (by omega) (by omega) (by omega) (fun y a b => by rw [zup_ne _ _ (by omega)]; exact hC y a b) (by rw [zup_self]; rfl)
  refine z_aload_n (i := 0) C dX5_fewest_0 rfl rfl ?_
  refine z_get (ci := 5) C (hi_X5_fewest_X5) 0 rfl rfl 18 (by decide) (by decide +kernel) rfl dX5_fewest_1 ?_
  refine z_iconst (v := iI 0) C dX5_fewest_4 rfl ?_
  refine z_iconst (v := iI 0) C dX5_fewest_5 rfl ?_
  refine z_iastoreI 14 (he := rfl) (ws' := [(r, .inr (5, [.ref e1, .int (iI (↑n)), .ref e2, .ref e3, .ref e4, .ref e5, .ref e6, .ref e7, .ref e8, .int (iI L), .int d, .ref e9, .ref e10, .ref e11, .ref e12, .ref e13, .int (iI sz), .int (iI mo), .ref e14, .int (iI th)])), (e1, ar cI 8 ND), (e2, ai cI 8 AU), (e3, ai cI 8 LE), (e4, ai cI 8 SN), (e5, ar cI 8 US), (e6, ai cI 80 KK), (e7, ai cI 80 AT), (e8, ai cI 80 LF), (e9, ar cI 6 KN), (e10, ai cI 32 PL), (e11, ai cI 32 HE), (e12, ai cI 32 TU), (e13, ai cI 32 MA), (e14, ai cI 201 (zup CU 0 0))]) C (zT_of hE (t0 := 0) rfl) (by omega) (by omega) (by decide) rfl dX5_fewest_6 ?_
  refine z_iconst (v := iI 1) C dX5_fewest_7 rfl ?_
  refine z_istore_n (i := 1) (lv' := [some (.ref r), some (.int (iI 1)), none, none]) C dX5_fewest_8 rfl rfl rfl ?_
  refine (show zG E Q 0 0 [(r, .inr (5, [.ref e1, .int (iI (↑n)), .ref e2, .ref e3, .ref e4, .ref e5, .ref e6, .ref e7, .ref e8, .int (iI L), .int d, .ref e9, .ref e10, .ref e11, .ref e12, .ref e13, .int (iI sz), .int (iI mo), .ref e14, .int (iI th)])), (e1, ar cI 8 ND), (e2, ai cI 8 AU), (e3, ai cI 8 LE), (e4, ai cI 8 SN), (e5, ar cI 8 US), (e6, ai cI 80 KK), (e7, ai cI 80 AT), (e8, ai cI 80 LF), (e9, ar cI 6 KN), (e10, ai cI 32 PL), (e11, ai cI 32 HE), (e12, ai cI 32 TU), (e13, ai cI 32 MA), (e14, ai cI 201 (zup CU 0 0))] [some (.ref r), some (.int (iI (↑(0 : Nat) + 1))), none, none] 9 [] from ?_)
  exact lp (L.toNat + 1) 0 _ (by omega) (by omega) (fun y a b => by rw [show y = 0 by omega, zup_self]; rfl)
theorem hi_X5_fewestPieces_X5 : ∀ w ∈ wsX50, w ∈ wsX5_fewestPieces := by decide +kernel
set_option maxHeartbeats 1000000 in
set_option maxRecDepth 100000 in
theorem k_rfewestPieces (l : Launch) (D : va_G) (cI cZ cM cL : ClassId) (r e1 e2 e3 e4 e5 e6 e7 e8 e9 e10 e11 e12 e13 e14 : Nat) (n : Nat) (L : Int) (d : Int32) (sz mo th : Int) (ND US KN : Int → Int32) (AU LE SN KK AT LF PL HE TU MA CU : Int → Int) (hL : 0 ≤ L ∧ L ≤ 200) : zN l yX5_fewestPieces wsX5_fewestPieces { frames := 1, cells := 0, slots := 0, locals := 23 } D (zTy cI cZ cM cL) [.ref r] (rfW cI r e1 e2 e3 e4 e5 e6 e7 e8 e9 e10 e11 e12 e13 e14 n L d sz mo th ND US KN AU LE SN KK AT LF PL HE TU MA CU) (fun r9 w => r9 = some (.int (iI (fwt d L.toNat L))) ∧ ∃ C1 : Int → Int, w = (rfW cI r e1 e2 e3 e4 e5 e6 e7 e8 e9 e10 e11 e12 e13 e14 n L d sz mo 0 ND US KN AU LE SN KK AT LF PL HE TU MA C1)) 0 0 := by
  refine zN_of (cc := cX5_fewestPieces) (maxL := 1) (lv0 := [some (.ref r)]) (by decide) rfl rfl (Nat.le_of_ble_eq_true rfl) rfl ?_
  intro E Q C hE hR hI0
  refine (show zG E Q 0 0 [(r, .inr (5, [.ref e1, .int (iI (↑n)), .ref e2, .ref e3, .ref e4, .ref e5, .ref e6, .ref e7, .ref e8, .int (iI L), .int d, .ref e9, .ref e10, .ref e11, .ref e12, .ref e13, .int (iI sz), .int (iI mo), .ref e14, .int (iI th)])), (e1, ar cI 8 ND), (e2, ai cI 8 AU), (e3, ai cI 8 LE), (e4, ai cI 8 SN), (e5, ar cI 8 US), (e6, ai cI 80 KK), (e7, ai cI 80 AT), (e8, ai cI 80 LF), (e9, ar cI 6 KN), (e10, ai cI 32 PL), (e11, ai cI 32 HE), (e12, ai cI 32 TU), (e13, ai cI 32 MA), (e14, ai cI 201 CU)] [some (.ref r)] 0 [] from ?_)
  refine z_aload_n (i := 0) C dX5_fewestPieces_0 rfl rfl ?_
  refine z_iconst (v := iI 0) C dX5_fewestPieces_1 rfl ?_
  refine z_put (ci := 5) (ws' := [(r, .inr (5, [.ref e1, .int (iI (↑n)), .ref e2, .ref e3, .ref e4, .ref e5, .ref e6, .ref e7, .ref e8, .int (iI L), .int d, .ref e9, .ref e10, .ref e11, .ref e12, .ref e13, .int (iI sz), .int (iI mo), .ref e14, .int (iI 0)])), (e1, ar cI 8 ND), (e2, ai cI 8 AU), (e3, ai cI 8 LE), (e4, ai cI 8 SN), (e5, ar cI 8 US), (e6, ai cI 80 KK), (e7, ai cI 80 AT), (e8, ai cI 80 LF), (e9, ar cI 6 KN), (e10, ai cI 32 PL), (e11, ai cI 32 HE), (e12, ai cI 32 TU), (e13, ai cI 32 MA), (e14, ai cI 201 CU)]) C (hi_X5_fewestPieces_X5) tyX5_ok nmX5 0 rfl rfl 19 (by decide) (by decide +kernel) rfl (tyX5_ok 19 (by decide)) rfl rfl (Nat.le_of_ble_eq_true rfl) rfl dX5_fewestPieces_2 ?_
  refine z_aload_n (i := 0) C dX5_fewestPieces_5 rfl rfl ?_
  refine z_callV (n := 0) (As := []) (st := []) (fr := []) C hE (k_rfewest l D cI cZ cM cL r e1 e2 e3 e4 e5 e6 e7 e8 e9 e10 e11 e12 e13 e14 n L d sz mo 0 ND US KN AU LE SN KK AT LF PL HE TU MA CU  hL) gX5_fewestPieces_X5_fewest rfl ⟨rfl, rfl⟩ (by decide +kernel) ⟨Nat.le_of_ble_eq_true rfl, Nat.le_of_ble_eq_true rfl⟩ rfl rfl (by rw [List.append_nil]) 0 rfl rfl rfl (Nat.le_of_ble_eq_true rfl) ⟨Nat.le_of_ble_eq_true rfl, Nat.le_of_ble_eq_true rfl⟩ dX5_fewestPieces_6 (fun r w1 hpo => ?_)
  obtain ⟨rfl, C1, rfl, hC1⟩ := hpo
  rw [List.append_nil]
  refine (show zG E Q (0) (0) [(r, .inr (5, [.ref e1, .int (iI (↑n)), .ref e2, .ref e3, .ref e4, .ref e5, .ref e6, .ref e7, .ref e8, .int (iI L), .int d, .ref e9, .ref e10, .ref e11, .ref e12, .ref e13, .int (iI sz), .int (iI mo), .ref e14, .int (iI 0)])), (e1, ar cI 8 ND), (e2, ai cI 8 AU), (e3, ai cI 8 LE), (e4, ai cI 8 SN), (e5, ar cI 8 US), (e6, ai cI 80 KK), (e7, ai cI 80 AT), (e8, ai cI 80 LF), (e9, ar cI 6 KN), (e10, ai cI 32 PL), (e11, ai cI 32 HE), (e12, ai cI 32 TU), (e13, ai cI 32 MA), (e14, ai cI 201 C1)] [some (.ref r)] 9 [] from ?_)
  refine z_aload_n (i := 0) C dX5_fewestPieces_9 rfl rfl ?_
  refine z_get (ci := 5) C (hi_X5_fewestPieces_X5) 0 rfl rfl 18 (by decide) (by decide +kernel) rfl dX5_fewestPieces_10 ?_
  refine z_aload_n (i := 0) C dX5_fewestPieces_13 rfl rfl ?_
  refine z_get (ci := 5) C (hi_X5_fewestPieces_X5) 0 rfl rfl 9 (by decide) (by decide +kernel) rfl dX5_fewestPieces_14 ?_
  refine z_ialoadI 14 (he := rfl) C (zT_of hE (t0 := 0) rfl) (by omega) (by omega) (by decide) dX5_fewestPieces_17 ?_
  exact z_iret C hR dX5_fewestPieces_18 (Nat.le_of_ble_eq_true rfl) (Nat.le_of_ble_eq_true rfl) (⟨by rw [hC1 L hL.1 (Int.le_refl _)], C1, rfl⟩)
theorem fwt_0 {d : Int32} : ∀ n : Nat, fwt d n 0 = 0
  | 0 => rfl
  | n + 1 => by
    show zup (fwt d n) (n + 1) (fwb d (fwt d n) (n + 1) (min 20 (n + 1))) 0 = 0
    rw [zup_ne _ _ (by omega)]
    exact fwt_0 n
theorem hi_X5_leastRest_X5 : ∀ w ∈ wsX50, w ∈ wsX5_leastRest := by decide +kernel
set_option maxHeartbeats 1000000 in
set_option maxRecDepth 100000 in
theorem k_rleastRest (l : Launch) (D : va_G) (cI cZ cM cL : ClassId) (r e1 e2 e3 e4 e5 e6 e7 e8 e9 e10 e11 e12 e13 e14 : Nat) (n : Nat) (L : Int) (d : Int32) (sz mo th : Int) (ND US KN : Int → Int32) (AU LE SN KK AT LF PL HE TU MA CU : Int → Int) (hL : 0 ≤ L ∧ L ≤ 200) : zN l yX5_leastRest wsX5_leastRest { frames := 1, cells := 0, slots := 0, locals := 23 } D (zTy cI cZ cM cL) [.ref r] (rfW cI r e1 e2 e3 e4 e5 e6 e7 e8 e9 e10 e11 e12 e13 e14 n L d sz mo th ND US KN AU LE SN KK AT LF PL HE TU MA CU) (fun r9 w => r9 = some (.int (iI (L - crs (fwt d L.toNat) L.toNat))) ∧ ∃ C1 : Int → Int, w = (rfW cI r e1 e2 e3 e4 e5 e6 e7 e8 e9 e10 e11 e12 e13 e14 n L d sz mo 0 ND US KN AU LE SN KK AT LF PL HE TU MA C1)) 0 0 := by
  refine zN_of (cc := cX5_leastRest) (maxL := 2) (lv0 := [some (.ref r), none]) (by decide) rfl rfl (Nat.le_of_ble_eq_true rfl) rfl ?_
  intro E Q C hE hR hI0
  refine (show zG E Q 0 0 [(r, .inr (5, [.ref e1, .int (iI (↑n)), .ref e2, .ref e3, .ref e4, .ref e5, .ref e6, .ref e7, .ref e8, .int (iI L), .int d, .ref e9, .ref e10, .ref e11, .ref e12, .ref e13, .int (iI sz), .int (iI mo), .ref e14, .int (iI th)])), (e1, ar cI 8 ND), (e2, ai cI 8 AU), (e3, ai cI 8 LE), (e4, ai cI 8 SN), (e5, ar cI 8 US), (e6, ai cI 80 KK), (e7, ai cI 80 AT), (e8, ai cI 80 LF), (e9, ar cI 6 KN), (e10, ai cI 32 PL), (e11, ai cI 32 HE), (e12, ai cI 32 TU), (e13, ai cI 32 MA), (e14, ai cI 201 CU)] [some (.ref r), none] 0 [] from ?_)
  have LQ : ∀ (C1 : Int → Int), (∀ y : Int, 0 ≤ y → y ≤ L → C1 y = fwt d L.toNat y) → ∀ (z j : Nat), (j : Int) ≤ L → L.toNat - j < z → (∀ y : Int, L - ↑j < y → y ≤ L → fwt d L.toNat y < 0) → zG E Q 0 0 [(r, .inr (5, [.ref e1, .int (iI (↑n)), .ref e2, .ref e3, .ref e4, .ref e5, .ref e6, .ref e7, .ref e8, .int (iI L), .int d, .ref e9, .ref e10, .ref e11, .ref e12, .ref e13, .int (iI sz), .int (iI mo), .ref e14, .int (iI 0)])), (e1, ar cI 8 ND), (e2, ai cI 8 AU), (e3, ai cI 8 LE), (e4, ai cI 8 SN), (e5, ar cI 8 US), (e6, ai cI 80 KK), (e7, ai cI 80 AT), (e8, ai cI 80 LF), (e9, ar cI 6 KN), (e10, ai cI 32 PL), (e11, ai cI 32 HE), (e12, ai cI 32 TU), (e13, ai cI 32 MA), (e14, ai cI 201 C1)] [some (.ref r), some (.int (iI ↑j))] 11 [] := by
    intro C1 hC1
    have lp : ∀ (z : Nat) (j : Nat), (j : Int) ≤ L → L.toNat - j < z → (∀ y : Int, L - ↑j < y → y ≤ L → fwt d L.toNat y < 0) → zG E Q (0) (0) [(r, .inr (5, [.ref e1, .int (iI (↑n)), .ref e2, .ref e3, .ref e4, .ref e5, .ref e6, .ref e7, .ref e8, .int (iI L), .int d, .ref e9, .ref e10, .ref e11, .ref e12, .ref e13, .int (iI sz), .int (iI mo), .ref e14, .int (iI 0)])), (e1, ar cI 8 ND), (e2, ai cI 8 AU), (e3, ai cI 8 LE), (e4, ai cI 8 SN), (e5, ar cI 8 US), (e6, ai cI 80 KK), (e7, ai cI 80 AT), (e8, ai cI 80 LF), (e9, ar cI 6 KN), (e10, ai cI 32 PL), (e11, ai cI 32 HE), (e12, ai cI 32 TU), (e13, ai cI 32 MA), (e14, ai cI 201 C1)] [some (.ref r), some (.int (iI ↑j))] 11 [] := by
      intro z
      induction z with
      | zero => intro j hj hjn hN; omega
      | succ z ih =>
        intro j hj hjn hN
        refine z_aload_n (i := 0) C dX5_leastRest_11 rfl rfl ?_
        refine z_get (ci := 5) C (hi_X5_leastRest_X5) 0 rfl rfl 18 (by decide) (by decide +kernel) rfl dX5_leastRest_12 ?_
        have hc9 := hC1 (L - ↑j) (by omega) (by omega)
        have hr9 := fwt_r (d := d) L.toNat (L - ↑j) (by omega) (by omega)
        refine z_aload_n (i := 0) C dX5_leastRest_15 rfl rfl ?_
        refine z_get (ci := 5) C (hi_X5_leastRest_X5) 0 rfl rfl 9 (by decide) (by decide +kernel) rfl dX5_leastRest_16 ?_
        refine z_iload_n (i := 1) C dX5_leastRest_19 rfl rfl ?_
        refine z_isubI (v := L - (↑j)) C dX5_leastRest_20 (by omega) ?_
        refine z_ialoadI 14 (he := rfl) C (zT_of hE (t0 := 0) rfl) (by omega) (by omega) (by decide) dX5_leastRest_21 ?_
        refine z_iconst (v := iI (-1)) C dX5_leastRest_22 rfl ?_
        refine z_icmp_neI (tgt := 32) C dX5_leastRest_23 (by decide) ⟨by omega, by omega⟩ ⟨by omega, by omega⟩ (fun hv => ?_) (fun hv => ?_)
        · refine z_iload_n (i := 1) C dX5_leastRest_32 rfl rfl ?_
          exact z_iret C hR dX5_leastRest_33 (Nat.le_of_ble_eq_true rfl) (Nat.le_of_ble_eq_true rfl) (⟨by rw [show L.toNat = (L - ↑j).toNat + j by omega, crs_at (T := fwt d ((L - ↑j).toNat + j)) (x := (L - ↑j).toNat) (Or.inr (by rw [show (L - ↑j).toNat + j = L.toNat by omega, show (((L - ↑j).toNat : Nat) : Int) = L - ↑j by omega]; omega)) j (fun y a b => by rw [show (L - ↑j).toNat + j = L.toNat by omega]; exact hN y (by omega) (by omega)), show L - (((L - ↑j).toNat : Nat) : Int) = ↑j by omega], C1, rfl⟩)
        · refine z_iincI (v := ↑(j + 1)) (lv' := [some (.ref r), some (.int (iI (↑(j + 1))))]) C dX5_leastRest_26 rfl (by omega) rfl ?_
          refine z_goto (tgt := 11) C dX5_leastRest_29 (by decide) ?_
          have h09 : ¬ (L - ↑j = 0) := fun e => by rw [e] at hc9 hv; rw [hv, fwt_0] at hc9; omega
          refine ih (j + 1) (by omega) (by omega) (fun y a b => ?_)
          by_cases e : y = L - ↑j
          · rw [e]; omega
          · exact hN y (by omega) b
    exact lp
  refine z_aload_n (i := 0) C dX5_leastRest_0 rfl rfl ?_
  refine z_iconst (v := iI 0) C dX5_leastRest_1 rfl ?_
  refine z_put (ci := 5) (ws' := [(r, .inr (5, [.ref e1, .int (iI (↑n)), .ref e2, .ref e3, .ref e4, .ref e5, .ref e6, .ref e7, .ref e8, .int (iI L), .int d, .ref e9, .ref e10, .ref e11, .ref e12, .ref e13, .int (iI sz), .int (iI mo), .ref e14, .int (iI 0)])), (e1, ar cI 8 ND), (e2, ai cI 8 AU), (e3, ai cI 8 LE), (e4, ai cI 8 SN), (e5, ar cI 8 US), (e6, ai cI 80 KK), (e7, ai cI 80 AT), (e8, ai cI 80 LF), (e9, ar cI 6 KN), (e10, ai cI 32 PL), (e11, ai cI 32 HE), (e12, ai cI 32 TU), (e13, ai cI 32 MA), (e14, ai cI 201 CU)]) C (hi_X5_leastRest_X5) tyX5_ok nmX5 0 rfl rfl 19 (by decide) (by decide +kernel) rfl (tyX5_ok 19 (by decide)) rfl rfl (Nat.le_of_ble_eq_true rfl) rfl dX5_leastRest_2 ?_
  refine z_aload_n (i := 0) C dX5_leastRest_5 rfl rfl ?_
  refine z_callV (n := 0) (As := []) (st := []) (fr := []) C hE (k_rfewest l D cI cZ cM cL r e1 e2 e3 e4 e5 e6 e7 e8 e9 e10 e11 e12 e13 e14 n L d sz mo 0 ND US KN AU LE SN KK AT LF PL HE TU MA CU  hL) gX5_leastRest_X5_fewest rfl ⟨rfl, rfl⟩ (by decide +kernel) ⟨Nat.le_of_ble_eq_true rfl, Nat.le_of_ble_eq_true rfl⟩ rfl rfl (by rw [List.append_nil]) 0 rfl rfl rfl (Nat.le_of_ble_eq_true rfl) ⟨Nat.le_of_ble_eq_true rfl, Nat.le_of_ble_eq_true rfl⟩ dX5_leastRest_6 (fun r w1 hpo => ?_)
  obtain ⟨rfl, C1, rfl, hC1⟩ := hpo
  rw [List.append_nil]
  refine (show zG E Q (0) (0) [(r, .inr (5, [.ref e1, .int (iI (↑n)), .ref e2, .ref e3, .ref e4, .ref e5, .ref e6, .ref e7, .ref e8, .int (iI L), .int d, .ref e9, .ref e10, .ref e11, .ref e12, .ref e13, .int (iI sz), .int (iI mo), .ref e14, .int (iI 0)])), (e1, ar cI 8 ND), (e2, ai cI 8 AU), (e3, ai cI 8 LE), (e4, ai cI 8 SN), (e5, ar cI 8 US), (e6, ai cI 80 KK), (e7, ai cI 80 AT), (e8, ai cI 80 LF), (e9, ar cI 6 KN), (e10, ai cI 32 PL), (e11, ai cI 32 HE), (e12, ai cI 32 TU), (e13, ai cI 32 MA), (e14, ai cI 201 C1)] [some (.ref r), none] 9 [] from ?_)
  refine z_iconst (v := iI 0) C dX5_leastRest_9 rfl ?_
  refine z_istore_n (i := 1) (lv' := [some (.ref r), some (.int (iI 0))]) C dX5_leastRest_10 rfl rfl rfl ?_
  exact LQ C1 hC1 (L.toNat + 1) 0 (by omega) (by omega) (fun y a b => by omega)
theorem hi_X5_ways_X5 : ∀ w ∈ wsX50, w ∈ wsX5_ways := by decide +kernel
set_option maxHeartbeats 1000000 in
set_option maxRecDepth 100000 in
theorem k_rways (l : Launch) (D : va_G) (cI cZ cM cL : ClassId) (r e1 e2 e3 e4 e5 e6 e7 e8 e9 e10 e11 e12 e13 e14 : Nat) (n : Nat) (L : Int) (d : Int32) (sz mo th : Int) (ND US KN : Int → Int32) (AU LE SN KK AT LF PL HE TU MA CU : Int → Int) (hL : 0 ≤ L ∧ L ≤ 200) : zN l yX5_ways wsX5_ways { frames := 0, cells := 0, slots := 0, locals := 0 } D (zTy cI cZ cM cL) [.ref r] (rfW cI r e1 e2 e3 e4 e5 e6 e7 e8 e9 e10 e11 e12 e13 e14 n L d sz mo th ND US KN AU LE SN KK AT LF PL HE TU MA CU) (fun r9 w => r9 = some (.int (iI (wyt d (L + 1).toNat 20 L))) ∧ ∃ C1 : Int → Int, w = (rfW cI r e1 e2 e3 e4 e5 e6 e7 e8 e9 e10 e11 e12 e13 e14 n L d sz mo 0 ND US KN AU LE SN KK AT LF PL HE TU MA C1)) 0 0 := by
  refine zN_of (cc := cX5_ways) (maxL := 3) (lv0 := [some (.ref r), none, none]) (by decide) rfl rfl (Nat.le_of_ble_eq_true rfl) rfl ?_
  intro E Q C hE hR hI0
  refine (show zG E Q 0 0 [(r, .inr (5, [.ref e1, .int (iI (↑n)), .ref e2, .ref e3, .ref e4, .ref e5, .ref e6, .ref e7, .ref e8, .int (iI L), .int d, .ref e9, .ref e10, .ref e11, .ref e12, .ref e13, .int (iI sz), .int (iI mo), .ref e14, .int (iI th)])), (e1, ar cI 8 ND), (e2, ai cI 8 AU), (e3, ai cI 8 LE), (e4, ai cI 8 SN), (e5, ar cI 8 US), (e6, ai cI 80 KK), (e7, ai cI 80 AT), (e8, ai cI 80 LF), (e9, ar cI 6 KN), (e10, ai cI 32 PL), (e11, ai cI 32 HE), (e12, ai cI 32 TU), (e13, ai cI 32 MA), (e14, ai cI 201 CU)] [some (.ref r), none, none] 0 [] from ?_)
  have lq : ∀ (z j : Nat) (C1 : Int → Int), j ≤ 20 → 20 - j < z → (∀ y : Int, 0 ≤ y → y ≤ L → C1 y = wyt d (L + 1).toNat j y) → zG E Q 0 0 [(r, .inr (5, [.ref e1, .int (iI (↑n)), .ref e2, .ref e3, .ref e4, .ref e5, .ref e6, .ref e7, .ref e8, .int (iI L), .int d, .ref e9, .ref e10, .ref e11, .ref e12, .ref e13, .int (iI sz), .int (iI mo), .ref e14, .int (iI 0)])), (e1, ar cI 8 ND), (e2, ai cI 8 AU), (e3, ai cI 8 LE), (e4, ai cI 8 SN), (e5, ar cI 8 US), (e6, ai cI 80 KK), (e7, ai cI 80 AT), (e8, ai cI 80 LF), (e9, ar cI 6 KN), (e10, ai cI 32 PL), (e11, ai cI 32 HE), (e12, ai cI 32 TU), (e13, ai cI 32 MA), (e14, ai cI 201 C1)] [some (.ref r), some (.int (iI (↑j + 1))), none] 38 [] := by
    intro z
    induction z with
    | zero => intro j C1 hj hjn hC; omega
    | succ z ih =>
      intro j C1 hj hjn hC
      have lr : j < 20 → ∀ (k : Nat) (q : Nat) (C2 : Int → Int), j + 1 ≤ q → (q ≤ L.toNat + 1 ∨ q = j + 1) → L.toNat + 22 - q < k → (q = j + 1 ∨ (hb d (iI ↑j) ∧ (q : Int) ≤ L + 1)) → (∀ y : Int, 0 ≤ y → y ≤ L → C2 y = wyi (↑j + 1) (wyt d (L + 1).toNat j) q y) → zG E Q (0) (0) [(r, .inr (5, [.ref e1, .int (iI (↑n)), .ref e2, .ref e3, .ref e4, .ref e5, .ref e6, .ref e7, .ref e8, .int (iI L), .int d, .ref e9, .ref e10, .ref e11, .ref e12, .ref e13, .int (iI sz), .int (iI mo), .ref e14, .int (iI 0)])), (e1, ar cI 8 ND), (e2, ai cI 8 AU), (e3, ai cI 8 LE), (e4, ai cI 8 SN), (e5, ar cI 8 US), (e6, ai cI 80 KK), (e7, ai cI 80 AT), (e8, ai cI 80 LF), (e9, ar cI 6 KN), (e10, ai cI 32 PL), (e11, ai cI 32 HE), (e12, ai cI 32 TU), (e13, ai cI 32 MA), (e14, ai cI 201 C2)] [some (.ref r), some (.int (iI (↑j + 1))), some (.int (iI ↑q))] 46 [] := by
        intro hj20 k
        induction k with
        | zero => intro q C2 hq1 hq2 hqn hQ hD; omega
        | succ k ih2 =>
          intro q C2 hq1 hq2 hqn hQ hD
          refine z_iload_n (i := 2) C dX5_ways_46 rfl rfl ?_
          refine z_aload_n (i := 0) C dX5_ways_47 rfl rfl ?_
          refine z_get (ci := 5) C (hi_X5_ways_X5) 0 rfl rfl 9 (by decide) (by decide +kernel) rfl dX5_ways_48 ?_
          refine z_icmp_gtI (tgt := 98) C dX5_ways_51 (by decide) ⟨by omega, by omega⟩ ⟨by omega, by omega⟩ (fun hk2 => ?_) (fun hk2 => ?_)
          · refine z_iincI (v := ↑(j + 1) + 1) (lv' := [some (.ref r), some (.int (iI (↑(j + 1) + 1))), some (.int (iI ↑q))]) C dX5_ways_98 rfl (by omega) rfl ?_
            refine z_goto (tgt := 38) C dX5_ways_101 (by decide) ?_
            refine z_le (r := [some (.ref r), some (.int (iI (↑(j + 1) + 1))), none]) ⟨Or.inr rfl, Or.inr rfl, Or.inl rfl, trivial⟩ ?_
            exact ih (j + 1) C2 (by omega) (by omega) (wy_ex hL.1 hD hQ (by first | exact Or.inl (by omega) | exact Or.inr (mt hb1.mpr hv)))
          · refine z_aload_n (i := 0) C dX5_ways_54 rfl rfl ?_
            refine z_get (ci := 5) C (hi_X5_ways_X5) 0 rfl rfl 10 (by decide) (by decide +kernel) rfl dX5_ways_55 ?_
            refine z_iload_n (i := 1) C dX5_ways_58 rfl rfl ?_
            refine z_iconst (v := iI 1) C dX5_ways_59 rfl ?_
            refine z_isubI (v := (↑j + 1) - 1) C dX5_ways_60 (by omega) ?_
            refine z_top (y := iI ↑j) (by rw [show ↑j + 1 - 1 = (↑j : Int) by omega]) ?_
            refine z_ishr C dX5_ways_61 ?_
            refine z_iconst (v := iI 1) C dX5_ways_62 rfl ?_
            refine z_iand C dX5_ways_63 ?_
            refine z_iconst (v := iI 1) C dX5_ways_64 rfl ?_
            refine z_icmp_ne (tgt := 98) C dX5_ways_65 (by decide) (fun hv => ?_) (fun hv => ?_)
            · refine z_iincI (v := ↑(j + 1) + 1) (lv' := [some (.ref r), some (.int (iI (↑(j + 1) + 1))), some (.int (iI ↑q))]) C dX5_ways_98 rfl (by omega) rfl ?_
              refine z_goto (tgt := 38) C dX5_ways_101 (by decide) ?_
              refine z_le (r := [some (.ref r), some (.int (iI (↑(j + 1) + 1))), none]) ⟨Or.inr rfl, Or.inr rfl, Or.inl rfl, trivial⟩ ?_
              exact ih (j + 1) C2 (by omega) (by omega) (wy_ex hL.1 hD hQ (by first | exact Or.inl (by omega) | exact Or.inr (mt hb1.mpr hv)))
            · have ha9 := hD ↑q (by omega) (by omega)
              have hb9 := hD (↑q - (↑j + 1)) (by omega) (by omega)
              have hc9 := wyi_q (p := ↑j + 1) (m := L + 1) (B := wyt d (L + 1).toNat j) (by omega) (fun y a b => wyt_r j y) q ↑q (by omega) (by omega)
              have hd9 := wyi_q (p := ↑j + 1) (m := L + 1) (B := wyt d (L + 1).toNat j) (by omega) (fun y a b => wyt_r j y) q (↑q - (↑j + 1)) (by omega) (by omega)
              refine z_aload_n (i := 0) C dX5_ways_68 rfl rfl ?_
              refine z_get (ci := 5) C (hi_X5_ways_X5) 0 rfl rfl 18 (by decide) (by decide +kernel) rfl dX5_ways_69 ?_
              refine z_iload_n (i := 2) C dX5_ways_72 rfl rfl ?_
              refine z_aload_n (i := 0) C dX5_ways_73 rfl rfl ?_
              refine z_get (ci := 5) C (hi_X5_ways_X5) 0 rfl rfl 18 (by decide) (by decide +kernel) rfl dX5_ways_74 ?_
              refine z_iload_n (i := 2) C dX5_ways_77 rfl rfl ?_
              refine z_ialoadI 14 (he := rfl) C (zT_of hE (t0 := 0) rfl) (by omega) (by omega) (by decide) dX5_ways_78 ?_
              refine z_aload_n (i := 0) C dX5_ways_79 rfl rfl ?_
              refine z_get (ci := 5) C (hi_X5_ways_X5) 0 rfl rfl 18 (by decide) (by decide +kernel) rfl dX5_ways_80 ?_
              refine z_iload_n (i := 2) C dX5_ways_83 rfl rfl ?_
              refine z_iload_n (i := 1) C dX5_ways_84 rfl rfl ?_
              refine z_isubI (v := (↑q) - (↑j + 1)) C dX5_ways_85 (by omega) ?_
              refine z_ialoadI 14 (he := rfl) C (zT_of hE (t0 := 0) rfl) (by omega) (by omega) (by decide) dX5_ways_86 ?_
              refine z_iaddI (v := (C2 (↑q)) + (C2 ((↑q) - (↑j + 1)))) C dX5_ways_87 (by omega) ?_
              refine z_ldc (v := iI 1000007) C dX5_ways_88 (by decide +kernel) ?_
              refine z_iremI C dX5_ways_90 (by omega) (by omega) (by omega) (by omega) ?_
              refine z_iastoreI 14 (he := rfl) (ws' := [(r, .inr (5, [.ref e1, .int (iI (↑n)), .ref e2, .ref e3, .ref e4, .ref e5, .ref e6, .ref e7, .ref e8, .int (iI L), .int d, .ref e9, .ref e10, .ref e11, .ref e12, .ref e13, .int (iI sz), .int (iI mo), .ref e14, .int (iI 0)])), (e1, ar cI 8 ND), (e2, ai cI 8 AU), (e3, ai cI 8 LE), (e4, ai cI 8 SN), (e5, ar cI 8 US), (e6, ai cI 80 KK), (e7, ai cI 80 AT), (e8, ai cI 80 LF), (e9, ar cI 6 KN), (e10, ai cI 32 PL), (e11, ai cI 32 HE), (e12, ai cI 32 TU), (e13, ai cI 32 MA), (e14, ai cI 201 (zup C2 (↑q) (((C2 (↑q)) + (C2 ((↑q) - (↑j + 1)))) % 1000007)))]) C (zT_of hE (t0 := 0) rfl) (by omega) (by omega) (by decide) rfl dX5_ways_91 ?_
              refine z_iincI (v := ↑(q + 1)) (lv' := [some (.ref r), some (.int (iI (↑j + 1))), some (.int (iI (↑(q + 1))))]) C dX5_ways_92 rfl (by omega) rfl ?_
              refine z_goto (tgt := 46) C dX5_ways_95 (by decide) ?_
              exact ih2 (q + 1) _ (by omega) (by omega) (by omega) (Or.inr ⟨hb1.mp hv, by omega⟩) (wyS (by omega) (by omega) (by omega) hD rfl)
      refine z_iload_n (i := 1) C dX5_ways_38 rfl rfl ?_
      refine z_bipush (v := iI 20) C dX5_ways_39 (by decide) ?_
      refine z_icmp_gtI (tgt := 104) C dX5_ways_41 (by decide) ⟨by omega, by omega⟩ ⟨by omega, by omega⟩ (fun hk => ?_) (fun hk => ?_)
      · refine z_aload_n (i := 0) C dX5_ways_104 rfl rfl ?_
        refine z_get (ci := 5) C (hi_X5_ways_X5) 0 rfl rfl 18 (by decide) (by decide +kernel) rfl dX5_ways_105 ?_
        refine z_aload_n (i := 0) C dX5_ways_108 rfl rfl ?_
        refine z_get (ci := 5) C (hi_X5_ways_X5) 0 rfl rfl 9 (by decide) (by decide +kernel) rfl dX5_ways_109 ?_
        refine z_ialoadI 14 (he := rfl) C (zT_of hE (t0 := 0) rfl) (by omega) (by omega) (by decide) dX5_ways_112 ?_
        exact z_iret C hR dX5_ways_113 (Nat.le_of_ble_eq_true rfl) (Nat.le_of_ble_eq_true rfl) (⟨by rw [hC L hL.1 (Int.le_refl _), show j = 20 by omega], C1, rfl⟩)
      · refine z_iload_n (i := 1) C dX5_ways_44 rfl rfl ?_
        refine z_istore_n (i := 2) (lv' := [some (.ref r), some (.int (iI (↑j + 1))), some (.int (iI (↑j + 1)))]) C dX5_ways_45 rfl rfl rfl ?_
        refine (show zG E Q 0 0 [(r, .inr (5, [.ref e1, .int (iI (↑n)), .ref e2, .ref e3, .ref e4, .ref e5, .ref e6, .ref e7, .ref e8, .int (iI L), .int d, .ref e9, .ref e10, .ref e11, .ref e12, .ref e13, .int (iI sz), .int (iI mo), .ref e14, .int (iI 0)])), (e1, ar cI 8 ND), (e2, ai cI 8 AU), (e3, ai cI 8 LE), (e4, ai cI 8 SN), (e5, ar cI 8 US), (e6, ai cI 80 KK), (e7, ai cI 80 AT), (e8, ai cI 80 LF), (e9, ar cI 6 KN), (e10, ai cI 32 PL), (e11, ai cI 32 HE), (e12, ai cI 32 TU), (e13, ai cI 32 MA), (e14, ai cI 201 C1)] [some (.ref r), some (.int (iI (↑j + 1))), some (.int (iI ↑(j + 1)))] 46 [] from ?_)
        exact lr (by omega) (L.toNat + 23) (j + 1) C1 (by omega) (Or.inr rfl) (by omega) (Or.inl rfl) (fun y a b => by rw [hC y a b, wyi_lo (j + 1) (by omega)])
  have lp : ∀ (z : Nat) (j : Nat) (C1 : Int → Int), (j : Int) ≤ L + 1 → L.toNat + 1 - j < z → (∀ y : Int, 0 ≤ y → y < (j : Int) → C1 y = if y = 0 then 1 else 0) → zG E Q (0) (0) [(r, .inr (5, [.ref e1, .int (iI (↑n)), .ref e2, .ref e3, .ref e4, .ref e5, .ref e6, .ref e7, .ref e8, .int (iI L), .int d, .ref e9, .ref e10, .ref e11, .ref e12, .ref e13, .int (iI sz), .int (iI mo), .ref e14, .int (iI 0)])), (e1, ar cI 8 ND), (e2, ai cI 8 AU), (e3, ai cI 8 LE), (e4, ai cI 8 SN), (e5, ar cI 8 US), (e6, ai cI 80 KK), (e7, ai cI 80 AT), (e8, ai cI 80 LF), (e9, ar cI 6 KN), (e10, ai cI 32 PL), (e11, ai cI 32 HE), (e12, ai cI 32 TU), (e13, ai cI 32 MA), (e14, ai cI 201 C1)] [some (.ref r), some (.int (iI ↑j)), none] 7 [] := by
    intro z
    induction z with
    | zero => intro j C1 hj hjn hC; omega
    | succ z ih =>
      intro j C1 hj hjn hC
      refine z_iload_n (i := 1) C dX5_ways_7 rfl rfl ?_
      refine z_aload_n (i := 0) C dX5_ways_8 rfl rfl ?_
      refine z_get (ci := 5) C (hi_X5_ways_X5) 0 rfl rfl 9 (by decide) (by decide +kernel) rfl dX5_ways_9 ?_
      refine z_icmp_gtI (tgt := 36) C dX5_ways_12 (by decide) ⟨by omega, by omega⟩ ⟨by omega, by omega⟩ (fun hk => ?_) (fun hk => ?_)
      · refine z_iconst (v := iI 1) C dX5_ways_36 rfl ?_
        refine z_istore_n (i := 1) (lv' := [some (.ref r), some (.int (iI 1)), none]) C dX5_ways_37 rfl rfl rfl ?_
        refine (show zG E Q 0 0 [(r, .inr (5, [.ref e1, .int (iI (↑n)), .ref e2, .ref e3, .ref e4, .ref e5, .ref e6, .ref e7, .ref e8, .int (iI L), .int d, .ref e9, .ref e10, .ref e11, .ref e12, .ref e13, .int (iI sz), .int (iI mo), .ref e14, .int (iI 0)])), (e1, ar cI 8 ND), (e2, ai cI 8 AU), (e3, ai cI 8 LE), (e4, ai cI 8 SN), (e5, ar cI 8 US), (e6, ai cI 80 KK), (e7, ai cI 80 AT), (e8, ai cI 80 LF), (e9, ar cI 6 KN), (e10, ai cI 32 PL), (e11, ai cI 32 HE), (e12, ai cI 32 TU), (e13, ai cI 32 MA), (e14, ai cI 201 C1)] [some (.ref r), some (.int (iI (↑(0 : Nat) + 1))), none] 38 [] from ?_)
        exact lq 21 0 C1 (by omega) (by omega) (fun y a b => by rw [hC y a (by omega)]; rfl)
      · refine z_aload_n (i := 0) C dX5_ways_15 rfl rfl ?_
        refine z_get (ci := 5) C (hi_X5_ways_X5) 0 rfl rfl 18 (by decide) (by decide +kernel) rfl dX5_ways_16 ?_
        refine z_iload_n (i := 1) C dX5_ways_19 rfl rfl ?_
        refine z_iload_n (i := 1) C dX5_ways_20 rfl rfl ?_
        refine z_if_neI (tgt := 28) C dX5_ways_21 (by decide) ⟨by omega, by omega⟩ (fun hv => ?_) (fun hv => ?_)
        · refine z_iconst (v := iI 0) C dX5_ways_28 rfl ?_
          refine z_iastoreI 14 (he := rfl) (ws' := [(r, .inr (5, [.ref e1, .int (iI (↑n)), .ref e2, .ref e3, .ref e4, .ref e5, .ref e6, .ref e7, .ref e8, .int (iI L), .int d, .ref e9, .ref e10, .ref e11, .ref e12, .ref e13, .int (iI sz), .int (iI mo), .ref e14, .int (iI 0)])), (e1, ar cI 8 ND), (e2, ai cI 8 AU), (e3, ai cI 8 LE), (e4, ai cI 8 SN), (e5, ar cI 8 US), (e6, ai cI 80 KK), (e7, ai cI 80 AT), (e8, ai cI 80 LF), (e9, ar cI 6 KN), (e10, ai cI 32 PL), (e11, ai cI 32 HE), (e12, ai cI 32 TU), (e13, ai cI 32 MA), (e14, ai cI 201 (zup C1 (↑j) 0))]) C (zT_of hE (t0 := 0) rfl) (by omega) (by omega) (by decide) rfl dX5_ways_29 ?_
          refine z_iincI (v := ↑(j + 1)) (lv' := [some (.ref r), some (.int (iI (↑(j + 1)))), none]) C dX5_ways_30 rfl (by omega) rfl ?_
          refine z_goto (tgt := 7) C dX5_ways_33 (by decide) ?_
          exact ih (j + 1) _ (by omega) (by omega) (zup_lo (v := fun y => if y = 0 then 1 else 0) hC (by first | rw [if_pos hv] | rw [if_neg hv]))
        · refine z_iconst (v := iI 1) C dX5_ways_24 rfl ?_
          refine z_goto (tgt := 29) C dX5_ways_25 (by decide) ?_
          refine z_iastoreI 14 (he := rfl) (ws' := [(r, .inr (5, [.ref e1, .int (iI (↑n)), .ref e2, .ref e3, .ref e4, .ref e5, .ref e6, .ref e7, .ref e8, .int (iI L), .int d, .ref e9, .ref e10, .ref e11, .ref e12, .ref e13, .int (iI sz), .int (iI mo), .ref e14, .int (iI 0)])), (e1, ar cI 8 ND), (e2, ai cI 8 AU), (e3, ai cI 8 LE), (e4, ai cI 8 SN), (e5, ar cI 8 US), (e6, ai cI 80 KK), (e7, ai cI 80 AT), (e8, ai cI 80 LF), (e9, ar cI 6 KN), (e10, ai cI 32 PL), (e11, ai cI 32 HE), (e12, ai cI 32 TU), (e13, ai cI 32 MA), (e14, ai cI 201 (zup C1 (↑j) 1))]) C (zT_of hE (t0 := 0) rfl) (by omega) (by omega) (by decide) rfl dX5_ways_29 ?_
          refine z_iincI (v := ↑(j + 1)) (lv' := [some (.ref r), some (.int (iI (↑(j + 1)))), none]) C dX5_ways_30 rfl (by omega) rfl ?_
          refine z_goto (tgt := 7) C dX5_ways_33 (by decide) ?_
          exact ih (j + 1) _ (by omega) (by omega) (zup_lo (v := fun y => if y = 0 then 1 else 0) hC (by first | rw [if_pos hv] | rw [if_neg hv]))
  refine z_aload_n (i := 0) C dX5_ways_0 rfl rfl ?_
  refine z_iconst (v := iI 0) C dX5_ways_1 rfl ?_
  refine z_put (ci := 5) (ws' := [(r, .inr (5, [.ref e1, .int (iI (↑n)), .ref e2, .ref e3, .ref e4, .ref e5, .ref e6, .ref e7, .ref e8, .int (iI L), .int d, .ref e9, .ref e10, .ref e11, .ref e12, .ref e13, .int (iI sz), .int (iI mo), .ref e14, .int (iI 0)])), (e1, ar cI 8 ND), (e2, ai cI 8 AU), (e3, ai cI 8 LE), (e4, ai cI 8 SN), (e5, ar cI 8 US), (e6, ai cI 80 KK), (e7, ai cI 80 AT), (e8, ai cI 80 LF), (e9, ar cI 6 KN), (e10, ai cI 32 PL), (e11, ai cI 32 HE), (e12, ai cI 32 TU), (e13, ai cI 32 MA), (e14, ai cI 201 CU)]) C (hi_X5_ways_X5) tyX5_ok nmX5 0 rfl rfl 19 (by decide) (by decide +kernel) rfl (tyX5_ok 19 (by decide)) rfl rfl (Nat.le_of_ble_eq_true rfl) rfl dX5_ways_2 ?_
  refine z_iconst (v := iI 0) C dX5_ways_5 rfl ?_
  refine z_istore_n (i := 1) (lv' := [some (.ref r), some (.int (iI 0)), none]) C dX5_ways_6 rfl rfl rfl ?_
  exact lp (L.toNat + 2) 0 CU (by omega) (by omega) (fun y a b => by omega)
