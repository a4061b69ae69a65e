/-! THE REFERENCE: what is reached, what is counted. -/
theorem hi_X5_closed_X5 : ∀ w ∈ wsX50, w ∈ wsX5_closed := by decide +kernel
set_option maxHeartbeats 1000000 in
set_option maxRecDepth 100000 in
theorem k_rclosed (l : Launch) (D : va_G) (cI cZ cM cL : ClassId) (r e1 e2 e3 e4 e5 e6 e7 e8 e9 e10 e11 e12 e13 e14 : Nat) (n : Nat) (L : Int) (d : Int32) (sz mo th : Int) (ND US KN : Int → Int32) (AU LE SN KK AT LF PL HE TU MA CU : Int → Int) (set : Int32) : zN l yX5_closed wsX5_closed { frames := 0, cells := 0, slots := 0, locals := 0 } D (zTy cI cZ cM cL) [.ref r, .int set] (rfW cI r e1 e2 e3 e4 e5 e6 e7 e8 e9 e10 e11 e12 e13 e14 n L d sz mo th ND US KN AU LE SN KK AT LF PL HE TU MA CU) (fun r9 w => r9 = some (.int (rch ND (iI (-1)) 8 set)) ∧ w = (rfW cI r e1 e2 e3 e4 e5 e6 e7 e8 e9 e10 e11 e12 e13 e14 n L d sz mo th ND US KN AU LE SN KK AT LF PL HE TU MA CU)) 0 0 := by
  refine zN_of (cc := cX5_closed) (maxL := 5) (lv0 := [some (.ref r), some (.int set), none, none, none]) (by decide) rfl rfl (Nat.le_of_ble_eq_true rfl) rfl ?_
  intro E Q C hE hR hI0
  refine (show zG E Q 0 0 [(r, .inr (5, [.ref e1, .int (iI (↑n)), .ref e2, .ref e3, .ref e4, .ref e5, .ref e6, .ref e7, .ref e8, .int (iI L), .int d, .ref e9, .ref e10, .ref e11, .ref e12, .ref e13, .int (iI sz), .int (iI mo), .ref e14, .int (iI th)])), (e1, ar cI 8 ND), (e2, ai cI 8 AU), (e3, ai cI 8 LE), (e4, ai cI 8 SN), (e5, ar cI 8 US), (e6, ai cI 80 KK), (e7, ai cI 80 AT), (e8, ai cI 80 LF), (e9, ar cI 6 KN), (e10, ai cI 32 PL), (e11, ai cI 32 HE), (e12, ai cI 32 TU), (e13, ai cI 32 MA), (e14, ai cI 201 CU)] [some (.ref r), some (.int set), none, none, none] 0 [] from ?_)
  have lp : ∀ (z i : Nat), i ≤ 8 → 8 - i < z → zG E Q 0 0 [(r, .inr (5, [.ref e1, .int (iI (↑n)), .ref e2, .ref e3, .ref e4, .ref e5, .ref e6, .ref e7, .ref e8, .int (iI L), .int d, .ref e9, .ref e10, .ref e11, .ref e12, .ref e13, .int (iI sz), .int (iI mo), .ref e14, .int (iI th)])), (e1, ar cI 8 ND), (e2, ai cI 8 AU), (e3, ai cI 8 LE), (e4, ai cI 8 SN), (e5, ar cI 8 US), (e6, ai cI 80 KK), (e7, ai cI 80 AT), (e8, ai cI 80 LF), (e9, ar cI 6 KN), (e10, ai cI 32 PL), (e11, ai cI 32 HE), (e12, ai cI 32 TU), (e13, ai cI 32 MA), (e14, ai cI 201 CU)] [some (.ref r), some (.int set), some (.int (rch ND (iI (-1)) i set)), some (.int (iI ↑i)), none] 4 [] := by
    intro z
    induction z with
    | zero => intro i hi hin; omega
    | succ z ih =>
      intro i hi hin
      have l48 : i < 8 → zG E Q 0 0 [(r, .inr (5, [.ref e1, .int (iI (↑n)), .ref e2, .ref e3, .ref e4, .ref e5, .ref e6, .ref e7, .ref e8, .int (iI L), .int d, .ref e9, .ref e10, .ref e11, .ref e12, .ref e13, .int (iI sz), .int (iI mo), .ref e14, .int (iI th)])), (e1, ar cI 8 ND), (e2, ai cI 8 AU), (e3, ai cI 8 LE), (e4, ai cI 8 SN), (e5, ar cI 8 US), (e6, ai cI 80 KK), (e7, ai cI 80 AT), (e8, ai cI 80 LF), (e9, ar cI 6 KN), (e10, ai cI 32 PL), (e11, ai cI 32 HE), (e12, ai cI 32 TU), (e13, ai cI 32 MA), (e14, ai cI 201 CU)] [some (.ref r), some (.int set), some (.int (rcr ND (iI (-1)) 8 (rch ND (iI (-1)) i set))), some (.int (iI ↑i)), some (.int (iI ↑(8 : Nat)))] 50 [] := by
        intro hi8
        refine z_iincI (v := ↑(i + 1)) (lv' := [some (.ref r), some (.int set), some (.int (rcr ND (iI (-1)) 8 (rch ND (iI (-1)) i set))), some (.int (iI (↑(i + 1)))), some (.int (iI ↑(8 : Nat)))]) C dX5_closed_50 rfl (by omega) rfl ?_
        refine z_goto (tgt := 4) C dX5_closed_53 (by decide) ?_
        refine z_le (r := [some (.ref r), some (.int set), some (.int (rch ND (iI (-1)) (i + 1) set)), some (.int (iI ↑(i + 1))), none]) (by refine ⟨Or.inr rfl, Or.inr rfl, Or.inr rfl, Or.inr rfl, Or.inl rfl, trivial⟩) ?_
        exact ih (i + 1) (by omega) (by omega)
      have lq : i < 8 → ∀ (k j : Nat), j ≤ 8 → 8 - j < k → zG E Q 0 0 [(r, .inr (5, [.ref e1, .int (iI (↑n)), .ref e2, .ref e3, .ref e4, .ref e5, .ref e6, .ref e7, .ref e8, .int (iI L), .int d, .ref e9, .ref e10, .ref e11, .ref e12, .ref e13, .int (iI sz), .int (iI mo), .ref e14, .int (iI th)])), (e1, ar cI 8 ND), (e2, ai cI 8 AU), (e3, ai cI 8 LE), (e4, ai cI 8 SN), (e5, ar cI 8 US), (e6, ai cI 80 KK), (e7, ai cI 80 AT), (e8, ai cI 80 LF), (e9, ar cI 6 KN), (e10, ai cI 32 PL), (e11, ai cI 32 HE), (e12, ai cI 32 TU), (e13, ai cI 32 MA), (e14, ai cI 201 CU)] [some (.ref r), some (.int set), some (.int (rcr ND (iI (-1)) j (rch ND (iI (-1)) i set))), some (.int (iI ↑i)), some (.int (iI ↑j))] 13 [] := by
        intro hi8 k
        induction k with
        | zero => intro j hj hjn; omega
        | succ k ih2 =>
          intro j hj hjn
          refine z_iload C dX5_closed_13 rfl ?_
          refine z_bipush (v := iI 8) C dX5_closed_15 (by decide) ?_
          refine z_icmp_geI (tgt := 50) C dX5_closed_17 (by decide) ⟨by omega, by omega⟩ ⟨by omega, by omega⟩ (fun hk2 => ?_) (fun hk2 => ?_)
          · have e2 : j = 8 := by omega
            subst e2
            exact l48 hi8
          · refine z_iload_n (i := 2) C dX5_closed_20 rfl rfl ?_
            refine z_iload_n (i := 2) C dX5_closed_21 rfl rfl ?_
            refine z_iload C dX5_closed_22 rfl ?_
            refine z_ishr C dX5_closed_24 ?_
            refine z_iconst (v := iI 1) C dX5_closed_25 rfl ?_
            refine z_iand C dX5_closed_26 ?_
            refine z_iconst (v := iI 1) C dX5_closed_27 rfl ?_
            refine z_icmp_ne (tgt := 41) C dX5_closed_28 (by decide) (fun hv => ?_) (fun hv => ?_)
            · refine z_iconst (v := iI 0) C dX5_closed_41 rfl ?_
              refine z_ior C dX5_closed_42 ?_
              refine z_istore_n (i := 2) (lv' := [some (.ref r), some (.int set), some (.int ((rcr ND (iI (-1)) j (rch ND (iI (-1)) i set)) ||| (iI 0))), some (.int (iI ↑i)), some (.int (iI ↑j))]) C dX5_closed_43 rfl rfl rfl ?_
              refine z_iincI (v := ↑(j + 1)) (lv' := [some (.ref r), some (.int set), some (.int ((rcr ND (iI (-1)) j (rch ND (iI (-1)) i set)) ||| (iI 0))), some (.int (iI ↑i)), some (.int (iI (↑(j + 1))))]) C dX5_closed_44 rfl (by omega) rfl ?_
              refine z_goto (tgt := 13) C dX5_closed_47 (by decide) ?_
              have e1 : ((rcr ND (iI (-1)) j (rch ND (iI (-1)) i set)) ||| (iI 0)) = rcr ND (iI (-1)) (j + 1) (rch ND (iI (-1)) i set) := by
                first
                  | exact rcrT1 (hb1.mp hv)
                  | exact rcrF1 (mt hb1.mpr hv)
              rw [e1]
              exact ih2 (j + 1) (by omega) (by omega)
            · refine z_aload_n (i := 0) C dX5_closed_31 rfl rfl ?_
              refine z_get (ci := 5) C (hi_X5_closed_X5) 0 rfl rfl 0 (by decide) (by decide +kernel) rfl dX5_closed_32 ?_
              refine z_iload C dX5_closed_35 rfl ?_
              refine z_iaload C 1 rfl (zT_of hE (t0 := 0) rfl) (by omega) (by omega) (by decide) dX5_closed_37 ?_
              refine z_goto (tgt := 42) C dX5_closed_38 (by decide) ?_
              refine z_ior C dX5_closed_42 ?_
              refine z_istore_n (i := 2) (lv' := [some (.ref r), some (.int set), some (.int ((rcr ND (iI (-1)) j (rch ND (iI (-1)) i set)) ||| (ND (↑j)))), some (.int (iI ↑i)), some (.int (iI ↑j))]) C dX5_closed_43 rfl rfl rfl ?_
              refine z_iincI (v := ↑(j + 1)) (lv' := [some (.ref r), some (.int set), some (.int ((rcr ND (iI (-1)) j (rch ND (iI (-1)) i set)) ||| (ND (↑j)))), some (.int (iI ↑i)), some (.int (iI (↑(j + 1))))]) C dX5_closed_44 rfl (by omega) rfl ?_
              refine z_goto (tgt := 13) C dX5_closed_47 (by decide) ?_
              have e1 : ((rcr ND (iI (-1)) j (rch ND (iI (-1)) i set)) ||| (ND (↑j))) = rcr ND (iI (-1)) (j + 1) (rch ND (iI (-1)) i set) := by
                first
                  | exact rcrT1 (hb1.mp hv)
                  | exact rcrF1 (mt hb1.mpr hv)
              rw [e1]
              exact ih2 (j + 1) (by omega) (by omega)
      refine z_iload_n (i := 3) C dX5_closed_4 rfl rfl ?_
      refine z_bipush (v := iI 8) C dX5_closed_5 (by decide) ?_
      refine z_icmp_geI (tgt := 56) C dX5_closed_7 (by decide) ⟨by omega, by omega⟩ ⟨by omega, by omega⟩ (fun hk => ?_) (fun hk => ?_)
      · refine z_iload_n (i := 2) C dX5_closed_56 rfl rfl ?_
        exact z_iret C hR dX5_closed_57 (Nat.le_of_ble_eq_true rfl) (Nat.le_of_ble_eq_true rfl) (⟨by rw [show i = 8 by omega], rfl⟩)
      · refine z_iconst (v := iI 0) C dX5_closed_10 rfl ?_
        refine z_istore (lv' := [some (.ref r), some (.int set), some (.int (rch ND (iI (-1)) i set)), some (.int (iI ↑i)), some (.int (iI 0))]) C dX5_closed_11 rfl rfl ?_
        exact lq (by omega) (8 + 1) 0 (by omega) (by omega)
  refine z_iload_n (i := 1) C dX5_closed_0 rfl rfl ?_
  refine z_istore_n (i := 2) (lv' := [some (.ref r), some (.int set), some (.int set), none, none]) C dX5_closed_1 rfl rfl rfl ?_
  refine z_iconst (v := iI 0) C dX5_closed_2 rfl ?_
  refine z_istore_n (i := 3) (lv' := [some (.ref r), some (.int set), some (.int set), some (.int (iI 0)), none]) C dX5_closed_3 rfl rfl rfl ?_
  exact lp 9 0 (by omega) (by omega)
theorem hi_X5_used_X5 : ∀ w ∈ wsX50, w ∈ wsX5_used := by decide +kernel
set_option maxHeartbeats 1000000 in
set_option maxRecDepth 100000 in
theorem k_rused (l : Launch) (D : va_G) (cI cZ cM cL : ClassId) (r e1 e2 e3 e4 e5 e6 e7 e8 e9 e10 e11 e12 e13 e14 : Nat) (n : Nat) (L : Int) (d : Int32) (sz mo th : Int) (ND US KN : Int → Int32) (AU LE SN KK AT LF PL HE TU MA CU : Int → Int) (i0 : Int) (hn : n ≤ 8) (hz : ∀ k : Int, n ≤ k → k < 8 → US k = 0) : zN l yX5_used wsX5_used { frames := 0, cells := 0, slots := 0, locals := 0 } D (zTy cI cZ cM cL) [.ref r, .int (iI i0)] (rfW cI r e1 e2 e3 e4 e5 e6 e7 e8 e9 e10 e11 e12 e13 e14 n L d sz mo th ND US KN AU LE SN KK AT LF PL HE TU MA CU) (fun r9 w => r9 = some (.int (mcB US i0)) ∧ w = (rfW cI r e1 e2 e3 e4 e5 e6 e7 e8 e9 e10 e11 e12 e13 e14 n L d sz mo th ND US KN AU LE SN KK AT LF PL HE TU MA CU)) 0 0 := by
  refine zN_of (cc := cX5_used) (maxL := 5) (lv0 := [some (.ref r), some (.int (iI i0)), none, none, none]) (by decide) rfl rfl (Nat.le_of_ble_eq_true rfl) rfl ?_
  intro E Q C hE hR hI0
  refine (show zG E Q 0 0 [(r, .inr (5, [.ref e1, .int (iI (↑n)), .ref e2, .ref e3, .ref e4, .ref e5, .ref e6, .ref e7, .ref e8, .int (iI L), .int d, .ref e9, .ref e10, .ref e11, .ref e12, .ref e13, .int (iI sz), .int (iI mo), .ref e14, .int (iI th)])), (e1, ar cI 8 ND), (e2, ai cI 8 AU), (e3, ai cI 8 LE), (e4, ai cI 8 SN), (e5, ar cI 8 US), (e6, ai cI 80 KK), (e7, ai cI 80 AT), (e8, ai cI 80 LF), (e9, ar cI 6 KN), (e10, ai cI 32 PL), (e11, ai cI 32 HE), (e12, ai cI 32 TU), (e13, ai cI 32 MA), (e14, ai cI 201 CU)] [some (.ref r), some (.int (iI i0)), none, none, none] 0 [] from ?_)
  have lp : ∀ (z i : Nat), i ≤ 8 → 8 - i < z → zG E Q 0 0 [(r, .inr (5, [.ref e1, .int (iI (↑n)), .ref e2, .ref e3, .ref e4, .ref e5, .ref e6, .ref e7, .ref e8, .int (iI L), .int d, .ref e9, .ref e10, .ref e11, .ref e12, .ref e13, .int (iI sz), .int (iI mo), .ref e14, .int (iI th)])), (e1, ar cI 8 ND), (e2, ai cI 8 AU), (e3, ai cI 8 LE), (e4, ai cI 8 SN), (e5, ar cI 8 US), (e6, ai cI 80 KK), (e7, ai cI 80 AT), (e8, ai cI 80 LF), (e9, ar cI 6 KN), (e10, ai cI 32 PL), (e11, ai cI 32 HE), (e12, ai cI 32 TU), (e13, ai cI 32 MA), (e14, ai cI 201 CU)] [some (.ref r), some (.int (iI i0)), some (.int (rcm US n i (iI 1 <<< (iI i0 &&& 31)))), some (.int (iI ↑i)), none] 6 [] := by
    intro z
    induction z with
    | zero => intro i hi hin; omega
    | succ z ih =>
      intro i hi hin
      have l48 : i < 8 → zG E Q 0 0 [(r, .inr (5, [.ref e1, .int (iI (↑n)), .ref e2, .ref e3, .ref e4, .ref e5, .ref e6, .ref e7, .ref e8, .int (iI L), .int d, .ref e9, .ref e10, .ref e11, .ref e12, .ref e13, .int (iI sz), .int (iI mo), .ref e14, .int (iI th)])), (e1, ar cI 8 ND), (e2, ai cI 8 AU), (e3, ai cI 8 LE), (e4, ai cI 8 SN), (e5, ar cI 8 US), (e6, ai cI 80 KK), (e7, ai cI 80 AT), (e8, ai cI 80 LF), (e9, ar cI 6 KN), (e10, ai cI 32 PL), (e11, ai cI 32 HE), (e12, ai cI 32 TU), (e13, ai cI 32 MA), (e14, ai cI 201 CU)] [some (.ref r), some (.int (iI i0)), some (.int (rcr US (iI (-1)) n (rcm US n i (iI 1 <<< (iI i0 &&& 31))))), some (.int (iI ↑i)), some (.int (iI ↑(n : Nat)))] 54 [] := by
        intro hi8
        refine z_iincI (v := ↑(i + 1)) (lv' := [some (.ref r), some (.int (iI i0)), some (.int (rcr US (iI (-1)) n (rcm US n i (iI 1 <<< (iI i0 &&& 31))))), some (.int (iI (↑(i + 1)))), some (.int (iI ↑(n : Nat)))]) C dX5_used_54 rfl (by omega) rfl ?_
        refine z_goto (tgt := 6) C dX5_used_57 (by decide) ?_
        refine z_le (r := [some (.ref r), some (.int (iI i0)), some (.int (rcm US n (i + 1) (iI 1 <<< (iI i0 &&& 31)))), some (.int (iI ↑(i + 1))), none]) (by refine ⟨Or.inr rfl, Or.inr rfl, Or.inr rfl, Or.inr rfl, Or.inl rfl, trivial⟩) ?_
        exact ih (i + 1) (by omega) (by omega)
      have lq : i < 8 → ∀ (k j : Nat), j ≤ n → n - j < k → zG E Q 0 0 [(r, .inr (5, [.ref e1, .int (iI (↑n)), .ref e2, .ref e3, .ref e4, .ref e5, .ref e6, .ref e7, .ref e8, .int (iI L), .int d, .ref e9, .ref e10, .ref e11, .ref e12, .ref e13, .int (iI sz), .int (iI mo), .ref e14, .int (iI th)])), (e1, ar cI 8 ND), (e2, ai cI 8 AU), (e3, ai cI 8 LE), (e4, ai cI 8 SN), (e5, ar cI 8 US), (e6, ai cI 80 KK), (e7, ai cI 80 AT), (e8, ai cI 80 LF), (e9, ar cI 6 KN), (e10, ai cI 32 PL), (e11, ai cI 32 HE), (e12, ai cI 32 TU), (e13, ai cI 32 MA), (e14, ai cI 201 CU)] [some (.ref r), some (.int (iI i0)), some (.int (rcr US (iI (-1)) j (rcm US n i (iI 1 <<< (iI i0 &&& 31))))), some (.int (iI ↑i)), some (.int (iI ↑j))] 15 [] := by
        intro hi8 k
        induction k with
        | zero => intro j hj hjn; omega
        | succ k ih2 =>
          intro j hj hjn
          refine z_iload C dX5_used_15 rfl ?_
          refine z_aload_n (i := 0) C dX5_used_17 rfl rfl ?_
          refine z_get (ci := 5) C (hi_X5_used_X5) 0 rfl rfl 1 (by decide) (by decide +kernel) rfl dX5_used_18 ?_
          refine z_icmp_geI (tgt := 54) C dX5_used_21 (by decide) ⟨by omega, by omega⟩ ⟨by omega, by omega⟩ (fun hk2 => ?_) (fun hk2 => ?_)
          · have e2 : j = n := by omega
            rw [e2]
            exact l48 hi8
          · refine z_iload_n (i := 2) C dX5_used_24 rfl rfl ?_
            refine z_iload_n (i := 2) C dX5_used_25 rfl rfl ?_
            refine z_iload C dX5_used_26 rfl ?_
            refine z_ishr C dX5_used_28 ?_
            refine z_iconst (v := iI 1) C dX5_used_29 rfl ?_
            refine z_iand C dX5_used_30 ?_
            refine z_iconst (v := iI 1) C dX5_used_31 rfl ?_
            refine z_icmp_ne (tgt := 45) C dX5_used_32 (by decide) (fun hv => ?_) (fun hv => ?_)
            · refine z_iconst (v := iI 0) C dX5_used_45 rfl ?_
              refine z_ior C dX5_used_46 ?_
              refine z_istore_n (i := 2) (lv' := [some (.ref r), some (.int (iI i0)), some (.int ((rcr US (iI (-1)) j (rcm US n i (iI 1 <<< (iI i0 &&& 31)))) ||| (iI 0))), some (.int (iI ↑i)), some (.int (iI ↑j))]) C dX5_used_47 rfl rfl rfl ?_
              refine z_iincI (v := ↑(j + 1)) (lv' := [some (.ref r), some (.int (iI i0)), some (.int ((rcr US (iI (-1)) j (rcm US n i (iI 1 <<< (iI i0 &&& 31)))) ||| (iI 0))), some (.int (iI ↑i)), some (.int (iI (↑(j + 1))))]) C dX5_used_48 rfl (by omega) rfl ?_
              refine z_goto (tgt := 15) C dX5_used_51 (by decide) ?_
              have e1 : ((rcr US (iI (-1)) j (rcm US n i (iI 1 <<< (iI i0 &&& 31)))) ||| (iI 0)) = rcr US (iI (-1)) (j + 1) (rcm US n i (iI 1 <<< (iI i0 &&& 31))) := by
                first
                  | exact rcrT1 (hb1.mp hv)
                  | exact rcrF1 (mt hb1.mpr hv)
              rw [e1]
              exact ih2 (j + 1) (by omega) (by omega)
            · refine z_aload_n (i := 0) C dX5_used_35 rfl rfl ?_
              refine z_get (ci := 5) C (hi_X5_used_X5) 0 rfl rfl 5 (by decide) (by decide +kernel) rfl dX5_used_36 ?_
              refine z_iload C dX5_used_39 rfl ?_
              refine z_iaload C 5 rfl (zT_of hE (t0 := 0) rfl) (by omega) (by omega) (by decide) dX5_used_41 ?_
              refine z_goto (tgt := 46) C dX5_used_42 (by decide) ?_
              refine z_ior C dX5_used_46 ?_
              refine z_istore_n (i := 2) (lv' := [some (.ref r), some (.int (iI i0)), some (.int ((rcr US (iI (-1)) j (rcm US n i (iI 1 <<< (iI i0 &&& 31)))) ||| (US (↑j)))), some (.int (iI ↑i)), some (.int (iI ↑j))]) C dX5_used_47 rfl rfl rfl ?_
              refine z_iincI (v := ↑(j + 1)) (lv' := [some (.ref r), some (.int (iI i0)), some (.int ((rcr US (iI (-1)) j (rcm US n i (iI 1 <<< (iI i0 &&& 31)))) ||| (US (↑j)))), some (.int (iI ↑i)), some (.int (iI (↑(j + 1))))]) C dX5_used_48 rfl (by omega) rfl ?_
              refine z_goto (tgt := 15) C dX5_used_51 (by decide) ?_
              have e1 : ((rcr US (iI (-1)) j (rcm US n i (iI 1 <<< (iI i0 &&& 31)))) ||| (US (↑j))) = rcr US (iI (-1)) (j + 1) (rcm US n i (iI 1 <<< (iI i0 &&& 31))) := by
                first
                  | exact rcrT1 (hb1.mp hv)
                  | exact rcrF1 (mt hb1.mpr hv)
              rw [e1]
              exact ih2 (j + 1) (by omega) (by omega)
      refine z_iload_n (i := 3) C dX5_used_6 rfl rfl ?_
      refine z_bipush (v := iI 8) C dX5_used_7 (by decide) ?_
      refine z_icmp_geI (tgt := 60) C dX5_used_9 (by decide) ⟨by omega, by omega⟩ ⟨by omega, by omega⟩ (fun hk => ?_) (fun hk => ?_)
      · refine z_iload_n (i := 2) C dX5_used_60 rfl rfl ?_
        exact z_iret C hR dX5_used_61 (Nat.le_of_ble_eq_true rfl) (Nat.le_of_ble_eq_true rfl) (⟨by rw [show i = 8 by omega, rcm_mc hn hz], rfl⟩)
      · refine z_iconst (v := iI 0) C dX5_used_12 rfl ?_
        refine z_istore (lv' := [some (.ref r), some (.int (iI i0)), some (.int (rcm US n i (iI 1 <<< (iI i0 &&& 31)))), some (.int (iI ↑i)), some (.int (iI 0))]) C dX5_used_13 rfl rfl ?_
        exact lq (by omega) (n + 1) 0 (by omega) (by omega)
  refine z_iconst (v := iI 1) C dX5_used_0 rfl ?_
  refine z_iload_n (i := 1) C dX5_used_1 rfl rfl ?_
  refine z_ishl C dX5_used_2 ?_
  refine z_istore_n (i := 2) (lv' := [some (.ref r), some (.int (iI i0)), some (.int ((iI 1) <<< ((iI i0) &&& 31))), none, none]) C dX5_used_3 rfl rfl rfl ?_
  refine z_iconst (v := iI 0) C dX5_used_4 rfl ?_
  refine z_istore_n (i := 3) (lv' := [some (.ref r), some (.int (iI i0)), some (.int ((iI 1) <<< ((iI i0) &&& 31))), some (.int (iI 0)), none]) C dX5_used_5 rfl rfl rfl ?_
  exact lp 9 0 (by omega) (by omega)
theorem hi_X5_counts_X5 : ∀ w ∈ wsX50, w ∈ wsX5_counts := by decide +kernel
set_option maxHeartbeats 1000000 in
set_option maxRecDepth 100000 in
theorem k_rcounts (l : Launch) (D : va_G) (cI cZ cM cL : ClassId) (r e1 e2 e3 e4 e5 e6 e7 e8 e9 e10 e11 e12 e13 e14 : Nat) (n : Nat) (L : Int) (d : Int32) (sz mo th : Int) (ND US KN : Int → Int32) (AU LE SN KK AT LF PL HE TU MA CU : Int → Int) (len : Int) (hlen : 0 ≤ len ∧ len ≤ 32) (hPL : ∀ q, 0 ≤ q → q < len → 0 ≤ PL q ∧ PL q < 32) (hmo : 0 ≤ mo ∧ mo ≤ 32) : zN l yX5_counts wsX5_counts { frames := 0, cells := 0, slots := 0, locals := 0 } D (zTy cI cZ cM cL) [.ref r, .int (iI len)] (rfW cI r e1 e2 e3 e4 e5 e6 e7 e8 e9 e10 e11 e12 e13 e14 n L d sz mo th ND US KN AU LE SN KK AT LF PL HE TU MA CU) (fun r9 w => r9 = none ∧ ∃ M1 : Int → Int, w = (rfW cI r e1 e2 e3 e4 e5 e6 e7 e8 e9 e10 e11 e12 e13 e14 n L d sz (max mo (mxR PL len.toNat)) th ND US KN AU LE SN KK AT LF PL HE TU M1 CU) ∧ ∀ k, 0 ≤ k → k < 32 → M1 k = cnt PL k len.toNat) 0 0 := by
  refine zN_of (cc := cX5_counts) (maxL := 3) (lv0 := [some (.ref r), some (.int (iI len)), none]) (by decide) rfl rfl (Nat.le_of_ble_eq_true rfl) rfl ?_
  intro E Q C hE hR hI0
  refine (show zG E Q 0 0 [(r, .inr (5, [.ref e1, .int (iI (↑n)), .ref e2, .ref e3, .ref e4, .ref e5, .ref e6, .ref e7, .ref e8, .int (iI L), .int d, .ref e9, .ref e10, .ref e11, .ref e12, .ref e13, .int (iI sz), .int (iI mo), .ref e14, .int (iI th)])), (e1, ar cI 8 ND), (e2, ai cI 8 AU), (e3, ai cI 8 LE), (e4, ai cI 8 SN), (e5, ar cI 8 US), (e6, ai cI 80 KK), (e7, ai cI 80 AT), (e8, ai cI 80 LF), (e9, ar cI 6 KN), (e10, ai cI 32 PL), (e11, ai cI 32 HE), (e12, ai cI 32 TU), (e13, ai cI 32 MA), (e14, ai cI 201 CU)] [some (.ref r), some (.int (iI len)), none] 0 [] from ?_)
  have lq : ∀ (z : Nat) (j : Nat) (M1 : Int → Int) (m1 : Int), j ≤ len.toNat → len.toNat - j < z → (∀ k, 0 ≤ k → k < 32 → M1 k = cnt PL k j) → m1 = max mo (mxR PL j) → zG E Q (0) (0) [(r, .inr (5, [.ref e1, .int (iI (↑n)), .ref e2, .ref e3, .ref e4, .ref e5, .ref e6, .ref e7, .ref e8, .int (iI L), .int d, .ref e9, .ref e10, .ref e11, .ref e12, .ref e13, .int (iI sz), .int (iI m1), .ref e14, .int (iI th)])), (e1, ar cI 8 ND), (e2, ai cI 8 AU), (e3, ai cI 8 LE), (e4, ai cI 8 SN), (e5, ar cI 8 US), (e6, ai cI 80 KK), (e7, ai cI 80 AT), (e8, ai cI 80 LF), (e9, ar cI 6 KN), (e10, ai cI 32 PL), (e11, ai cI 32 HE), (e12, ai cI 32 TU), (e13, ai cI 32 M1), (e14, ai cI 201 CU)] [some (.ref r), some (.int (iI len)), some (.int (iI ↑j))] 23 [] := by
    intro z
    induction z with
    | zero => intro j M1 m1 hj hjn hM hm; omega
    | succ z ih =>
      intro j M1 m1 hj hjn hM hm
      refine z_iload_n (i := 2) C dX5_counts_23 rfl rfl ?_
      refine z_iload_n (i := 1) C dX5_counts_24 rfl rfl ?_
      refine z_icmp_geI (tgt := 89) C dX5_counts_25 (by decide) ⟨by omega, by omega⟩ ⟨by omega, by omega⟩ (fun hk => ?_) (fun hk => ?_)
      · exact z_vret C hR dX5_counts_89 (Nat.le_of_ble_eq_true rfl) (Nat.le_of_ble_eq_true rfl) (⟨rfl, M1, by rw [hm, show len.toNat = j by omega], fun k a b => by rw [hM k a b, show len.toNat = j by omega]⟩)
      · have hp9 := hPL ↑j (by omega) (by omega)
        have hc9 := hM (PL ↑j) (by omega) (by omega)
        have hr9 := cnt_r (Pl := PL) (k := PL ↑j) j
        have hx9 := mxR_r (Pl := PL) j
        have hm9 : 0 ≤ m1 ∧ m1 ≤ 32 := by omega
        refine z_aload_n (i := 0) C dX5_counts_28 rfl rfl ?_
        refine z_get (ci := 5) C (hi_X5_counts_X5) 0 rfl rfl 15 (by decide) (by decide +kernel) rfl dX5_counts_29 ?_
        refine z_aload_n (i := 0) C dX5_counts_32 rfl rfl ?_
        refine z_get (ci := 5) C (hi_X5_counts_X5) 0 rfl rfl 12 (by decide) (by decide +kernel) rfl dX5_counts_33 ?_
        refine z_iload_n (i := 2) C dX5_counts_36 rfl rfl ?_
        refine z_ialoadI 10 (he := rfl) C (zT_of hE (t0 := 0) rfl) (by omega) (by omega) (by decide) dX5_counts_37 ?_
        refine z_dup2 C dX5_counts_38 rfl rfl ?_
        refine z_ialoadI 13 (he := rfl) C (zT_of hE (t0 := 0) rfl) (by omega) (by omega) (by decide) dX5_counts_39 ?_
        refine z_iconst (v := iI 1) C dX5_counts_40 rfl ?_
        refine z_iaddI (v := (M1 (PL (↑j))) + 1) C dX5_counts_41 (by omega) ?_
        refine z_iastoreI 13 (he := rfl) (ws' := [(r, .inr (5, [.ref e1, .int (iI (↑n)), .ref e2, .ref e3, .ref e4, .ref e5, .ref e6, .ref e7, .ref e8, .int (iI L), .int d, .ref e9, .ref e10, .ref e11, .ref e12, .ref e13, .int (iI sz), .int (iI m1), .ref e14, .int (iI th)])), (e1, ar cI 8 ND), (e2, ai cI 8 AU), (e3, ai cI 8 LE), (e4, ai cI 8 SN), (e5, ar cI 8 US), (e6, ai cI 80 KK), (e7, ai cI 80 AT), (e8, ai cI 80 LF), (e9, ar cI 6 KN), (e10, ai cI 32 PL), (e11, ai cI 32 HE), (e12, ai cI 32 TU), (e13, ai cI 32 (zup M1 (PL (↑j)) ((M1 (PL (↑j))) + 1))), (e14, ai cI 201 CU)]) C (zT_of hE (t0 := 0) rfl) (by omega) (by omega) (by decide) rfl dX5_counts_42 ?_
        refine z_aload_n (i := 0) C dX5_counts_43 rfl rfl ?_
        refine z_aload_n (i := 0) C dX5_counts_44 rfl rfl ?_
        refine z_get (ci := 5) C (hi_X5_counts_X5) 0 rfl rfl 15 (by decide) (by decide +kernel) rfl dX5_counts_45 ?_
        refine z_aload_n (i := 0) C dX5_counts_48 rfl rfl ?_
        refine z_get (ci := 5) C (hi_X5_counts_X5) 0 rfl rfl 12 (by decide) (by decide +kernel) rfl dX5_counts_49 ?_
        refine z_iload_n (i := 2) C dX5_counts_52 rfl rfl ?_
        refine z_ialoadI 10 (he := rfl) C (zT_of hE (t0 := 0) rfl) (by omega) (by omega) (by decide) dX5_counts_53 ?_
        refine z_ialoadI 13 (he := rfl) C (zT_of hE (t0 := 0) rfl) (by omega) (by omega) (by decide) dX5_counts_54 ?_
        refine z_top (y := iI (M1 (PL ↑j) + 1)) (by rw [zup_self]) ?_
        refine z_aload_n (i := 0) C dX5_counts_55 rfl rfl ?_
        refine z_get (ci := 5) C (hi_X5_counts_X5) 0 rfl rfl 17 (by decide) (by decide +kernel) rfl dX5_counts_56 ?_
        refine z_icmp_leI (tgt := 76) C dX5_counts_59 (by decide) ⟨by omega, by omega⟩ ⟨by omega, by omega⟩ (fun hv => ?_) (fun hv => ?_)
        · refine z_aload_n (i := 0) C dX5_counts_76 rfl rfl ?_
          refine z_get (ci := 5) C (hi_X5_counts_X5) 0 rfl rfl 17 (by decide) (by decide +kernel) rfl dX5_counts_77 ?_
          refine z_put (ci := 5) (ws' := [(r, .inr (5, [.ref e1, .int (iI (↑n)), .ref e2, .ref e3, .ref e4, .ref e5, .ref e6, .ref e7, .ref e8, .int (iI L), .int d, .ref e9, .ref e10, .ref e11, .ref e12, .ref e13, .int (iI sz), .int (iI m1), .ref e14, .int (iI th)])), (e1, ar cI 8 ND), (e2, ai cI 8 AU), (e3, ai cI 8 LE), (e4, ai cI 8 SN), (e5, ar cI 8 US), (e6, ai cI 80 KK), (e7, ai cI 80 AT), (e8, ai cI 80 LF), (e9, ar cI 6 KN), (e10, ai cI 32 PL), (e11, ai cI 32 HE), (e12, ai cI 32 TU), (e13, ai cI 32 (zup M1 (PL (↑j)) ((M1 (PL (↑j))) + 1))), (e14, ai cI 201 CU)]) C (hi_X5_counts_X5) tyX5_ok nmX5 0 rfl rfl 17 (by decide) (by decide +kernel) rfl (tyX5_ok 17 (by decide)) rfl rfl (Nat.le_of_ble_eq_true rfl) rfl dX5_counts_80 ?_
          refine z_iincI (v := ↑(j + 1)) (lv' := [some (.ref r), some (.int (iI len)), some (.int (iI (↑(j + 1))))]) C dX5_counts_83 rfl (by omega) rfl ?_
          refine z_goto (tgt := 23) C dX5_counts_86 (by decide) ?_
          exact ih (j + 1) _ _ (by omega) (by omega) (fun k a b => cnt_zup hM ⟨by omega, by omega⟩ k a b) (by rw [← mxR_s hm (x := M1 (PL ↑j) + 1) (by omega)]; omega)
        · refine z_aload_n (i := 0) C dX5_counts_62 rfl rfl ?_
          refine z_get (ci := 5) C (hi_X5_counts_X5) 0 rfl rfl 15 (by decide) (by decide +kernel) rfl dX5_counts_63 ?_
          refine z_aload_n (i := 0) C dX5_counts_66 rfl rfl ?_
          refine z_get (ci := 5) C (hi_X5_counts_X5) 0 rfl rfl 12 (by decide) (by decide +kernel) rfl dX5_counts_67 ?_
          refine z_iload_n (i := 2) C dX5_counts_70 rfl rfl ?_
          refine z_ialoadI 10 (he := rfl) C (zT_of hE (t0 := 0) rfl) (by omega) (by omega) (by decide) dX5_counts_71 ?_
          refine z_ialoadI 13 (he := rfl) C (zT_of hE (t0 := 0) rfl) (by omega) (by omega) (by decide) dX5_counts_72 ?_
          refine z_top (y := iI (M1 (PL ↑j) + 1)) (by rw [zup_self]) ?_
          refine z_goto (tgt := 80) C dX5_counts_73 (by decide) ?_
          refine z_put (ci := 5) (ws' := [(r, .inr (5, [.ref e1, .int (iI (↑n)), .ref e2, .ref e3, .ref e4, .ref e5, .ref e6, .ref e7, .ref e8, .int (iI L), .int d, .ref e9, .ref e10, .ref e11, .ref e12, .ref e13, .int (iI sz), .int (iI (M1 (PL ↑j) + 1)), .ref e14, .int (iI th)])), (e1, ar cI 8 ND), (e2, ai cI 8 AU), (e3, ai cI 8 LE), (e4, ai cI 8 SN), (e5, ar cI 8 US), (e6, ai cI 80 KK), (e7, ai cI 80 AT), (e8, ai cI 80 LF), (e9, ar cI 6 KN), (e10, ai cI 32 PL), (e11, ai cI 32 HE), (e12, ai cI 32 TU), (e13, ai cI 32 (zup M1 (PL (↑j)) ((M1 (PL (↑j))) + 1))), (e14, ai cI 201 CU)]) C (hi_X5_counts_X5) tyX5_ok nmX5 0 rfl rfl 17 (by decide) (by decide +kernel) rfl (tyX5_ok 17 (by decide)) rfl rfl (Nat.le_of_ble_eq_true rfl) rfl dX5_counts_80 ?_
          refine z_iincI (v := ↑(j + 1)) (lv' := [some (.ref r), some (.int (iI len)), some (.int (iI (↑(j + 1))))]) C dX5_counts_83 rfl (by omega) rfl ?_
          refine z_goto (tgt := 23) C dX5_counts_86 (by decide) ?_
          exact ih (j + 1) _ _ (by omega) (by omega) (fun k a b => cnt_zup hM ⟨by omega, by omega⟩ k a b) (by rw [← mxR_s hm (x := M1 (PL ↑j) + 1) (by omega)]; omega)
  have lp : ∀ (z : Nat) (j : Nat) (M1 : Int → Int), j ≤ 32 → 32 - j < z → (∀ q, 0 ≤ q → q < (j : Int) → M1 q = 0) → zG E Q (0) (0) [(r, .inr (5, [.ref e1, .int (iI (↑n)), .ref e2, .ref e3, .ref e4, .ref e5, .ref e6, .ref e7, .ref e8, .int (iI L), .int d, .ref e9, .ref e10, .ref e11, .ref e12, .ref e13, .int (iI sz), .int (iI mo), .ref e14, .int (iI th)])), (e1, ar cI 8 ND), (e2, ai cI 8 AU), (e3, ai cI 8 LE), (e4, ai cI 8 SN), (e5, ar cI 8 US), (e6, ai cI 80 KK), (e7, ai cI 80 AT), (e8, ai cI 80 LF), (e9, ar cI 6 KN), (e10, ai cI 32 PL), (e11, ai cI 32 HE), (e12, ai cI 32 TU), (e13, ai cI 32 M1), (e14, ai cI 201 CU)] [some (.ref r), some (.int (iI len)), some (.int (iI ↑j))] 2 [] := by
    intro z
    induction z with
    | zero => intro j M1 hj hjn hM; omega
    | succ z ih =>
      intro j M1 hj hjn hM
      refine z_iload_n (i := 2) C dX5_counts_2 rfl rfl ?_
      refine z_bipush (v := iI 32) C dX5_counts_3 (by decide) ?_
      refine z_icmp_geI (tgt := 21) C dX5_counts_5 (by decide) ⟨by omega, by omega⟩ ⟨by omega, by omega⟩ (fun hk => ?_) (fun hk => ?_)
      · refine z_iconst (v := iI 0) C dX5_counts_21 rfl ?_
        refine z_istore_n (i := 2) (lv' := [some (.ref r), some (.int (iI len)), some (.int (iI 0))]) C dX5_counts_22 rfl rfl rfl ?_
        exact lq (len.toNat + 1) 0 M1 mo (by omega) (by omega) (fun k a b => by rw [hM k a (by omega)]; rfl) (by show mo = max mo 0; omega)
      · refine z_aload_n (i := 0) C dX5_counts_8 rfl rfl ?_
        refine z_get (ci := 5) C (hi_X5_counts_X5) 0 rfl rfl 15 (by decide) (by decide +kernel) rfl dX5_counts_9 ?_
        refine z_iload_n (i := 2) C dX5_counts_12 rfl rfl ?_
        refine z_iconst (v := iI 0) C dX5_counts_13 rfl ?_
        refine z_iastoreI 13 (he := rfl) (ws' := [(r, .inr (5, [.ref e1, .int (iI (↑n)), .ref e2, .ref e3, .ref e4, .ref e5, .ref e6, .ref e7, .ref e8, .int (iI L), .int d, .ref e9, .ref e10, .ref e11, .ref e12, .ref e13, .int (iI sz), .int (iI mo), .ref e14, .int (iI th)])), (e1, ar cI 8 ND), (e2, ai cI 8 AU), (e3, ai cI 8 LE), (e4, ai cI 8 SN), (e5, ar cI 8 US), (e6, ai cI 80 KK), (e7, ai cI 80 AT), (e8, ai cI 80 LF), (e9, ar cI 6 KN), (e10, ai cI 32 PL), (e11, ai cI 32 HE), (e12, ai cI 32 TU), (e13, ai cI 32 (zup M1 (↑j) 0)), (e14, ai cI 201 CU)]) C (zT_of hE (t0 := 0) rfl) (by omega) (by omega) (by decide) rfl dX5_counts_14 ?_
        refine z_iincI (v := ↑(j + 1)) (lv' := [some (.ref r), some (.int (iI len)), some (.int (iI (↑(j + 1))))]) C dX5_counts_15 rfl (by omega) rfl ?_
        refine z_goto (tgt := 2) C dX5_counts_18 (by decide) ?_
        exact ih (j + 1) _ (by omega) (by omega) (zup_lo (v := fun _ => 0) hM rfl)
  refine z_iconst (v := iI 0) C dX5_counts_0 rfl ?_
  refine z_istore_n (i := 2) (lv' := [some (.ref r), some (.int (iI len)), some (.int (iI 0))]) C dX5_counts_1 rfl rfl rfl ?_
  exact lp 33 0 MA (by omega) (by omega) (fun q a b => by omega)
