/-! THE REFERENCE: small methods. -/
set_option maxHeartbeats 1000000 in
set_option maxRecDepth 100000 in
theorem k_rin (l : Launch) (D : va_G) (cI cZ cM cL : ClassId) (v lo hi : Int) (hv : iR v) (hlo : iR lo) (hhi : iR hi) : zN l yX5_in wsX5_in { frames := 0, cells := 0, slots := 0, locals := 0 } D (zTy cI cZ cM cL) [.int (iI v), .int (iI lo), .int (iI hi)] [] (fun r w => r = some (.int (iI (b2 (lo ≤ v ∧ v ≤ hi)))) ∧ w = []) 0 0 := by
  refine zN_of (cc := cX5_in) (maxL := 3) (lv0 := [some (.int (iI v)), some (.int (iI lo)), some (.int (iI hi))]) (by decide) rfl rfl (Nat.le_of_ble_eq_true rfl) rfl ?_
  intro E Q C hE hR hI0
  refine z_iload_n (i := 0) C dX5_in_0 rfl rfl ?_
  refine z_iload_n (i := 1) C dX5_in_1 rfl rfl ?_
  refine z_icmp_ltI (tgt := 14) C dX5_in_2 (by decide) ⟨by omega, by omega⟩ ⟨by omega, by omega⟩ (fun h1 => ?_) (fun h1 => ?_)
  · refine z_iconst (v := iI 0) C dX5_in_14 rfl ?_
    exact z_zret C hR (by decide) dX5_in_15 (Nat.le_of_ble_eq_true rfl) (Nat.le_of_ble_eq_true rfl) (⟨by first | rw [b2t (P := lo ≤ v ∧ v ≤ hi) ⟨by omega, by omega⟩] | rw [b2f (P := lo ≤ v ∧ v ≤ hi) (fun q => by omega)], rfl⟩)
  · refine z_iload_n (i := 0) C dX5_in_5 rfl rfl ?_
    refine z_iload_n (i := 2) C dX5_in_6 rfl rfl ?_
    refine z_icmp_gtI (tgt := 14) C dX5_in_7 (by decide) ⟨by omega, by omega⟩ ⟨by omega, by omega⟩ (fun h2 => ?_) (fun h2 => ?_)
    · refine z_iconst (v := iI 0) C dX5_in_14 rfl ?_
      exact z_zret C hR (by decide) dX5_in_15 (Nat.le_of_ble_eq_true rfl) (Nat.le_of_ble_eq_true rfl) (⟨by first | rw [b2t (P := lo ≤ v ∧ v ≤ hi) ⟨by omega, by omega⟩] | rw [b2f (P := lo ≤ v ∧ v ≤ hi) (fun q => by omega)], rfl⟩)
    · refine z_iconst (v := iI 1) C dX5_in_10 rfl ?_
      refine z_goto (tgt := 15) C dX5_in_11 (by decide) ?_
      exact z_zret C hR (by decide) dX5_in_15 (Nat.le_of_ble_eq_true rfl) (Nat.le_of_ble_eq_true rfl) (⟨by first | rw [b2t (P := lo ≤ v ∧ v ≤ hi) ⟨by omega, by omega⟩] | rw [b2f (P := lo ≤ v ∧ v ≤ hi) (fun q => by omega)], rfl⟩)
theorem hi_X5_thrown_X5 : ∀ w ∈ wsX50, w ∈ wsX5_thrown := by decide +kernel
set_option maxHeartbeats 1000000 in
set_option maxRecDepth 100000 in
theorem k_rthrown (l : Launch) (D : va_G) (cI cZ cM cL : ClassId) (r e1 e2 e3 e4 e5 e6 e7 e8 e9 e10 e11 e12 e13 e14 : Nat) (n : Nat) (L : Int) (d : Int32) (sz mo th : Int) (ND US KN : Int → Int32) (AU LE SN KK AT LF PL HE TU MA CU : Int → Int) : zN l yX5_thrown wsX5_thrown { frames := 0, cells := 0, slots := 0, locals := 0 } D (zTy cI cZ cM cL) [.ref r] (rfW cI r e1 e2 e3 e4 e5 e6 e7 e8 e9 e10 e11 e12 e13 e14 n L d sz mo th ND US KN AU LE SN KK AT LF PL HE TU MA CU) (fun r9 w => r9 = some (.int (iI th)) ∧ w = (rfW cI r e1 e2 e3 e4 e5 e6 e7 e8 e9 e10 e11 e12 e13 e14 n L d sz mo th ND US KN AU LE SN KK AT LF PL HE TU MA CU)) 0 0 := by
  refine zN_of (cc := cX5_thrown) (maxL := 1) (lv0 := [some (.ref r)]) (by decide) rfl rfl (Nat.le_of_ble_eq_true rfl) rfl ?_
  intro E Q C hE hR hI0
  refine (show zG E Q 0 0 [(r, .inr (5, [.ref e1, .int (iI (↑n)), .ref e2, .ref e3, .ref e4, .ref e5, .ref e6, .ref e7, .ref e8, .int (iI L), .int d, .ref e9, .ref e10, .ref e11, .ref e12, .ref e13, .int (iI sz), .int (iI mo), .ref e14, .int (iI th)])), (e1, ar cI 8 ND), (e2, ai cI 8 AU), (e3, ai cI 8 LE), (e4, ai cI 8 SN), (e5, ar cI 8 US), (e6, ai cI 80 KK), (e7, ai cI 80 AT), (e8, ai cI 80 LF), (e9, ar cI 6 KN), (e10, ai cI 32 PL), (e11, ai cI 32 HE), (e12, ai cI 32 TU), (e13, ai cI 32 MA), (e14, ai cI 201 CU)] [some (.ref r)] 0 [] from ?_)
  refine z_aload_n (i := 0) C dX5_thrown_0 rfl rfl ?_
  refine z_get (ci := 5) C (hi_X5_thrown_X5) 0 rfl rfl 19 (by decide) (by decide +kernel) rfl dX5_thrown_1 ?_
  exact z_iret C hR dX5_thrown_4 (Nat.le_of_ble_eq_true rfl) (Nat.le_of_ble_eq_true rfl) (⟨rfl, rfl⟩)
theorem hi_X5_fails_X5 : ∀ w ∈ wsX50, w ∈ wsX5_fails := by decide +kernel
set_option maxHeartbeats 1000000 in
set_option maxRecDepth 100000 in
theorem k_rfails (l : Launch) (D : va_G) (cI cZ cM cL : ClassId) (r e1 e2 e3 e4 e5 e6 e7 e8 e9 e10 e11 e12 e13 e14 : Nat) (n : Nat) (L : Int) (d : Int32) (sz mo th : Int) (ND US KN : Int → Int32) (AU LE SN KK AT LF PL HE TU MA CU : Int → Int) (s : Int) : zN l yX5_fails wsX5_fails { frames := 0, cells := 0, slots := 0, locals := 0 } D (zTy cI cZ cM cL) [.ref r, .int (iI s)] (rfW cI r e1 e2 e3 e4 e5 e6 e7 e8 e9 e10 e11 e12 e13 e14 n L d sz mo th ND US KN AU LE SN KK AT LF PL HE TU MA CU) (fun r9 w => r9 = some (.int (iI 0)) ∧ w = (rfW cI r e1 e2 e3 e4 e5 e6 e7 e8 e9 e10 e11 e12 e13 e14 n L d sz mo s ND US KN AU LE SN KK AT LF PL HE TU MA CU)) 0 0 := by
  refine zN_of (cc := cX5_fails) (maxL := 2) (lv0 := [some (.ref r), some (.int (iI s))]) (by decide) rfl rfl (Nat.le_of_ble_eq_true rfl) rfl ?_
  intro E Q C hE hR hI0
  refine (show zG E Q 0 0 [(r, .inr (5, [.ref e1, .int (iI (↑n)), .ref e2, .ref e3, .ref e4, .ref e5, .ref e6, .ref e7, .ref e8, .int (iI L), .int d, .ref e9, .ref e10, .ref e11, .ref e12, .ref e13, .int (iI sz), .int (iI mo), .ref e14, .int (iI th)])), (e1, ar cI 8 ND), (e2, ai cI 8 AU), (e3, ai cI 8 LE), (e4, ai cI 8 SN), (e5, ar cI 8 US), (e6, ai cI 80 KK), (e7, ai cI 80 AT), (e8, ai cI 80 LF), (e9, ar cI 6 KN), (e10, ai cI 32 PL), (e11, ai cI 32 HE), (e12, ai cI 32 TU), (e13, ai cI 32 MA), (e14, ai cI 201 CU)] [some (.ref r), some (.int (iI s))] 0 [] from ?_)
  refine z_aload_n (i := 0) C dX5_fails_0 rfl rfl ?_
  refine z_iload_n (i := 1) C dX5_fails_1 rfl rfl ?_
  refine z_put (ci := 5) (ws' := [(r, .inr (5, [.ref e1, .int (iI (↑n)), .ref e2, .ref e3, .ref e4, .ref e5, .ref e6, .ref e7, .ref e8, .int (iI L), .int d, .ref e9, .ref e10, .ref e11, .ref e12, .ref e13, .int (iI sz), .int (iI mo), .ref e14, .int (iI s)])), (e1, ar cI 8 ND), (e2, ai cI 8 AU), (e3, ai cI 8 LE), (e4, ai cI 8 SN), (e5, ar cI 8 US), (e6, ai cI 80 KK), (e7, ai cI 80 AT), (e8, ai cI 80 LF), (e9, ar cI 6 KN), (e10, ai cI 32 PL), (e11, ai cI 32 HE), (e12, ai cI 32 TU), (e13, ai cI 32 MA), (e14, ai cI 201 CU)]) C (hi_X5_fails_X5) tyX5_ok nmX5 0 rfl rfl 19 (by decide) (by decide +kernel) rfl (tyX5_ok 19 (by decide)) rfl rfl (Nat.le_of_ble_eq_true rfl) rfl dX5_fails_2 ?_
  refine z_iconst (v := iI 0) C dX5_fails_5 rfl ?_
  exact z_iret C hR dX5_fails_6 (Nat.le_of_ble_eq_true rfl) (Nat.le_of_ble_eq_true rfl) (⟨rfl, rfl⟩)
theorem hi_X5_models_X5 : ∀ w ∈ wsX50, w ∈ wsX5_models := by decide +kernel
set_option maxHeartbeats 1000000 in
set_option maxRecDepth 100000 in
theorem k_rmodels (l : Launch) (D : va_G) (cI cZ cM cL : ClassId) (r e1 e2 e3 e4 e5 e6 e7 e8 e9 e10 e11 e12 e13 e14 : Nat) (n : Nat) (L : Int) (d : Int32) (sz mo th : Int) (ND US KN : Int → Int32) (AU LE SN KK AT LF PL HE TU MA CU : Int → Int) : zN l yX5_models wsX5_models { frames := 0, cells := 0, slots := 0, locals := 0 } D (zTy cI cZ cM cL) [.ref r] (rfW cI r e1 e2 e3 e4 e5 e6 e7 e8 e9 e10 e11 e12 e13 e14 n L d sz mo th ND US KN AU LE SN KK AT LF PL HE TU MA CU) (fun r9 w => r9 = some (.int (iI n)) ∧ w = (rfW cI r e1 e2 e3 e4 e5 e6 e7 e8 e9 e10 e11 e12 e13 e14 n L d sz mo 0 ND US KN AU LE SN KK AT LF PL HE TU MA CU)) 0 0 := by
  refine zN_of (cc := cX5_models) (maxL := 1) (lv0 := [some (.ref r)]) (by decide) rfl rfl (Nat.le_of_ble_eq_true rfl) rfl ?_
  intro E Q C hE hR hI0
  refine (show zG E Q 0 0 [(r, .inr (5, [.ref e1, .int (iI (↑n)), .ref e2, .ref e3, .ref e4, .ref e5, .ref e6, .ref e7, .ref e8, .int (iI L), .int d, .ref e9, .ref e10, .ref e11, .ref e12, .ref e13, .int (iI sz), .int (iI mo), .ref e14, .int (iI th)])), (e1, ar cI 8 ND), (e2, ai cI 8 AU), (e3, ai cI 8 LE), (e4, ai cI 8 SN), (e5, ar cI 8 US), (e6, ai cI 80 KK), (e7, ai cI 80 AT), (e8, ai cI 80 LF), (e9, ar cI 6 KN), (e10, ai cI 32 PL), (e11, ai cI 32 HE), (e12, ai cI 32 TU), (e13, ai cI 32 MA), (e14, ai cI 201 CU)] [some (.ref r)] 0 [] from ?_)
  refine z_aload_n (i := 0) C dX5_models_0 rfl rfl ?_
  refine z_iconst (v := iI 0) C dX5_models_1 rfl ?_
  refine z_put (ci := 5) (ws' := [(r, .inr (5, [.ref e1, .int (iI (↑n)), .ref e2, .ref e3, .ref e4, .ref e5, .ref e6, .ref e7, .ref e8, .int (iI L), .int d, .ref e9, .ref e10, .ref e11, .ref e12, .ref e13, .int (iI sz), .int (iI mo), .ref e14, .int (iI 0)])), (e1, ar cI 8 ND), (e2, ai cI 8 AU), (e3, ai cI 8 LE), (e4, ai cI 8 SN), (e5, ar cI 8 US), (e6, ai cI 80 KK), (e7, ai cI 80 AT), (e8, ai cI 80 LF), (e9, ar cI 6 KN), (e10, ai cI 32 PL), (e11, ai cI 32 HE), (e12, ai cI 32 TU), (e13, ai cI 32 MA), (e14, ai cI 201 CU)]) C (hi_X5_models_X5) tyX5_ok nmX5 0 rfl rfl 19 (by decide) (by decide +kernel) rfl (tyX5_ok 19 (by decide)) rfl rfl (Nat.le_of_ble_eq_true rfl) rfl dX5_models_2 ?_
  refine z_aload_n (i := 0) C dX5_models_5 rfl rfl ?_
  refine z_get (ci := 5) C (hi_X5_models_X5) 0 rfl rfl 1 (by decide) (by decide +kernel) rfl dX5_models_6 ?_
  exact z_iret C hR dX5_models_9 (Nat.le_of_ble_eq_true rfl) (Nat.le_of_ble_eq_true rfl) (⟨rfl, rfl⟩)
theorem hi_X5_isModel_X5 : ∀ w ∈ wsX50, w ∈ wsX5_isModel := by decide +kernel
set_option maxHeartbeats 1000000 in
set_option maxRecDepth 100000 in
theorem k_risModel (l : Launch) (D : va_G) (cI cZ cM cL : ClassId) (r e1 e2 e3 e4 e5 e6 e7 e8 e9 e10 e11 e12 e13 e14 : Nat) (n : Nat) (L : Int) (d : Int32) (sz mo th : Int) (ND US KN : Int → Int32) (AU LE SN KK AT LF PL HE TU MA CU : Int → Int) (i0 : Int) (hi0 : iR i0) (hn : n ≤ 8) : zN l yX5_isModel wsX5_isModel { frames := 1, cells := 0, slots := 0, locals := 22 } D (zTy cI cZ cM cL) [.ref r, .int (iI i0)] (rfW cI r e1 e2 e3 e4 e5 e6 e7 e8 e9 e10 e11 e12 e13 e14 n L d sz mo th ND US KN AU LE SN KK AT LF PL HE TU MA CU) (fun r9 w => r9 = some (.int (iI (b2 (0 ≤ i0 ∧ i0 < n)))) ∧ w = (rfW cI r e1 e2 e3 e4 e5 e6 e7 e8 e9 e10 e11 e12 e13 e14 n L d sz mo (cM1 n i0) ND US KN AU LE SN KK AT LF PL HE TU MA CU)) 0 0 := by
  refine zN_of (cc := cX5_isModel) (maxL := 2) (lv0 := [some (.ref r), some (.int (iI i0))]) (by decide) rfl rfl (Nat.le_of_ble_eq_true rfl) rfl ?_
  intro E Q C hE hR hI0
  refine (show zG E Q 0 0 [(r, .inr (5, [.ref e1, .int (iI (↑n)), .ref e2, .ref e3, .ref e4, .ref e5, .ref e6, .ref e7, .ref e8, .int (iI L), .int d, .ref e9, .ref e10, .ref e11, .ref e12, .ref e13, .int (iI sz), .int (iI mo), .ref e14, .int (iI th)])), (e1, ar cI 8 ND), (e2, ai cI 8 AU), (e3, ai cI 8 LE), (e4, ai cI 8 SN), (e5, ar cI 8 US), (e6, ai cI 80 KK), (e7, ai cI 80 AT), (e8, ai cI 80 LF), (e9, ar cI 6 KN), (e10, ai cI 32 PL), (e11, ai cI 32 HE), (e12, ai cI 32 TU), (e13, ai cI 32 MA), (e14, ai cI 201 CU)] [some (.ref r), some (.int (iI i0))] 0 [] from ?_)
  refine z_aload_n (i := 0) C dX5_isModel_0 rfl rfl ?_
  refine z_iload_n (i := 1) C dX5_isModel_1 rfl rfl ?_
  refine z_iconst (v := iI 0) C dX5_isModel_2 rfl ?_
  refine z_aload_n (i := 0) C dX5_isModel_3 rfl rfl ?_
  refine z_get (ci := 5) C (hi_X5_isModel_X5) 0 rfl rfl 1 (by decide) (by decide +kernel) rfl dX5_isModel_4 ?_
  refine z_iconst (v := iI 1) C dX5_isModel_7 rfl ?_
  refine z_isubI (v := (↑n) - 1) C dX5_isModel_8 (by omega) ?_
  refine z_callS (n := 3) (As := [.int (iI i0), .int (iI 0), .int (iI ((↑n) - 1))]) (st := [.ref r]) (fr := [(r, .inr (5, [.ref e1, .int (iI (↑n)), .ref e2, .ref e3, .ref e4, .ref e5, .ref e6, .ref e7, .ref e8, .int (iI L), .int d, .ref e9, .ref e10, .ref e11, .ref e12, .ref e13, .int (iI sz), .int (iI mo), .ref e14, .int (iI th)])), (e1, ar cI 8 ND), (e2, ai cI 8 AU), (e3, ai cI 8 LE), (e4, ai cI 8 SN), (e5, ar cI 8 US), (e6, ai cI 80 KK), (e7, ai cI 80 AT), (e8, ai cI 80 LF), (e9, ar cI 6 KN), (e10, ai cI 32 PL), (e11, ai cI 32 HE), (e12, ai cI 32 TU), (e13, ai cI 32 MA), (e14, ai cI 201 CU)]) C hE (k_rin l D cI cZ cM cL i0 0 (↑n - 1) hi0 ⟨by omega, by omega⟩ ⟨by omega, by omega⟩) gX5_isModel_X5_in rfl ⟨rfl, rfl⟩ (by decide +kernel) ⟨Nat.le_of_ble_eq_true rfl, Nat.le_of_ble_eq_true rfl⟩ rfl rfl (List.Perm.refl _) (Nat.le_of_ble_eq_true rfl) ⟨Nat.le_of_ble_eq_true rfl, Nat.le_of_ble_eq_true rfl⟩ dX5_isModel_9 (fun r w1 hpo => ?_)
  obtain ⟨rfl, rfl⟩ := hpo
  have hb9 := b2r (0 ≤ i0 ∧ i0 ≤ ↑n - 1)
  refine (show zG E Q (0) (0) [(r, .inr (5, [.ref e1, .int (iI (↑n)), .ref e2, .ref e3, .ref e4, .ref e5, .ref e6, .ref e7, .ref e8, .int (iI L), .int d, .ref e9, .ref e10, .ref e11, .ref e12, .ref e13, .int (iI sz), .int (iI mo), .ref e14, .int (iI th)])), (e1, ar cI 8 ND), (e2, ai cI 8 AU), (e3, ai cI 8 LE), (e4, ai cI 8 SN), (e5, ar cI 8 US), (e6, ai cI 80 KK), (e7, ai cI 80 AT), (e8, ai cI 80 LF), (e9, ar cI 6 KN), (e10, ai cI 32 PL), (e11, ai cI 32 HE), (e12, ai cI 32 TU), (e13, ai cI 32 MA), (e14, ai cI 201 CU)] [some (.ref r), some (.int (iI i0))] 12 [.int (iI (b2 (0 ≤ i0 ∧ i0 ≤ ↑n - 1))), .ref r] from ?_)
  refine z_if_eqI (tgt := 19) C dX5_isModel_12 (by decide) ⟨by omega, by omega⟩ (fun h1 => ?_) (fun h1 => ?_)
  · refine z_iconst (v := iI 1) C dX5_isModel_19 rfl ?_
    refine z_put (ci := 5) (ws' := [(r, .inr (5, [.ref e1, .int (iI (↑n)), .ref e2, .ref e3, .ref e4, .ref e5, .ref e6, .ref e7, .ref e8, .int (iI L), .int d, .ref e9, .ref e10, .ref e11, .ref e12, .ref e13, .int (iI sz), .int (iI mo), .ref e14, .int (iI 1)])), (e1, ar cI 8 ND), (e2, ai cI 8 AU), (e3, ai cI 8 LE), (e4, ai cI 8 SN), (e5, ar cI 8 US), (e6, ai cI 80 KK), (e7, ai cI 80 AT), (e8, ai cI 80 LF), (e9, ar cI 6 KN), (e10, ai cI 32 PL), (e11, ai cI 32 HE), (e12, ai cI 32 TU), (e13, ai cI 32 MA), (e14, ai cI 201 CU)]) C (hi_X5_isModel_X5) tyX5_ok nmX5 0 rfl rfl 19 (by decide) (by decide +kernel) rfl (tyX5_ok 19 (by decide)) rfl rfl (Nat.le_of_ble_eq_true rfl) rfl dX5_isModel_20 ?_
    refine z_aload_n (i := 0) C dX5_isModel_23 rfl rfl ?_
    refine z_get (ci := 5) C (hi_X5_isModel_X5) 0 rfl rfl 19 (by decide) (by decide +kernel) rfl dX5_isModel_24 ?_
    refine z_if_neI (tgt := 34) C dX5_isModel_27 (by decide) ⟨by omega, by omega⟩ (fun _ => ?_) (fun h => by exfalso; omega)
    refine z_iconst (v := iI 0) C dX5_isModel_34 rfl ?_
    have hx9 := b20 h1
    exact z_zret C hR (by decide) dX5_isModel_35 (Nat.le_of_ble_eq_true rfl) (Nat.le_of_ble_eq_true rfl) (⟨by rw [b2f (P := 0 ≤ i0 ∧ i0 < ↑n) (by omega)], by unfold cM1; rw [if_pos (by omega)]⟩)
  · refine z_iconst (v := iI 0) C dX5_isModel_15 rfl ?_
    refine z_goto (tgt := 20) C dX5_isModel_16 (by decide) ?_
    refine z_put (ci := 5) (ws' := [(r, .inr (5, [.ref e1, .int (iI (↑n)), .ref e2, .ref e3, .ref e4, .ref e5, .ref e6, .ref e7, .ref e8, .int (iI L), .int d, .ref e9, .ref e10, .ref e11, .ref e12, .ref e13, .int (iI sz), .int (iI mo), .ref e14, .int (iI 0)])), (e1, ar cI 8 ND), (e2, ai cI 8 AU), (e3, ai cI 8 LE), (e4, ai cI 8 SN), (e5, ar cI 8 US), (e6, ai cI 80 KK), (e7, ai cI 80 AT), (e8, ai cI 80 LF), (e9, ar cI 6 KN), (e10, ai cI 32 PL), (e11, ai cI 32 HE), (e12, ai cI 32 TU), (e13, ai cI 32 MA), (e14, ai cI 201 CU)]) C (hi_X5_isModel_X5) tyX5_ok nmX5 0 rfl rfl 19 (by decide) (by decide +kernel) rfl (tyX5_ok 19 (by decide)) rfl rfl (Nat.le_of_ble_eq_true rfl) rfl dX5_isModel_20 ?_
    refine z_aload_n (i := 0) C dX5_isModel_23 rfl rfl ?_
    refine z_get (ci := 5) C (hi_X5_isModel_X5) 0 rfl rfl 19 (by decide) (by decide +kernel) rfl dX5_isModel_24 ?_
    refine z_if_neI (tgt := 34) C dX5_isModel_27 (by decide) ⟨by omega, by omega⟩ (fun h => by exfalso; omega) (fun _ => ?_)
    refine z_iconst (v := iI 1) C dX5_isModel_30 rfl ?_
    refine z_goto (tgt := 35) C dX5_isModel_31 (by decide) ?_
    have hx9 := b21 h1
    exact z_zret C hR (by decide) dX5_isModel_35 (Nat.le_of_ble_eq_true rfl) (Nat.le_of_ble_eq_true rfl) (⟨by rw [b2t (P := 0 ≤ i0 ∧ i0 < ↑n) (by omega)], by unfold cM1; rw [if_neg (by omega)]⟩)
theorem hi_X5_isCell_X5 : ∀ w ∈ wsX50, w ∈ wsX5_isCell := by decide +kernel
set_option maxHeartbeats 1000000 in
set_option maxRecDepth 100000 in
theorem k_risCell (l : Launch) (D : va_G) (cI cZ cM cL : ClassId) (r e1 e2 e3 e4 e5 e6 e7 e8 e9 e10 e11 e12 e13 e14 : Nat) (n : Nat) (L : Int) (d : Int32) (sz mo th : Int) (ND US KN : Int → Int32) (AU LE SN KK AT LF PL HE TU MA CU : Int → Int) (i0 q0 : Int) (hi0 : iR i0) (hq0 : iR q0) (hn : n ≤ 8) (hle : ∀ i : Int, 0 ≤ i → i < n → 2 ≤ LE i ∧ LE i ≤ 32) : zN l yX5_isCell wsX5_isCell { frames := 1, cells := 0, slots := 0, locals := 22 } D (zTy cI cZ cM cL) [.ref r, .int (iI i0), .int (iI q0)] (rfW cI r e1 e2 e3 e4 e5 e6 e7 e8 e9 e10 e11 e12 e13 e14 n L d sz mo th ND US KN AU LE SN KK AT LF PL HE TU MA CU) (fun r9 w => r9 = some (.int (iI (b2 ((0 ≤ i0 ∧ i0 < n) ∧ 0 ≤ q0 ∧ q0 < LE i0)))) ∧ w = (rfW cI r e1 e2 e3 e4 e5 e6 e7 e8 e9 e10 e11 e12 e13 e14 n L d sz mo (if (0 ≤ i0 ∧ i0 < ↑n) ∧ 0 ≤ q0 ∧ q0 < LE i0 then 0 else 1) ND US KN AU LE SN KK AT LF PL HE TU MA CU)) 0 0 := by
  refine zN_of (cc := cX5_isCell) (maxL := 3) (lv0 := [some (.ref r), some (.int (iI i0)), some (.int (iI q0))]) (by decide) rfl rfl (Nat.le_of_ble_eq_true rfl) rfl ?_
  intro E Q C hE hR hI0
  refine (show zG E Q 0 0 [(r, .inr (5, [.ref e1, .int (iI (↑n)), .ref e2, .ref e3, .ref e4, .ref e5, .ref e6, .ref e7, .ref e8, .int (iI L), .int d, .ref e9, .ref e10, .ref e11, .ref e12, .ref e13, .int (iI sz), .int (iI mo), .ref e14, .int (iI th)])), (e1, ar cI 8 ND), (e2, ai cI 8 AU), (e3, ai cI 8 LE), (e4, ai cI 8 SN), (e5, ar cI 8 US), (e6, ai cI 80 KK), (e7, ai cI 80 AT), (e8, ai cI 80 LF), (e9, ar cI 6 KN), (e10, ai cI 32 PL), (e11, ai cI 32 HE), (e12, ai cI 32 TU), (e13, ai cI 32 MA), (e14, ai cI 201 CU)] [some (.ref r), some (.int (iI i0)), some (.int (iI q0))] 0 [] from ?_)
  refine z_aload_n (i := 0) C dX5_isCell_0 rfl rfl ?_
  refine z_iload_n (i := 1) C dX5_isCell_1 rfl rfl ?_
  refine z_iconst (v := iI 0) C dX5_isCell_2 rfl ?_
  refine z_aload_n (i := 0) C dX5_isCell_3 rfl rfl ?_
  refine z_get (ci := 5) C (hi_X5_isCell_X5) 0 rfl rfl 1 (by decide) (by decide +kernel) rfl dX5_isCell_4 ?_
  refine z_iconst (v := iI 1) C dX5_isCell_7 rfl ?_
  refine z_isubI (v := (↑n) - 1) C dX5_isCell_8 (by omega) ?_
  refine z_callS (n := 3) (As := [.int (iI i0), .int (iI 0), .int (iI ((↑n) - 1))]) (st := [.ref r]) (fr := [(r, .inr (5, [.ref e1, .int (iI (↑n)), .ref e2, .ref e3, .ref e4, .ref e5, .ref e6, .ref e7, .ref e8, .int (iI L), .int d, .ref e9, .ref e10, .ref e11, .ref e12, .ref e13, .int (iI sz), .int (iI mo), .ref e14, .int (iI th)])), (e1, ar cI 8 ND), (e2, ai cI 8 AU), (e3, ai cI 8 LE), (e4, ai cI 8 SN), (e5, ar cI 8 US), (e6, ai cI 80 KK), (e7, ai cI 80 AT), (e8, ai cI 80 LF), (e9, ar cI 6 KN), (e10, ai cI 32 PL), (e11, ai cI 32 HE), (e12, ai cI 32 TU), (e13, ai cI 32 MA), (e14, ai cI 201 CU)]) C hE (k_rin l D cI cZ cM cL i0 0 (↑n - 1) hi0 ⟨by omega, by omega⟩ ⟨by omega, by omega⟩) gX5_isCell_X5_in rfl ⟨rfl, rfl⟩ (by decide +kernel) ⟨Nat.le_of_ble_eq_true rfl, Nat.le_of_ble_eq_true rfl⟩ rfl rfl (List.Perm.refl _) (Nat.le_of_ble_eq_true rfl) ⟨Nat.le_of_ble_eq_true rfl, Nat.le_of_ble_eq_true rfl⟩ dX5_isCell_9 (fun r w1 hpo => ?_)
  obtain ⟨rfl, rfl⟩ := hpo
  have hb9 := b2r (0 ≤ i0 ∧ i0 ≤ ↑n - 1)
  refine (show zG E Q (0) (0) [(r, .inr (5, [.ref e1, .int (iI (↑n)), .ref e2, .ref e3, .ref e4, .ref e5, .ref e6, .ref e7, .ref e8, .int (iI L), .int d, .ref e9, .ref e10, .ref e11, .ref e12, .ref e13, .int (iI sz), .int (iI mo), .ref e14, .int (iI th)])), (e1, ar cI 8 ND), (e2, ai cI 8 AU), (e3, ai cI 8 LE), (e4, ai cI 8 SN), (e5, ar cI 8 US), (e6, ai cI 80 KK), (e7, ai cI 80 AT), (e8, ai cI 80 LF), (e9, ar cI 6 KN), (e10, ai cI 32 PL), (e11, ai cI 32 HE), (e12, ai cI 32 TU), (e13, ai cI 32 MA), (e14, ai cI 201 CU)] [some (.ref r), some (.int (iI i0)), some (.int (iI q0))] 12 [.int (iI (b2 (0 ≤ i0 ∧ i0 ≤ ↑n - 1))), .ref r] from ?_)
  refine z_if_eqI (tgt := 35) C dX5_isCell_12 (by decide) ⟨by omega, by omega⟩ (fun h1 => ?_) (fun h1 => ?_)
  · refine z_iconst (v := iI 1) C dX5_isCell_35 rfl ?_
    refine z_put (ci := 5) (ws' := [(r, .inr (5, [.ref e1, .int (iI (↑n)), .ref e2, .ref e3, .ref e4, .ref e5, .ref e6, .ref e7, .ref e8, .int (iI L), .int d, .ref e9, .ref e10, .ref e11, .ref e12, .ref e13, .int (iI sz), .int (iI mo), .ref e14, .int (iI 1)])), (e1, ar cI 8 ND), (e2, ai cI 8 AU), (e3, ai cI 8 LE), (e4, ai cI 8 SN), (e5, ar cI 8 US), (e6, ai cI 80 KK), (e7, ai cI 80 AT), (e8, ai cI 80 LF), (e9, ar cI 6 KN), (e10, ai cI 32 PL), (e11, ai cI 32 HE), (e12, ai cI 32 TU), (e13, ai cI 32 MA), (e14, ai cI 201 CU)]) C (hi_X5_isCell_X5) tyX5_ok nmX5 0 rfl rfl 19 (by decide) (by decide +kernel) rfl (tyX5_ok 19 (by decide)) rfl rfl (Nat.le_of_ble_eq_true rfl) rfl dX5_isCell_36 ?_
    refine z_aload_n (i := 0) C dX5_isCell_39 rfl rfl ?_
    refine z_get (ci := 5) C (hi_X5_isCell_X5) 0 rfl rfl 19 (by decide) (by decide +kernel) rfl dX5_isCell_40 ?_
    refine z_if_neI (tgt := 50) C dX5_isCell_43 (by decide) ⟨by omega, by omega⟩ (fun _ => ?_) (fun h => by exfalso; omega)
    refine z_iconst (v := iI 0) C dX5_isCell_50 rfl ?_
    have hx7 := b20 h1
    exact z_zret C hR (by decide) dX5_isCell_51 (Nat.le_of_ble_eq_true rfl) (Nat.le_of_ble_eq_true rfl) (⟨by rw [b2f (P := (0 ≤ i0 ∧ i0 < ↑n) ∧ 0 ≤ q0 ∧ q0 < LE i0) (fun q => hx7 (by omega))], by rw [if_neg (show ¬ ((0 ≤ i0 ∧ i0 < ↑n) ∧ 0 ≤ q0 ∧ q0 < LE i0) from fun q => hx7 (by omega))]⟩)
  · have hx9 := b21 h1
    have hl9 := hle i0 (by omega) (by omega)
    refine z_iload_n (i := 2) C dX5_isCell_15 rfl rfl ?_
    refine z_iconst (v := iI 0) C dX5_isCell_16 rfl ?_
    refine z_aload_n (i := 0) C dX5_isCell_17 rfl rfl ?_
    refine z_get (ci := 5) C (hi_X5_isCell_X5) 0 rfl rfl 3 (by decide) (by decide +kernel) rfl dX5_isCell_18 ?_
    refine z_iload_n (i := 1) C dX5_isCell_21 rfl rfl ?_
    refine z_ialoadI 3 (he := rfl) C (zT_of hE (t0 := 0) rfl) (by omega) (by omega) (by decide) dX5_isCell_22 ?_
    refine z_iconst (v := iI 1) C dX5_isCell_23 rfl ?_
    refine z_isubI (v := (LE i0) - 1) C dX5_isCell_24 (by omega) ?_
    refine z_callS (n := 3) (As := [.int (iI q0), .int (iI 0), .int (iI ((LE i0) - 1))]) (st := [.ref r]) (fr := [(r, .inr (5, [.ref e1, .int (iI (↑n)), .ref e2, .ref e3, .ref e4, .ref e5, .ref e6, .ref e7, .ref e8, .int (iI L), .int d, .ref e9, .ref e10, .ref e11, .ref e12, .ref e13, .int (iI sz), .int (iI mo), .ref e14, .int (iI th)])), (e1, ar cI 8 ND), (e2, ai cI 8 AU), (e3, ai cI 8 LE), (e4, ai cI 8 SN), (e5, ar cI 8 US), (e6, ai cI 80 KK), (e7, ai cI 80 AT), (e8, ai cI 80 LF), (e9, ar cI 6 KN), (e10, ai cI 32 PL), (e11, ai cI 32 HE), (e12, ai cI 32 TU), (e13, ai cI 32 MA), (e14, ai cI 201 CU)]) C hE (k_rin l D cI cZ cM cL q0 0 (LE i0 - 1) hq0 ⟨by omega, by omega⟩ ⟨by omega, by omega⟩) gX5_isCell_X5_in rfl ⟨rfl, rfl⟩ (by decide +kernel) ⟨Nat.le_of_ble_eq_true rfl, Nat.le_of_ble_eq_true rfl⟩ rfl rfl (List.Perm.refl _) (Nat.le_of_ble_eq_true rfl) ⟨Nat.le_of_ble_eq_true rfl, Nat.le_of_ble_eq_true rfl⟩ dX5_isCell_25 (fun r w1 hpo => ?_)
    obtain ⟨rfl, rfl⟩ := hpo
    have hb8 := b2r (0 ≤ q0 ∧ q0 ≤ LE i0 - 1)
    refine (show zG E Q (0) (0) [(r, .inr (5, [.ref e1, .int (iI (↑n)), .ref e2, .ref e3, .ref e4, .ref e5, .ref e6, .ref e7, .ref e8, .int (iI L), .int d, .ref e9, .ref e10, .ref e11, .ref e12, .ref e13, .int (iI sz), .int (iI mo), .ref e14, .int (iI th)])), (e1, ar cI 8 ND), (e2, ai cI 8 AU), (e3, ai cI 8 LE), (e4, ai cI 8 SN), (e5, ar cI 8 US), (e6, ai cI 80 KK), (e7, ai cI 80 AT), (e8, ai cI 80 LF), (e9, ar cI 6 KN), (e10, ai cI 32 PL), (e11, ai cI 32 HE), (e12, ai cI 32 TU), (e13, ai cI 32 MA), (e14, ai cI 201 CU)] [some (.ref r), some (.int (iI i0)), some (.int (iI q0))] 28 [.int (iI (b2 (0 ≤ q0 ∧ q0 ≤ LE i0 - 1))), .ref r] from ?_)
    refine z_if_eqI (tgt := 35) C dX5_isCell_28 (by decide) ⟨by omega, by omega⟩ (fun h2 => ?_) (fun h2 => ?_)
    · refine z_iconst (v := iI 1) C dX5_isCell_35 rfl ?_
      refine z_put (ci := 5) (ws' := [(r, .inr (5, [.ref e1, .int (iI (↑n)), .ref e2, .ref e3, .ref e4, .ref e5, .ref e6, .ref e7, .ref e8, .int (iI L), .int d, .ref e9, .ref e10, .ref e11, .ref e12, .ref e13, .int (iI sz), .int (iI mo), .ref e14, .int (iI 1)])), (e1, ar cI 8 ND), (e2, ai cI 8 AU), (e3, ai cI 8 LE), (e4, ai cI 8 SN), (e5, ar cI 8 US), (e6, ai cI 80 KK), (e7, ai cI 80 AT), (e8, ai cI 80 LF), (e9, ar cI 6 KN), (e10, ai cI 32 PL), (e11, ai cI 32 HE), (e12, ai cI 32 TU), (e13, ai cI 32 MA), (e14, ai cI 201 CU)]) C (hi_X5_isCell_X5) tyX5_ok nmX5 0 rfl rfl 19 (by decide) (by decide +kernel) rfl (tyX5_ok 19 (by decide)) rfl rfl (Nat.le_of_ble_eq_true rfl) rfl dX5_isCell_36 ?_
      refine z_aload_n (i := 0) C dX5_isCell_39 rfl rfl ?_
      refine z_get (ci := 5) C (hi_X5_isCell_X5) 0 rfl rfl 19 (by decide) (by decide +kernel) rfl dX5_isCell_40 ?_
      refine z_if_neI (tgt := 50) C dX5_isCell_43 (by decide) ⟨by omega, by omega⟩ (fun _ => ?_) (fun h => by exfalso; omega)
      refine z_iconst (v := iI 0) C dX5_isCell_50 rfl ?_
      have hx7 := b20 h2
      exact z_zret C hR (by decide) dX5_isCell_51 (Nat.le_of_ble_eq_true rfl) (Nat.le_of_ble_eq_true rfl) (⟨by rw [b2f (P := (0 ≤ i0 ∧ i0 < ↑n) ∧ 0 ≤ q0 ∧ q0 < LE i0) (fun q => hx7 (by omega))], by rw [if_neg (show ¬ ((0 ≤ i0 ∧ i0 < ↑n) ∧ 0 ≤ q0 ∧ q0 < LE i0) from fun q => hx7 (by omega))]⟩)
    · refine z_iconst (v := iI 0) C dX5_isCell_31 rfl ?_
      refine z_goto (tgt := 36) C dX5_isCell_32 (by decide) ?_
      refine z_put (ci := 5) (ws' := [(r, .inr (5, [.ref e1, .int (iI (↑n)), .ref e2, .ref e3, .ref e4, .ref e5, .ref e6, .ref e7, .ref e8, .int (iI L), .int d, .ref e9, .ref e10, .ref e11, .ref e12, .ref e13, .int (iI sz), .int (iI mo), .ref e14, .int (iI 0)])), (e1, ar cI 8 ND), (e2, ai cI 8 AU), (e3, ai cI 8 LE), (e4, ai cI 8 SN), (e5, ar cI 8 US), (e6, ai cI 80 KK), (e7, ai cI 80 AT), (e8, ai cI 80 LF), (e9, ar cI 6 KN), (e10, ai cI 32 PL), (e11, ai cI 32 HE), (e12, ai cI 32 TU), (e13, ai cI 32 MA), (e14, ai cI 201 CU)]) C (hi_X5_isCell_X5) tyX5_ok nmX5 0 rfl rfl 19 (by decide) (by decide +kernel) rfl (tyX5_ok 19 (by decide)) rfl rfl (Nat.le_of_ble_eq_true rfl) rfl dX5_isCell_36 ?_
      refine z_aload_n (i := 0) C dX5_isCell_39 rfl rfl ?_
      refine z_get (ci := 5) C (hi_X5_isCell_X5) 0 rfl rfl 19 (by decide) (by decide +kernel) rfl dX5_isCell_40 ?_
      refine z_if_neI (tgt := 50) C dX5_isCell_43 (by decide) ⟨by omega, by omega⟩ (fun h => by exfalso; omega) (fun _ => ?_)
      refine z_iconst (v := iI 1) C dX5_isCell_46 rfl ?_
      refine z_goto (tgt := 51) C dX5_isCell_47 (by decide) ?_
      have hx8 := b21 h2
      exact z_zret C hR (by decide) dX5_isCell_51 (Nat.le_of_ble_eq_true rfl) (Nat.le_of_ble_eq_true rfl) (⟨by rw [b2t (P := (0 ≤ i0 ∧ i0 < ↑n) ∧ 0 ≤ q0 ∧ q0 < LE i0) (by omega)], by rw [if_pos (show (0 ≤ i0 ∧ i0 < ↑n) ∧ 0 ≤ q0 ∧ q0 < LE i0 by omega)]⟩)
theorem hi_X5_isExam_X5 : ∀ w ∈ wsX50, w ∈ wsX5_isExam := by decide +kernel
set_option maxHeartbeats 1000000 in
set_option maxRecDepth 100000 in
theorem k_risExam (l : Launch) (D : va_G) (cI cZ cM cL : ClassId) (r e1 e2 e3 e4 e5 e6 e7 e8 e9 e10 e11 e12 e13 e14 : Nat) (n : Nat) (L : Int) (d : Int32) (sz mo th : Int) (ND US KN : Int → Int32) (AU LE SN KK AT LF PL HE TU MA CU : Int → Int) (p0 i0 : Int) (hp0 : iR p0) (hi0 : iR i0) (hn : n ≤ 8) : zN l yX5_isExam wsX5_isExam { frames := 1, cells := 0, slots := 0, locals := 22 } D (zTy cI cZ cM cL) [.ref r, .int (iI p0), .int (iI i0)] (rfW cI r e1 e2 e3 e4 e5 e6 e7 e8 e9 e10 e11 e12 e13 e14 n L d sz mo th ND US KN AU LE SN KK AT LF PL HE TU MA CU) (fun r9 w => r9 = some (.int (iI (b2 ((0 ≤ p0 ∧ p0 < 6) ∧ 0 ≤ i0 ∧ i0 < n)))) ∧ w = (rfW cI r e1 e2 e3 e4 e5 e6 e7 e8 e9 e10 e11 e12 e13 e14 n L d sz mo (cEX n p0 i0) ND US KN AU LE SN KK AT LF PL HE TU MA CU)) 0 0 := by
  refine zN_of (cc := cX5_isExam) (maxL := 3) (lv0 := [some (.ref r), some (.int (iI p0)), some (.int (iI i0))]) (by decide) rfl rfl (Nat.le_of_ble_eq_true rfl) rfl ?_
  intro E Q C hE hR hI0
  refine (show zG E Q 0 0 [(r, .inr (5, [.ref e1, .int (iI (↑n)), .ref e2, .ref e3, .ref e4, .ref e5, .ref e6, .ref e7, .ref e8, .int (iI L), .int d, .ref e9, .ref e10, .ref e11, .ref e12, .ref e13, .int (iI sz), .int (iI mo), .ref e14, .int (iI th)])), (e1, ar cI 8 ND), (e2, ai cI 8 AU), (e3, ai cI 8 LE), (e4, ai cI 8 SN), (e5, ar cI 8 US), (e6, ai cI 80 KK), (e7, ai cI 80 AT), (e8, ai cI 80 LF), (e9, ar cI 6 KN), (e10, ai cI 32 PL), (e11, ai cI 32 HE), (e12, ai cI 32 TU), (e13, ai cI 32 MA), (e14, ai cI 201 CU)] [some (.ref r), some (.int (iI p0)), some (.int (iI i0))] 0 [] from ?_)
  refine z_aload_n (i := 0) C dX5_isExam_0 rfl rfl ?_
  refine z_iload_n (i := 1) C dX5_isExam_1 rfl rfl ?_
  refine z_iconst (v := iI 0) C dX5_isExam_2 rfl ?_
  refine z_iconst (v := iI 5) C dX5_isExam_3 rfl ?_
  refine z_callS (n := 3) (As := [.int (iI p0), .int (iI 0), .int (iI 5)]) (st := [.ref r]) (fr := [(r, .inr (5, [.ref e1, .int (iI (↑n)), .ref e2, .ref e3, .ref e4, .ref e5, .ref e6, .ref e7, .ref e8, .int (iI L), .int d, .ref e9, .ref e10, .ref e11, .ref e12, .ref e13, .int (iI sz), .int (iI mo), .ref e14, .int (iI th)])), (e1, ar cI 8 ND), (e2, ai cI 8 AU), (e3, ai cI 8 LE), (e4, ai cI 8 SN), (e5, ar cI 8 US), (e6, ai cI 80 KK), (e7, ai cI 80 AT), (e8, ai cI 80 LF), (e9, ar cI 6 KN), (e10, ai cI 32 PL), (e11, ai cI 32 HE), (e12, ai cI 32 TU), (e13, ai cI 32 MA), (e14, ai cI 201 CU)]) C hE (k_rin l D cI cZ cM cL p0 0 5 hp0 ⟨by omega, by omega⟩ ⟨by omega, by omega⟩) gX5_isExam_X5_in rfl ⟨rfl, rfl⟩ (by decide +kernel) ⟨Nat.le_of_ble_eq_true rfl, Nat.le_of_ble_eq_true rfl⟩ rfl rfl (List.Perm.refl _) (Nat.le_of_ble_eq_true rfl) ⟨Nat.le_of_ble_eq_true rfl, Nat.le_of_ble_eq_true rfl⟩ dX5_isExam_4 (fun r w1 hpo => ?_)
  obtain ⟨rfl, rfl⟩ := hpo
  have hb9 := b2r (0 ≤ p0 ∧ p0 ≤ 5)
  refine (show zG E Q (0) (0) [(r, .inr (5, [.ref e1, .int (iI (↑n)), .ref e2, .ref e3, .ref e4, .ref e5, .ref e6, .ref e7, .ref e8, .int (iI L), .int d, .ref e9, .ref e10, .ref e11, .ref e12, .ref e13, .int (iI sz), .int (iI mo), .ref e14, .int (iI th)])), (e1, ar cI 8 ND), (e2, ai cI 8 AU), (e3, ai cI 8 LE), (e4, ai cI 8 SN), (e5, ar cI 8 US), (e6, ai cI 80 KK), (e7, ai cI 80 AT), (e8, ai cI 80 LF), (e9, ar cI 6 KN), (e10, ai cI 32 PL), (e11, ai cI 32 HE), (e12, ai cI 32 TU), (e13, ai cI 32 MA), (e14, ai cI 201 CU)] [some (.ref r), some (.int (iI p0)), some (.int (iI i0))] 7 [.int (iI (b2 (0 ≤ p0 ∧ p0 ≤ 5))), .ref r] from ?_)
  refine z_if_eqI (tgt := 28) C dX5_isExam_7 (by decide) ⟨by omega, by omega⟩ (fun h1 => ?_) (fun h1 => ?_)
  · refine z_iconst (v := iI 1) C dX5_isExam_28 rfl ?_
    refine z_put (ci := 5) (ws' := [(r, .inr (5, [.ref e1, .int (iI (↑n)), .ref e2, .ref e3, .ref e4, .ref e5, .ref e6, .ref e7, .ref e8, .int (iI L), .int d, .ref e9, .ref e10, .ref e11, .ref e12, .ref e13, .int (iI sz), .int (iI mo), .ref e14, .int (iI 1)])), (e1, ar cI 8 ND), (e2, ai cI 8 AU), (e3, ai cI 8 LE), (e4, ai cI 8 SN), (e5, ar cI 8 US), (e6, ai cI 80 KK), (e7, ai cI 80 AT), (e8, ai cI 80 LF), (e9, ar cI 6 KN), (e10, ai cI 32 PL), (e11, ai cI 32 HE), (e12, ai cI 32 TU), (e13, ai cI 32 MA), (e14, ai cI 201 CU)]) C (hi_X5_isExam_X5) tyX5_ok nmX5 0 rfl rfl 19 (by decide) (by decide +kernel) rfl (tyX5_ok 19 (by decide)) rfl rfl (Nat.le_of_ble_eq_true rfl) rfl dX5_isExam_29 ?_
    refine z_aload_n (i := 0) C dX5_isExam_32 rfl rfl ?_
    refine z_get (ci := 5) C (hi_X5_isExam_X5) 0 rfl rfl 19 (by decide) (by decide +kernel) rfl dX5_isExam_33 ?_
    refine z_if_neI (tgt := 43) C dX5_isExam_36 (by decide) ⟨by omega, by omega⟩ (fun _ => ?_) (fun h => by exfalso; omega)
    refine z_iconst (v := iI 0) C dX5_isExam_43 rfl ?_
    have hx7 := b20 h1
    exact z_zret C hR (by decide) dX5_isExam_44 (Nat.le_of_ble_eq_true rfl) (Nat.le_of_ble_eq_true rfl) (⟨by rw [b2f (P := (0 ≤ p0 ∧ p0 < 6) ∧ 0 ≤ i0 ∧ i0 < ↑n) (fun q => hx7 (by omega))], by unfold cEX; rw [if_pos (show ¬ (0 ≤ p0 ∧ p0 < 6) ∨ ¬ (0 ≤ i0 ∧ i0 < ↑n) by omega)]⟩)
  · have hx9 := b21 h1
    refine z_iload_n (i := 2) C dX5_isExam_10 rfl rfl ?_
    refine z_iconst (v := iI 0) C dX5_isExam_11 rfl ?_
    refine z_aload_n (i := 0) C dX5_isExam_12 rfl rfl ?_
    refine z_get (ci := 5) C (hi_X5_isExam_X5) 0 rfl rfl 1 (by decide) (by decide +kernel) rfl dX5_isExam_13 ?_
    refine z_iconst (v := iI 1) C dX5_isExam_16 rfl ?_
    refine z_isubI (v := (↑n) - 1) C dX5_isExam_17 (by omega) ?_
    refine z_callS (n := 3) (As := [.int (iI i0), .int (iI 0), .int (iI ((↑n) - 1))]) (st := [.ref r]) (fr := [(r, .inr (5, [.ref e1, .int (iI (↑n)), .ref e2, .ref e3, .ref e4, .ref e5, .ref e6, .ref e7, .ref e8, .int (iI L), .int d, .ref e9, .ref e10, .ref e11, .ref e12, .ref e13, .int (iI sz), .int (iI mo), .ref e14, .int (iI th)])), (e1, ar cI 8 ND), (e2, ai cI 8 AU), (e3, ai cI 8 LE), (e4, ai cI 8 SN), (e5, ar cI 8 US), (e6, ai cI 80 KK), (e7, ai cI 80 AT), (e8, ai cI 80 LF), (e9, ar cI 6 KN), (e10, ai cI 32 PL), (e11, ai cI 32 HE), (e12, ai cI 32 TU), (e13, ai cI 32 MA), (e14, ai cI 201 CU)]) C hE (k_rin l D cI cZ cM cL i0 0 (↑n - 1) hi0 ⟨by omega, by omega⟩ ⟨by omega, by omega⟩) gX5_isExam_X5_in rfl ⟨rfl, rfl⟩ (by decide +kernel) ⟨Nat.le_of_ble_eq_true rfl, Nat.le_of_ble_eq_true rfl⟩ rfl rfl (List.Perm.refl _) (Nat.le_of_ble_eq_true rfl) ⟨Nat.le_of_ble_eq_true rfl, Nat.le_of_ble_eq_true rfl⟩ dX5_isExam_18 (fun r w1 hpo => ?_)
    obtain ⟨rfl, rfl⟩ := hpo
    have hb8 := b2r (0 ≤ i0 ∧ i0 ≤ ↑n - 1)
    refine (show zG E Q (0) (0) [(r, .inr (5, [.ref e1, .int (iI (↑n)), .ref e2, .ref e3, .ref e4, .ref e5, .ref e6, .ref e7, .ref e8, .int (iI L), .int d, .ref e9, .ref e10, .ref e11, .ref e12, .ref e13, .int (iI sz), .int (iI mo), .ref e14, .int (iI th)])), (e1, ar cI 8 ND), (e2, ai cI 8 AU), (e3, ai cI 8 LE), (e4, ai cI 8 SN), (e5, ar cI 8 US), (e6, ai cI 80 KK), (e7, ai cI 80 AT), (e8, ai cI 80 LF), (e9, ar cI 6 KN), (e10, ai cI 32 PL), (e11, ai cI 32 HE), (e12, ai cI 32 TU), (e13, ai cI 32 MA), (e14, ai cI 201 CU)] [some (.ref r), some (.int (iI p0)), some (.int (iI i0))] 21 [.int (iI (b2 (0 ≤ i0 ∧ i0 ≤ ↑n - 1))), .ref r] from ?_)
    refine z_if_eqI (tgt := 28) C dX5_isExam_21 (by decide) ⟨by omega, by omega⟩ (fun h2 => ?_) (fun h2 => ?_)
    · refine z_iconst (v := iI 1) C dX5_isExam_28 rfl ?_
      refine z_put (ci := 5) (ws' := [(r, .inr (5, [.ref e1, .int (iI (↑n)), .ref e2, .ref e3, .ref e4, .ref e5, .ref e6, .ref e7, .ref e8, .int (iI L), .int d, .ref e9, .ref e10, .ref e11, .ref e12, .ref e13, .int (iI sz), .int (iI mo), .ref e14, .int (iI 1)])), (e1, ar cI 8 ND), (e2, ai cI 8 AU), (e3, ai cI 8 LE), (e4, ai cI 8 SN), (e5, ar cI 8 US), (e6, ai cI 80 KK), (e7, ai cI 80 AT), (e8, ai cI 80 LF), (e9, ar cI 6 KN), (e10, ai cI 32 PL), (e11, ai cI 32 HE), (e12, ai cI 32 TU), (e13, ai cI 32 MA), (e14, ai cI 201 CU)]) C (hi_X5_isExam_X5) tyX5_ok nmX5 0 rfl rfl 19 (by decide) (by decide +kernel) rfl (tyX5_ok 19 (by decide)) rfl rfl (Nat.le_of_ble_eq_true rfl) rfl dX5_isExam_29 ?_
      refine z_aload_n (i := 0) C dX5_isExam_32 rfl rfl ?_
      refine z_get (ci := 5) C (hi_X5_isExam_X5) 0 rfl rfl 19 (by decide) (by decide +kernel) rfl dX5_isExam_33 ?_
      refine z_if_neI (tgt := 43) C dX5_isExam_36 (by decide) ⟨by omega, by omega⟩ (fun _ => ?_) (fun h => by exfalso; omega)
      refine z_iconst (v := iI 0) C dX5_isExam_43 rfl ?_
      have hx7 := b20 h2
      exact z_zret C hR (by decide) dX5_isExam_44 (Nat.le_of_ble_eq_true rfl) (Nat.le_of_ble_eq_true rfl) (⟨by rw [b2f (P := (0 ≤ p0 ∧ p0 < 6) ∧ 0 ≤ i0 ∧ i0 < ↑n) (fun q => hx7 (by omega))], by unfold cEX; rw [if_pos (show ¬ (0 ≤ p0 ∧ p0 < 6) ∨ ¬ (0 ≤ i0 ∧ i0 < ↑n) by omega)]⟩)
    · refine z_iconst (v := iI 0) C dX5_isExam_24 rfl ?_
      refine z_goto (tgt := 29) C dX5_isExam_25 (by decide) ?_
      refine z_put (ci := 5) (ws' := [(r, .inr (5, [.ref e1, .int (iI (↑n)), .ref e2, .ref e3, .ref e4, .ref e5, .ref e6, .ref e7, .ref e8, .int (iI L), .int d, .ref e9, .ref e10, .ref e11, .ref e12, .ref e13, .int (iI sz), .int (iI mo), .ref e14, .int (iI 0)])), (e1, ar cI 8 ND), (e2, ai cI 8 AU), (e3, ai cI 8 LE), (e4, ai cI 8 SN), (e5, ar cI 8 US), (e6, ai cI 80 KK), (e7, ai cI 80 AT), (e8, ai cI 80 LF), (e9, ar cI 6 KN), (e10, ai cI 32 PL), (e11, ai cI 32 HE), (e12, ai cI 32 TU), (e13, ai cI 32 MA), (e14, ai cI 201 CU)]) C (hi_X5_isExam_X5) tyX5_ok nmX5 0 rfl rfl 19 (by decide) (by decide +kernel) rfl (tyX5_ok 19 (by decide)) rfl rfl (Nat.le_of_ble_eq_true rfl) rfl dX5_isExam_29 ?_
      refine z_aload_n (i := 0) C dX5_isExam_32 rfl rfl ?_
      refine z_get (ci := 5) C (hi_X5_isExam_X5) 0 rfl rfl 19 (by decide) (by decide +kernel) rfl dX5_isExam_33 ?_
      refine z_if_neI (tgt := 43) C dX5_isExam_36 (by decide) ⟨by omega, by omega⟩ (fun h => by exfalso; omega) (fun _ => ?_)
      refine z_iconst (v := iI 1) C dX5_isExam_39 rfl ?_
      refine z_goto (tgt := 44) C dX5_isExam_40 (by decide) ?_
      have hx8 := b21 h2
      exact z_zret C hR (by decide) dX5_isExam_44 (Nat.le_of_ble_eq_true rfl) (Nat.le_of_ble_eq_true rfl) (⟨by rw [b2t (P := (0 ≤ p0 ∧ p0 < 6) ∧ 0 ≤ i0 ∧ i0 < ↑n) (by omega)], by unfold cEX; rw [if_neg (by omega)]⟩)
set_option maxHeartbeats 1000000 in
set_option maxRecDepth 100000 in
theorem k_rbits (l : Launch) (D : va_G) (cI cZ cM cL : ClassId) (x : Int32) : zN l yX5_bits wsX5_bits { frames := 0, cells := 0, slots := 0, locals := 0 } D (zTy cI cZ cM cL) [.int x] [] (fun r w => r = some (.int (bts x 8)) ∧ w = []) 0 0 := by
  refine zN_of (cc := cX5_bits) (maxL := 3) (lv0 := [some (.int x), none, none]) (by decide) rfl rfl (Nat.le_of_ble_eq_true rfl) rfl ?_
  intro E Q C hE hR hI0
  have lp : ∀ (z : Nat) (j : Nat), j ≤ 8 → 8 - j < z → zG E Q (0) (0) [] [some (.int x), some (.int (bts x j)), some (.int (iI ↑j))] 4 [] := by
    intro z
    induction z with
    | zero => intro j hj hjn; omega
    | succ z ih =>
      intro j hj hjn
      refine z_iload_n (i := 2) C dX5_bits_4 rfl rfl ?_
      refine z_bipush (v := iI 8) C dX5_bits_5 (by decide) ?_
      refine z_icmp_geI (tgt := 24) C dX5_bits_7 (by decide) ⟨by omega, by omega⟩ ⟨by omega, by omega⟩ (fun hk => ?_) (fun hk => ?_)
      · refine z_iload_n (i := 1) C dX5_bits_24 rfl rfl ?_
        exact z_iret C hR dX5_bits_25 (Nat.le_of_ble_eq_true rfl) (Nat.le_of_ble_eq_true rfl) (⟨by rw [show j = 8 by omega], rfl⟩)
      · refine z_iload_n (i := 1) C dX5_bits_10 rfl rfl ?_
        refine z_iload_n (i := 0) C dX5_bits_11 rfl rfl ?_
        refine z_iload_n (i := 2) C dX5_bits_12 rfl rfl ?_
        refine z_ishr C dX5_bits_13 ?_
        refine z_iconst (v := iI 1) C dX5_bits_14 rfl ?_
        refine z_iand C dX5_bits_15 ?_
        refine z_iadd C dX5_bits_16 ?_
        refine z_istore_n (i := 1) (lv' := [some (.int x), some (.int ((bts x j) + ((x >>> ((iI ↑j) &&& 31)) &&& (iI 1)))), some (.int (iI ↑j))]) C dX5_bits_17 rfl rfl rfl ?_
        refine z_iincI (v := ↑(j + 1)) (lv' := [some (.int x), some (.int ((bts x j) + ((x >>> ((iI ↑j) &&& 31)) &&& (iI 1)))), some (.int (iI (↑(j + 1))))]) C dX5_bits_18 rfl (by omega) rfl ?_
        refine z_goto (tgt := 4) C dX5_bits_21 (by decide) ?_
        exact ih (j + 1) (by omega) (by omega)
  refine z_iconst (v := iI 0) C dX5_bits_0 rfl ?_
  refine z_istore_n (i := 1) (lv' := [some (.int x), some (.int (iI 0)), none]) C dX5_bits_1 rfl rfl rfl ?_
  refine z_iconst (v := iI 0) C dX5_bits_2 rfl ?_
  refine z_istore_n (i := 2) (lv' := [some (.int x), some (.int (iI 0)), some (.int (iI 0))]) C dX5_bits_3 rfl rfl rfl ?_
  exact lp 9 0 (by omega) (by omega)
theorem hi_X5_ownKinds_X5 : ∀ w ∈ wsX50, w ∈ wsX5_ownKinds := by decide +kernel
set_option maxHeartbeats 1000000 in
set_option maxRecDepth 100000 in
theorem k_rownKinds (l : Launch) (D : va_G) (cI cZ cM cL : ClassId) (r e1 e2 e3 e4 e5 e6 e7 e8 e9 e10 e11 e12 e13 e14 : Nat) (n : Nat) (L : Int) (d : Int32) (sz mo th : Int) (ND US KN : Int → Int32) (AU LE SN KK AT LF PL HE TU MA CU : Int → Int) (i0 : Int) (hi0 : 0 ≤ i0 ∧ i0 < 8) (hsn : 0 ≤ SN i0 ∧ SN i0 ≤ 10) : zN l yX5_ownKinds wsX5_ownKinds { frames := 0, cells := 0, slots := 0, locals := 0 } D (zTy cI cZ cM cL) [.ref r, .int (iI i0)] (rfW cI r e1 e2 e3 e4 e5 e6 e7 e8 e9 e10 e11 e12 e13 e14 n L d sz mo th ND US KN AU LE SN KK AT LF PL HE TU MA CU) (fun r9 w => r9 = some (.int (okb (fun q => KK (10 * i0 + q)) (SN i0).toNat)) ∧ w = (rfW cI r e1 e2 e3 e4 e5 e6 e7 e8 e9 e10 e11 e12 e13 e14 n L d sz mo th ND US KN AU LE SN KK AT LF PL HE TU MA CU)) 0 0 := by
  refine zN_of (cc := cX5_ownKinds) (maxL := 4) (lv0 := [some (.ref r), some (.int (iI i0)), none, none]) (by decide) rfl rfl (Nat.le_of_ble_eq_true rfl) rfl ?_
  intro E Q C hE hR hI0
  refine (show zG E Q 0 0 [(r, .inr (5, [.ref e1, .int (iI (↑n)), .ref e2, .ref e3, .ref e4, .ref e5, .ref e6, .ref e7, .ref e8, .int (iI L), .int d, .ref e9, .ref e10, .ref e11, .ref e12, .ref e13, .int (iI sz), .int (iI mo), .ref e14, .int (iI th)])), (e1, ar cI 8 ND), (e2, ai cI 8 AU), (e3, ai cI 8 LE), (e4, ai cI 8 SN), (e5, ar cI 8 US), (e6, ai cI 80 KK), (e7, ai cI 80 AT), (e8, ai cI 80 LF), (e9, ar cI 6 KN), (e10, ai cI 32 PL), (e11, ai cI 32 HE), (e12, ai cI 32 TU), (e13, ai cI 32 MA), (e14, ai cI 201 CU)] [some (.ref r), some (.int (iI i0)), none, none] 0 [] from ?_)
  have lp : ∀ (z : Nat) (j : Nat), j ≤ (SN i0).toNat → (SN i0).toNat - j < z → zG E Q (0) (0) [(r, .inr (5, [.ref e1, .int (iI (↑n)), .ref e2, .ref e3, .ref e4, .ref e5, .ref e6, .ref e7, .ref e8, .int (iI L), .int d, .ref e9, .ref e10, .ref e11, .ref e12, .ref e13, .int (iI sz), .int (iI mo), .ref e14, .int (iI th)])), (e1, ar cI 8 ND), (e2, ai cI 8 AU), (e3, ai cI 8 LE), (e4, ai cI 8 SN), (e5, ar cI 8 US), (e6, ai cI 80 KK), (e7, ai cI 80 AT), (e8, ai cI 80 LF), (e9, ar cI 6 KN), (e10, ai cI 32 PL), (e11, ai cI 32 HE), (e12, ai cI 32 TU), (e13, ai cI 32 MA), (e14, ai cI 201 CU)] [some (.ref r), some (.int (iI i0)), some (.int (okb (fun q => KK (10 * i0 + q)) j)), some (.int (iI ↑j))] 4 [] := by
    intro z
    induction z with
    | zero => intro j hj hjn; omega
    | succ z ih =>
      intro j hj hjn
      refine z_iload_n (i := 3) C dX5_ownKinds_4 rfl rfl ?_
      refine z_aload_n (i := 0) C dX5_ownKinds_5 rfl rfl ?_
      refine z_get (ci := 5) C (hi_X5_ownKinds_X5) 0 rfl rfl 4 (by decide) (by decide +kernel) rfl dX5_ownKinds_6 ?_
      refine z_iload_n (i := 1) C dX5_ownKinds_9 rfl rfl ?_
      refine z_ialoadI 4 (he := rfl) C (zT_of hE (t0 := 0) rfl) (by omega) (by omega) (by decide) dX5_ownKinds_10 ?_
      refine z_icmp_geI (tgt := 36) C dX5_ownKinds_11 (by decide) ⟨by omega, by omega⟩ ⟨by omega, by omega⟩ (fun hk => ?_) (fun hk => ?_)
      · refine z_iload_n (i := 2) C dX5_ownKinds_36 rfl rfl ?_
        exact z_iret C hR dX5_ownKinds_37 (Nat.le_of_ble_eq_true rfl) (Nat.le_of_ble_eq_true rfl) (⟨by rw [show (SN i0).toNat = j by omega], rfl⟩)
      · refine z_iload_n (i := 2) C dX5_ownKinds_14 rfl rfl ?_
        refine z_iconst (v := iI 1) C dX5_ownKinds_15 rfl ?_
        refine z_aload_n (i := 0) C dX5_ownKinds_16 rfl rfl ?_
        refine z_get (ci := 5) C (hi_X5_ownKinds_X5) 0 rfl rfl 6 (by decide) (by decide +kernel) rfl dX5_ownKinds_17 ?_
        refine z_bipush (v := iI 10) C dX5_ownKinds_20 (by decide) ?_
        refine z_iload_n (i := 1) C dX5_ownKinds_22 rfl rfl ?_
        refine z_imulI (v := 10 * i0) C dX5_ownKinds_23 (by rfl) ?_
        refine z_iload_n (i := 3) C dX5_ownKinds_24 rfl rfl ?_
        refine z_iaddI (v := (10 * i0) + (↑j)) C dX5_ownKinds_25 (by omega) ?_
        refine z_ialoadI 6 (he := rfl) C (zT_of hE (t0 := 0) rfl) (by omega) (by omega) (by decide) dX5_ownKinds_26 ?_
        refine z_ishl C dX5_ownKinds_27 ?_
        refine z_ior C dX5_ownKinds_28 ?_
        refine z_istore_n (i := 2) (lv' := [some (.ref r), some (.int (iI i0)), some (.int ((okb (fun q => KK (10 * i0 + q)) j) ||| ((iI 1) <<< ((iI (KK ((10 * i0) + (↑j)))) &&& 31)))), some (.int (iI ↑j))]) C dX5_ownKinds_29 rfl rfl rfl ?_
        refine z_iincI (v := ↑(j + 1)) (lv' := [some (.ref r), some (.int (iI i0)), some (.int ((okb (fun q => KK (10 * i0 + q)) j) ||| ((iI 1) <<< ((iI (KK ((10 * i0) + (↑j)))) &&& 31)))), some (.int (iI (↑(j + 1))))]) C dX5_ownKinds_30 rfl (by omega) rfl ?_
        refine z_goto (tgt := 4) C dX5_ownKinds_33 (by decide) ?_
        exact ih (j + 1) (by omega) (by omega)
  refine z_iconst (v := iI 0) C dX5_ownKinds_0 rfl ?_
  refine z_istore_n (i := 2) (lv' := [some (.ref r), some (.int (iI i0)), some (.int (iI 0)), none]) C dX5_ownKinds_1 rfl rfl rfl ?_
  refine z_iconst (v := iI 0) C dX5_ownKinds_2 rfl ?_
  refine z_istore_n (i := 3) (lv' := [some (.ref r), some (.int (iI i0)), some (.int (iI 0)), some (.int (iI 0))]) C dX5_ownKinds_3 rfl rfl rfl ?_
  exact lp ((SN i0).toNat + 1) 0 (by omega) (by omega)
