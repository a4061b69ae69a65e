/-! THE REFERENCE: its calls. -/
theorem hi_X5_setNeeds_X5 : ∀ w ∈ wsX50, w ∈ wsX5_setNeeds := by decide +kernel
set_option maxHeartbeats 1000000 in
set_option maxRecDepth 100000 in
theorem k_rsetNeeds (l : Launch) (D : va_G) (cI cZ cM cL : ClassId) (r e1 e2 e3 e4 e5 e6 e7 e8 e9 e10 e11 e12 e13 e14 : Nat) (n : Nat) (L : Int) (d : Int32) (sz mo th : Int) (ND US KN : Int → Int32) (AU LE SN KK AT LF PL HE TU MA CU : Int → Int) (hg : rO n L US LE SN AT LF) (k0 w0 : Int) (hk0 : iR k0) (hw0 : iR w0) : zN l yX5_setNeeds wsX5_setNeeds { frames := 1, cells := 0, slots := 0, locals := 24 } D (zTy cI cZ cM cL) [.ref r, .int (iI k0), .int (iI w0)] (rfW cI r e1 e2 e3 e4 e5 e6 e7 e8 e9 e10 e11 e12 e13 e14 n L d sz mo th ND US KN AU LE SN KK AT LF PL HE TU MA CU) (fun r9 w => ((rSN ND k0 w0) = 0 ∧ r9 = some (.int (ND k0)) ∧ (rQ cI r e1 e2 e3 e4 e5 e6 e7 e8 e9 e10 e11 e12 e13 e14 n L d 0 (zup ND k0 (iI w0)) US KN AU LE SN KK AT LF w)) ∨ (¬ (rSN ND k0 w0) = 0 ∧ r9 = some (.int (iI 0)) ∧ (rQ cI r e1 e2 e3 e4 e5 e6 e7 e8 e9 e10 e11 e12 e13 e14 n L d (rSN ND k0 w0) ND US KN AU LE SN KK AT LF w))) 0 0 := by
  refine zN_of (cc := cX5_setNeeds) (maxL := 4) (lv0 := [some (.ref r), some (.int (iI k0)), some (.int (iI w0)), none]) (by decide) rfl rfl (Nat.le_of_ble_eq_true rfl) rfl ?_
  intro E Q C hE hR hI0
  obtain ⟨hn, hz, hL, hm⟩ := hg
  refine (show zG E Q 0 0 [(r, .inr (5, [.ref e1, .int (iI (↑n)), .ref e2, .ref e3, .ref e4, .ref e5, .ref e6, .ref e7, .ref e8, .int (iI L), .int d, .ref e9, .ref e10, .ref e11, .ref e12, .ref e13, .int (iI sz), .int (iI mo), .ref e14, .int (iI th)])), (e1, ar cI 8 ND), (e2, ai cI 8 AU), (e3, ai cI 8 LE), (e4, ai cI 8 SN), (e5, ar cI 8 US), (e6, ai cI 80 KK), (e7, ai cI 80 AT), (e8, ai cI 80 LF), (e9, ar cI 6 KN), (e10, ai cI 32 PL), (e11, ai cI 32 HE), (e12, ai cI 32 TU), (e13, ai cI 32 MA), (e14, ai cI 201 CU)] [some (.ref r), some (.int (iI k0)), some (.int (iI w0)), none] 0 [] from ?_)
  refine z_aload_n (i := 0) C dX5_setNeeds_0 rfl rfl ?_
  refine z_iload_n (i := 1) C dX5_setNeeds_1 rfl rfl ?_
  refine z_iconst (v := iI 0) C dX5_setNeeds_2 rfl ?_
  refine z_bipush (v := iI 7) C dX5_setNeeds_3 (by decide) ?_
  refine z_callS (n := 3) (As := [.int (iI k0), .int (iI 0), .int (iI 7)]) (st := [.ref r]) (fr := [(r, .inr (5, [.ref e1, .int (iI (↑n)), .ref e2, .ref e3, .ref e4, .ref e5, .ref e6, .ref e7, .ref e8, .int (iI L), .int d, .ref e9, .ref e10, .ref e11, .ref e12, .ref e13, .int (iI sz), .int (iI mo), .ref e14, .int (iI th)])), (e1, ar cI 8 ND), (e2, ai cI 8 AU), (e3, ai cI 8 LE), (e4, ai cI 8 SN), (e5, ar cI 8 US), (e6, ai cI 80 KK), (e7, ai cI 80 AT), (e8, ai cI 80 LF), (e9, ar cI 6 KN), (e10, ai cI 32 PL), (e11, ai cI 32 HE), (e12, ai cI 32 TU), (e13, ai cI 32 MA), (e14, ai cI 201 CU)]) C hE (k_rin l D cI cZ cM cL k0 0 7 hk0 ⟨by omega, by omega⟩ ⟨by omega, by omega⟩) gX5_setNeeds_X5_in rfl ⟨rfl, rfl⟩ (by decide +kernel) ⟨Nat.le_of_ble_eq_true rfl, Nat.le_of_ble_eq_true rfl⟩ rfl rfl (List.Perm.refl _) (Nat.le_of_ble_eq_true rfl) ⟨Nat.le_of_ble_eq_true rfl, Nat.le_of_ble_eq_true rfl⟩ dX5_setNeeds_5 (fun r w1 hpo => ?_)
  obtain ⟨rfl, rfl⟩ := hpo
  have hb9 := b2r (0 ≤ k0 ∧ k0 ≤ 7)
  refine (show zG E Q (0) (0) [(r, .inr (5, [.ref e1, .int (iI (↑n)), .ref e2, .ref e3, .ref e4, .ref e5, .ref e6, .ref e7, .ref e8, .int (iI L), .int d, .ref e9, .ref e10, .ref e11, .ref e12, .ref e13, .int (iI sz), .int (iI mo), .ref e14, .int (iI th)])), (e1, ar cI 8 ND), (e2, ai cI 8 AU), (e3, ai cI 8 LE), (e4, ai cI 8 SN), (e5, ar cI 8 US), (e6, ai cI 80 KK), (e7, ai cI 80 AT), (e8, ai cI 80 LF), (e9, ar cI 6 KN), (e10, ai cI 32 PL), (e11, ai cI 32 HE), (e12, ai cI 32 TU), (e13, ai cI 32 MA), (e14, ai cI 201 CU)] [some (.ref r), some (.int (iI k0)), some (.int (iI w0)), none] 8 [.int (iI (b2 (0 ≤ k0 ∧ k0 ≤ 7))), .ref r] from ?_)
  refine z_if_neI (tgt := 15) C dX5_setNeeds_8 (by decide) ⟨by omega, by omega⟩ (fun h1 => ?_) (fun h1 => ?_)
  · refine z_iload_n (i := 2) C dX5_setNeeds_15 rfl rfl ?_
    refine z_iconst (v := iI 0) C dX5_setNeeds_16 rfl ?_
    refine z_sipush (v := iI 255) C dX5_setNeeds_17 (by decide) ?_
    refine z_callS (n := 3) (As := [.int (iI w0), .int (iI 0), .int (iI 255)]) (st := [.ref r]) (fr := [(r, .inr (5, [.ref e1, .int (iI (↑n)), .ref e2, .ref e3, .ref e4, .ref e5, .ref e6, .ref e7, .ref e8, .int (iI L), .int d, .ref e9, .ref e10, .ref e11, .ref e12, .ref e13, .int (iI sz), .int (iI mo), .ref e14, .int (iI th)])), (e1, ar cI 8 ND), (e2, ai cI 8 AU), (e3, ai cI 8 LE), (e4, ai cI 8 SN), (e5, ar cI 8 US), (e6, ai cI 80 KK), (e7, ai cI 80 AT), (e8, ai cI 80 LF), (e9, ar cI 6 KN), (e10, ai cI 32 PL), (e11, ai cI 32 HE), (e12, ai cI 32 TU), (e13, ai cI 32 MA), (e14, ai cI 201 CU)]) C hE (k_rin l D cI cZ cM cL w0 0 255 hw0 ⟨by omega, by omega⟩ ⟨by omega, by omega⟩) gX5_setNeeds_X5_in rfl ⟨rfl, rfl⟩ (by decide +kernel) ⟨Nat.le_of_ble_eq_true rfl, Nat.le_of_ble_eq_true rfl⟩ rfl rfl (List.Perm.refl _) (Nat.le_of_ble_eq_true rfl) ⟨Nat.le_of_ble_eq_true rfl, Nat.le_of_ble_eq_true rfl⟩ dX5_setNeeds_20 (fun r w1 hpo => ?_)
    obtain ⟨rfl, rfl⟩ := hpo
    have hb8 := b2r (0 ≤ w0 ∧ w0 ≤ 255)
    refine (show zG E Q (0) (0) [(r, .inr (5, [.ref e1, .int (iI (↑n)), .ref e2, .ref e3, .ref e4, .ref e5, .ref e6, .ref e7, .ref e8, .int (iI L), .int d, .ref e9, .ref e10, .ref e11, .ref e12, .ref e13, .int (iI sz), .int (iI mo), .ref e14, .int (iI th)])), (e1, ar cI 8 ND), (e2, ai cI 8 AU), (e3, ai cI 8 LE), (e4, ai cI 8 SN), (e5, ar cI 8 US), (e6, ai cI 80 KK), (e7, ai cI 80 AT), (e8, ai cI 80 LF), (e9, ar cI 6 KN), (e10, ai cI 32 PL), (e11, ai cI 32 HE), (e12, ai cI 32 TU), (e13, ai cI 32 MA), (e14, ai cI 201 CU)] [some (.ref r), some (.int (iI k0)), some (.int (iI w0)), none] 23 [.int (iI (b2 (0 ≤ w0 ∧ w0 ≤ 255))), .ref r] from ?_)
    refine z_if_neI (tgt := 30) C dX5_setNeeds_23 (by decide) ⟨by omega, by omega⟩ (fun h2 => ?_) (fun h2 => ?_)
    · refine z_iconst (v := iI 0) C dX5_setNeeds_30 rfl ?_
      refine z_put (ci := 5) (ws' := [(r, .inr (5, [.ref e1, .int (iI (↑n)), .ref e2, .ref e3, .ref e4, .ref e5, .ref e6, .ref e7, .ref e8, .int (iI L), .int d, .ref e9, .ref e10, .ref e11, .ref e12, .ref e13, .int (iI sz), .int (iI mo), .ref e14, .int (iI 0)])), (e1, ar cI 8 ND), (e2, ai cI 8 AU), (e3, ai cI 8 LE), (e4, ai cI 8 SN), (e5, ar cI 8 US), (e6, ai cI 80 KK), (e7, ai cI 80 AT), (e8, ai cI 80 LF), (e9, ar cI 6 KN), (e10, ai cI 32 PL), (e11, ai cI 32 HE), (e12, ai cI 32 TU), (e13, ai cI 32 MA), (e14, ai cI 201 CU)]) C (hi_X5_setNeeds_X5) tyX5_ok nmX5 0 rfl rfl 19 (by decide) (by decide +kernel) rfl (tyX5_ok 19 (by decide)) rfl rfl (Nat.le_of_ble_eq_true rfl) rfl dX5_setNeeds_31 ?_
      refine z_aload_n (i := 0) C dX5_setNeeds_34 rfl rfl ?_
      refine z_get (ci := 5) C (hi_X5_setNeeds_X5) 0 rfl rfl 19 (by decide) (by decide +kernel) rfl dX5_setNeeds_35 ?_
      refine z_if_leI (tgt := 43) C dX5_setNeeds_38 (by decide) ⟨by omega, by omega⟩ (fun _ => ?_) (fun h => by exfalso; omega)
      have hk9 := b21 h1
      refine z_aload_n (i := 0) C dX5_setNeeds_43 rfl rfl ?_
      refine z_get (ci := 5) C (hi_X5_setNeeds_X5) 0 rfl rfl 0 (by decide) (by decide +kernel) rfl dX5_setNeeds_44 ?_
      refine z_iload_n (i := 1) C dX5_setNeeds_47 rfl rfl ?_
      refine z_iaload C 1 rfl (zT_of hE (t0 := 0) rfl) (by omega) (by omega) (by decide) dX5_setNeeds_48 ?_
      refine z_istore_n (i := 3) (lv' := [some (.ref r), some (.int (iI k0)), some (.int (iI w0)), some (.int (ND k0))]) C dX5_setNeeds_49 rfl rfl rfl ?_
      refine z_aload_n (i := 0) C dX5_setNeeds_50 rfl rfl ?_
      refine z_get (ci := 5) C (hi_X5_setNeeds_X5) 0 rfl rfl 0 (by decide) (by decide +kernel) rfl dX5_setNeeds_51 ?_
      refine z_iload_n (i := 1) C dX5_setNeeds_54 rfl rfl ?_
      refine z_iload_n (i := 2) C dX5_setNeeds_55 rfl rfl ?_
      refine z_iastore (ws' := [(r, .inr (5, [.ref e1, .int (iI (↑n)), .ref e2, .ref e3, .ref e4, .ref e5, .ref e6, .ref e7, .ref e8, .int (iI L), .int d, .ref e9, .ref e10, .ref e11, .ref e12, .ref e13, .int (iI sz), .int (iI mo), .ref e14, .int (iI 0)])), (e1, ar cI 8 (zup ND k0 (iI w0))), (e2, ai cI 8 AU), (e3, ai cI 8 LE), (e4, ai cI 8 SN), (e5, ar cI 8 US), (e6, ai cI 80 KK), (e7, ai cI 80 AT), (e8, ai cI 80 LF), (e9, ar cI 6 KN), (e10, ai cI 32 PL), (e11, ai cI 32 HE), (e12, ai cI 32 TU), (e13, ai cI 32 MA), (e14, ai cI 201 CU)]) C 1 rfl (zT_of hE (t0 := 0) rfl) (by omega) (by omega) (by decide) rfl dX5_setNeeds_56 ?_
      refine z_aload_n (i := 0) C dX5_setNeeds_57 rfl rfl ?_
      refine z_iload_n (i := 2) C dX5_setNeeds_58 rfl rfl ?_
      refine z_callV (n := 1) (As := [.int (iI w0)]) (st := []) (fr := []) C hE (k_rclosed l D cI cZ cM cL r e1 e2 e3 e4 e5 e6 e7 e8 e9 e10 e11 e12 e13 e14 n L d sz mo 0 (zup ND k0 (iI w0)) US KN AU LE SN KK AT LF PL HE TU MA CU (iI w0) ) gX5_setNeeds_X5_closed rfl ⟨rfl, rfl⟩ (by decide +kernel) ⟨Nat.le_of_ble_eq_true rfl, Nat.le_of_ble_eq_true rfl⟩ rfl rfl (by rw [List.append_nil]) 0 rfl rfl rfl (Nat.le_of_ble_eq_true rfl) ⟨Nat.le_of_ble_eq_true rfl, Nat.le_of_ble_eq_true rfl⟩ dX5_setNeeds_59 (fun r w1 hpo => ?_)
      obtain ⟨rfl, rfl⟩ := hpo
      rw [List.append_nil]
      refine (show zG E Q (0) (0) [(r, .inr (5, [.ref e1, .int (iI (↑n)), .ref e2, .ref e3, .ref e4, .ref e5, .ref e6, .ref e7, .ref e8, .int (iI L), .int d, .ref e9, .ref e10, .ref e11, .ref e12, .ref e13, .int (iI sz), .int (iI mo), .ref e14, .int (iI 0)])), (e1, ar cI 8 (zup ND k0 (iI w0))), (e2, ai cI 8 AU), (e3, ai cI 8 LE), (e4, ai cI 8 SN), (e5, ar cI 8 US), (e6, ai cI 80 KK), (e7, ai cI 80 AT), (e8, ai cI 80 LF), (e9, ar cI 6 KN), (e10, ai cI 32 PL), (e11, ai cI 32 HE), (e12, ai cI 32 TU), (e13, ai cI 32 MA), (e14, ai cI 201 CU)] [some (.ref r), some (.int (iI k0)), some (.int (iI w0)), some (.int (ND k0))] 62 [.int (rch (zup ND k0 (iI w0)) (iI (-1)) 8 (iI w0))] from ?_)
      refine z_iload_n (i := 1) C dX5_setNeeds_62 rfl rfl ?_
      refine z_ishr C dX5_setNeeds_63 ?_
      refine z_iconst (v := iI 1) C dX5_setNeeds_64 rfl ?_
      refine z_iand C dX5_setNeeds_65 ?_
      refine z_iconst (v := iI 1) C dX5_setNeeds_66 rfl ?_
      refine z_icmp_ne (tgt := 83) C dX5_setNeeds_67 (by decide) (fun h3 => ?_) (fun h3 => ?_)
      · refine z_iload_n (i := 3) C dX5_setNeeds_83 rfl rfl ?_
        have hc : rSN ND k0 w0 = 0 := by unfold rSN; rw [if_neg (by have := b21 h1; omega), if_neg (by have := b21 h2; omega), if_neg (mt hb1.mpr h3)]
        exact z_iret C hR dX5_setNeeds_84 (Nat.le_of_ble_eq_true rfl) (Nat.le_of_ble_eq_true rfl) (Or.inl ⟨hc, rfl, sz, mo, PL, HE, TU, MA, CU, rfl⟩)
      · refine z_aload_n (i := 0) C dX5_setNeeds_70 rfl rfl ?_
        refine z_get (ci := 5) C (hi_X5_setNeeds_X5) 0 rfl rfl 0 (by decide) (by decide +kernel) rfl dX5_setNeeds_71 ?_
        refine z_iload_n (i := 1) C dX5_setNeeds_74 rfl rfl ?_
        refine z_iload_n (i := 3) C dX5_setNeeds_75 rfl rfl ?_
        refine z_iastore (ws' := [(r, .inr (5, [.ref e1, .int (iI (↑n)), .ref e2, .ref e3, .ref e4, .ref e5, .ref e6, .ref e7, .ref e8, .int (iI L), .int d, .ref e9, .ref e10, .ref e11, .ref e12, .ref e13, .int (iI sz), .int (iI mo), .ref e14, .int (iI 0)])), (e1, ar cI 8 (zup (zup ND k0 (iI w0)) k0 (ND k0))), (e2, ai cI 8 AU), (e3, ai cI 8 LE), (e4, ai cI 8 SN), (e5, ar cI 8 US), (e6, ai cI 80 KK), (e7, ai cI 80 AT), (e8, ai cI 80 LF), (e9, ar cI 6 KN), (e10, ai cI 32 PL), (e11, ai cI 32 HE), (e12, ai cI 32 TU), (e13, ai cI 32 MA), (e14, ai cI 201 CU)]) C 1 rfl (zT_of hE (t0 := 0) rfl) (by omega) (by omega) (by decide) rfl dX5_setNeeds_76 ?_
        refine z_aload_n (i := 0) C dX5_setNeeds_77 rfl rfl ?_
        refine z_iconst (v := iI 2) C dX5_setNeeds_78 rfl ?_
        refine z_callV (n := 1) (As := [.int (iI 2)]) (st := []) (fr := []) C hE (k_rfails l D cI cZ cM cL r e1 e2 e3 e4 e5 e6 e7 e8 e9 e10 e11 e12 e13 e14 n L d sz mo 0 (zup (zup ND k0 (iI w0)) k0 (ND k0)) US KN AU LE SN KK AT LF PL HE TU MA CU 2 ) gX5_setNeeds_X5_fails rfl ⟨rfl, rfl⟩ (by decide +kernel) ⟨Nat.le_of_ble_eq_true rfl, Nat.le_of_ble_eq_true rfl⟩ rfl rfl (by rw [List.append_nil]) 0 rfl rfl rfl (Nat.le_of_ble_eq_true rfl) ⟨Nat.le_of_ble_eq_true rfl, Nat.le_of_ble_eq_true rfl⟩ dX5_setNeeds_79 (fun r w1 hpo => ?_)
        obtain ⟨rfl, rfl⟩ := hpo
        rw [List.append_nil]
        refine (show zG E Q (0) (0) [(r, .inr (5, [.ref e1, .int (iI (↑n)), .ref e2, .ref e3, .ref e4, .ref e5, .ref e6, .ref e7, .ref e8, .int (iI L), .int d, .ref e9, .ref e10, .ref e11, .ref e12, .ref e13, .int (iI sz), .int (iI mo), .ref e14, .int (iI 2)])), (e1, ar cI 8 (zup (zup ND k0 (iI w0)) k0 (ND k0))), (e2, ai cI 8 AU), (e3, ai cI 8 LE), (e4, ai cI 8 SN), (e5, ar cI 8 US), (e6, ai cI 80 KK), (e7, ai cI 80 AT), (e8, ai cI 80 LF), (e9, ar cI 6 KN), (e10, ai cI 32 PL), (e11, ai cI 32 HE), (e12, ai cI 32 TU), (e13, ai cI 32 MA), (e14, ai cI 201 CU)] [some (.ref r), some (.int (iI k0)), some (.int (iI w0)), some (.int (ND k0))] 82 [.int (iI 0)] from ?_)
        have hc : rSN ND k0 w0 = 2 := by unfold rSN; rw [if_neg (by have := b21 h1; omega), if_neg (by have := b21 h2; omega), if_pos (hb1.mp h3)]
        exact z_iret C hR dX5_setNeeds_82 (Nat.le_of_ble_eq_true rfl) (Nat.le_of_ble_eq_true rfl) (Or.inr ⟨by omega, rfl, sz, mo, PL, HE, TU, MA, CU, by rw [hc, zup_back]⟩)
    · refine z_iconst (v := iI 2) C dX5_setNeeds_26 rfl ?_
      refine z_goto (tgt := 31) C dX5_setNeeds_27 (by decide) ?_
      refine z_put (ci := 5) (ws' := [(r, .inr (5, [.ref e1, .int (iI (↑n)), .ref e2, .ref e3, .ref e4, .ref e5, .ref e6, .ref e7, .ref e8, .int (iI L), .int d, .ref e9, .ref e10, .ref e11, .ref e12, .ref e13, .int (iI sz), .int (iI mo), .ref e14, .int (iI 2)])), (e1, ar cI 8 ND), (e2, ai cI 8 AU), (e3, ai cI 8 LE), (e4, ai cI 8 SN), (e5, ar cI 8 US), (e6, ai cI 80 KK), (e7, ai cI 80 AT), (e8, ai cI 80 LF), (e9, ar cI 6 KN), (e10, ai cI 32 PL), (e11, ai cI 32 HE), (e12, ai cI 32 TU), (e13, ai cI 32 MA), (e14, ai cI 201 CU)]) C (hi_X5_setNeeds_X5) tyX5_ok nmX5 0 rfl rfl 19 (by decide) (by decide +kernel) rfl (tyX5_ok 19 (by decide)) rfl rfl (Nat.le_of_ble_eq_true rfl) rfl dX5_setNeeds_31 ?_
      refine z_aload_n (i := 0) C dX5_setNeeds_34 rfl rfl ?_
      refine z_get (ci := 5) C (hi_X5_setNeeds_X5) 0 rfl rfl 19 (by decide) (by decide +kernel) rfl dX5_setNeeds_35 ?_
      refine z_if_leI (tgt := 43) C dX5_setNeeds_38 (by decide) ⟨by omega, by omega⟩ (fun h => by exfalso; omega) (fun _ => ?_)
      refine z_iconst (v := iI 0) C dX5_setNeeds_41 rfl ?_
      have hc : rSN ND k0 w0 = 2 := by unfold rSN; rw [if_neg (by have := b21 h1; omega), if_pos (by have := b20 h2; omega)]
      exact z_iret C hR dX5_setNeeds_42 (Nat.le_of_ble_eq_true rfl) (Nat.le_of_ble_eq_true rfl) (Or.inr ⟨by omega, rfl, sz, mo, PL, HE, TU, MA, CU, by rw [hc]⟩)
  · refine z_iconst (v := iI 1) C dX5_setNeeds_11 rfl ?_
    refine z_goto (tgt := 31) C dX5_setNeeds_12 (by decide) ?_
    refine z_put (ci := 5) (ws' := [(r, .inr (5, [.ref e1, .int (iI (↑n)), .ref e2, .ref e3, .ref e4, .ref e5, .ref e6, .ref e7, .ref e8, .int (iI L), .int d, .ref e9, .ref e10, .ref e11, .ref e12, .ref e13, .int (iI sz), .int (iI mo), .ref e14, .int (iI 1)])), (e1, ar cI 8 ND), (e2, ai cI 8 AU), (e3, ai cI 8 LE), (e4, ai cI 8 SN), (e5, ar cI 8 US), (e6, ai cI 80 KK), (e7, ai cI 80 AT), (e8, ai cI 80 LF), (e9, ar cI 6 KN), (e10, ai cI 32 PL), (e11, ai cI 32 HE), (e12, ai cI 32 TU), (e13, ai cI 32 MA), (e14, ai cI 201 CU)]) C (hi_X5_setNeeds_X5) tyX5_ok nmX5 0 rfl rfl 19 (by decide) (by decide +kernel) rfl (tyX5_ok 19 (by decide)) rfl rfl (Nat.le_of_ble_eq_true rfl) rfl dX5_setNeeds_31 ?_
    refine z_aload_n (i := 0) C dX5_setNeeds_34 rfl rfl ?_
    refine z_get (ci := 5) C (hi_X5_setNeeds_X5) 0 rfl rfl 19 (by decide) (by decide +kernel) rfl dX5_setNeeds_35 ?_
    refine z_if_leI (tgt := 43) C dX5_setNeeds_38 (by decide) ⟨by omega, by omega⟩ (fun h => by exfalso; omega) (fun _ => ?_)
    refine z_iconst (v := iI 0) C dX5_setNeeds_41 rfl ?_
    have hc : rSN ND k0 w0 = 1 := by unfold rSN; rw [if_pos (by have := b20 h1; omega)]
    exact z_iret C hR dX5_setNeeds_42 (Nat.le_of_ble_eq_true rfl) (Nat.le_of_ble_eq_true rfl) (Or.inr ⟨by omega, rfl, sz, mo, PL, HE, TU, MA, CU, by rw [hc]⟩)
theorem hi_X5_addModel_X5 : ∀ w ∈ wsX50, w ∈ wsX5_addModel := by decide +kernel
set_option maxHeartbeats 1000000 in
set_option maxRecDepth 100000 in
theorem k_raddModel (l : Launch) (D : va_G) (cI cZ cM cL : ClassId) (r e1 e2 e3 e4 e5 e6 e7 e8 e9 e10 e11 e12 e13 e14 : Nat) (n : Nat) (L : Int) (d : Int32) (sz mo th : Int) (ND US KN : Int → Int32) (AU LE SN KK AT LF PL HE TU MA CU : Int → Int) (hg : rO n L US LE SN AT LF) (au0 l0 : Int) (ha0 : iR au0) (hl0 : iR l0) : zN l yX5_addModel wsX5_addModel { frames := 1, cells := 0, slots := 0, locals := 22 } D (zTy cI cZ cM cL) [.ref r, .int (iI au0), .int (iI l0)] (rfW cI r e1 e2 e3 e4 e5 e6 e7 e8 e9 e10 e11 e12 e13 e14 n L d sz mo th ND US KN AU LE SN KK AT LF PL HE TU MA CU) (fun r9 w => ((cAM n au0 l0) = 0 ∧ r9 = some (.int (iI n)) ∧ (rQ cI r e1 e2 e3 e4 e5 e6 e7 e8 e9 e10 e11 e12 e13 e14 (n + 1) L d 0 ND US KN (zup AU n au0) (zup LE n l0) SN KK AT LF w)) ∨ (¬ (cAM n au0 l0) = 0 ∧ r9 = some (.int (iI 0)) ∧ (rQ cI r e1 e2 e3 e4 e5 e6 e7 e8 e9 e10 e11 e12 e13 e14 n L d (cAM n au0 l0) ND US KN AU LE SN KK AT LF w))) 0 0 := by
  refine zN_of (cc := cX5_addModel) (maxL := 3) (lv0 := [some (.ref r), some (.int (iI au0)), some (.int (iI l0))]) (by decide) rfl rfl (Nat.le_of_ble_eq_true rfl) rfl ?_
  intro E Q C hE hR hI0
  obtain ⟨hn, hz, hL, hm⟩ := hg
  refine (show zG E Q 0 0 [(r, .inr (5, [.ref e1, .int (iI (↑n)), .ref e2, .ref e3, .ref e4, .ref e5, .ref e6, .ref e7, .ref e8, .int (iI L), .int d, .ref e9, .ref e10, .ref e11, .ref e12, .ref e13, .int (iI sz), .int (iI mo), .ref e14, .int (iI th)])), (e1, ar cI 8 ND), (e2, ai cI 8 AU), (e3, ai cI 8 LE), (e4, ai cI 8 SN), (e5, ar cI 8 US), (e6, ai cI 80 KK), (e7, ai cI 80 AT), (e8, ai cI 80 LF), (e9, ar cI 6 KN), (e10, ai cI 32 PL), (e11, ai cI 32 HE), (e12, ai cI 32 TU), (e13, ai cI 32 MA), (e14, ai cI 201 CU)] [some (.ref r), some (.int (iI au0)), some (.int (iI l0))] 0 [] from ?_)
  refine z_aload_n (i := 0) C dX5_addModel_0 rfl rfl ?_
  refine z_iload_n (i := 1) C dX5_addModel_1 rfl rfl ?_
  refine z_iconst (v := iI 0) C dX5_addModel_2 rfl ?_
  refine z_bipush (v := iI 9) C dX5_addModel_3 (by decide) ?_
  refine z_callS (n := 3) (As := [.int (iI au0), .int (iI 0), .int (iI 9)]) (st := [.ref r]) (fr := [(r, .inr (5, [.ref e1, .int (iI (↑n)), .ref e2, .ref e3, .ref e4, .ref e5, .ref e6, .ref e7, .ref e8, .int (iI L), .int d, .ref e9, .ref e10, .ref e11, .ref e12, .ref e13, .int (iI sz), .int (iI mo), .ref e14, .int (iI th)])), (e1, ar cI 8 ND), (e2, ai cI 8 AU), (e3, ai cI 8 LE), (e4, ai cI 8 SN), (e5, ar cI 8 US), (e6, ai cI 80 KK), (e7, ai cI 80 AT), (e8, ai cI 80 LF), (e9, ar cI 6 KN), (e10, ai cI 32 PL), (e11, ai cI 32 HE), (e12, ai cI 32 TU), (e13, ai cI 32 MA), (e14, ai cI 201 CU)]) C hE (k_rin l D cI cZ cM cL au0 0 9 ha0 ⟨by omega, by omega⟩ ⟨by omega, by omega⟩) gX5_addModel_X5_in rfl ⟨rfl, rfl⟩ (by decide +kernel) ⟨Nat.le_of_ble_eq_true rfl, Nat.le_of_ble_eq_true rfl⟩ rfl rfl (List.Perm.refl _) (Nat.le_of_ble_eq_true rfl) ⟨Nat.le_of_ble_eq_true rfl, Nat.le_of_ble_eq_true rfl⟩ dX5_addModel_5 (fun r w1 hpo => ?_)
  obtain ⟨rfl, rfl⟩ := hpo
  have hb9 := b2r (0 ≤ au0 ∧ au0 ≤ 9)
  refine (show zG E Q (0) (0) [(r, .inr (5, [.ref e1, .int (iI (↑n)), .ref e2, .ref e3, .ref e4, .ref e5, .ref e6, .ref e7, .ref e8, .int (iI L), .int d, .ref e9, .ref e10, .ref e11, .ref e12, .ref e13, .int (iI sz), .int (iI mo), .ref e14, .int (iI th)])), (e1, ar cI 8 ND), (e2, ai cI 8 AU), (e3, ai cI 8 LE), (e4, ai cI 8 SN), (e5, ar cI 8 US), (e6, ai cI 80 KK), (e7, ai cI 80 AT), (e8, ai cI 80 LF), (e9, ar cI 6 KN), (e10, ai cI 32 PL), (e11, ai cI 32 HE), (e12, ai cI 32 TU), (e13, ai cI 32 MA), (e14, ai cI 201 CU)] [some (.ref r), some (.int (iI au0)), some (.int (iI l0))] 8 [.int (iI (b2 (0 ≤ au0 ∧ au0 ≤ 9))), .ref r] from ?_)
  refine z_if_neI (tgt := 15) C dX5_addModel_8 (by decide) ⟨by omega, by omega⟩ (fun h1 => ?_) (fun h1 => ?_)
  · refine z_iload_n (i := 2) C dX5_addModel_15 rfl rfl ?_
    refine z_iconst (v := iI 2) C dX5_addModel_16 rfl ?_
    refine z_bipush (v := iI 32) C dX5_addModel_17 (by decide) ?_
    refine z_callS (n := 3) (As := [.int (iI l0), .int (iI 2), .int (iI 32)]) (st := [.ref r]) (fr := [(r, .inr (5, [.ref e1, .int (iI (↑n)), .ref e2, .ref e3, .ref e4, .ref e5, .ref e6, .ref e7, .ref e8, .int (iI L), .int d, .ref e9, .ref e10, .ref e11, .ref e12, .ref e13, .int (iI sz), .int (iI mo), .ref e14, .int (iI th)])), (e1, ar cI 8 ND), (e2, ai cI 8 AU), (e3, ai cI 8 LE), (e4, ai cI 8 SN), (e5, ar cI 8 US), (e6, ai cI 80 KK), (e7, ai cI 80 AT), (e8, ai cI 80 LF), (e9, ar cI 6 KN), (e10, ai cI 32 PL), (e11, ai cI 32 HE), (e12, ai cI 32 TU), (e13, ai cI 32 MA), (e14, ai cI 201 CU)]) C hE (k_rin l D cI cZ cM cL l0 2 32 hl0 ⟨by omega, by omega⟩ ⟨by omega, by omega⟩) gX5_addModel_X5_in rfl ⟨rfl, rfl⟩ (by decide +kernel) ⟨Nat.le_of_ble_eq_true rfl, Nat.le_of_ble_eq_true rfl⟩ rfl rfl (List.Perm.refl _) (Nat.le_of_ble_eq_true rfl) ⟨Nat.le_of_ble_eq_true rfl, Nat.le_of_ble_eq_true rfl⟩ dX5_addModel_19 (fun r w1 hpo => ?_)
    obtain ⟨rfl, rfl⟩ := hpo
    have hb8 := b2r (2 ≤ l0 ∧ l0 ≤ 32)
    refine (show zG E Q (0) (0) [(r, .inr (5, [.ref e1, .int (iI (↑n)), .ref e2, .ref e3, .ref e4, .ref e5, .ref e6, .ref e7, .ref e8, .int (iI L), .int d, .ref e9, .ref e10, .ref e11, .ref e12, .ref e13, .int (iI sz), .int (iI mo), .ref e14, .int (iI th)])), (e1, ar cI 8 ND), (e2, ai cI 8 AU), (e3, ai cI 8 LE), (e4, ai cI 8 SN), (e5, ar cI 8 US), (e6, ai cI 80 KK), (e7, ai cI 80 AT), (e8, ai cI 80 LF), (e9, ar cI 6 KN), (e10, ai cI 32 PL), (e11, ai cI 32 HE), (e12, ai cI 32 TU), (e13, ai cI 32 MA), (e14, ai cI 201 CU)] [some (.ref r), some (.int (iI au0)), some (.int (iI l0))] 22 [.int (iI (b2 (2 ≤ l0 ∧ l0 ≤ 32))), .ref r] from ?_)
    refine z_if_neI (tgt := 29) C dX5_addModel_22 (by decide) ⟨by omega, by omega⟩ (fun h2 => ?_) (fun h2 => ?_)
    · refine z_aload_n (i := 0) C dX5_addModel_29 rfl rfl ?_
      refine z_get (ci := 5) C (hi_X5_addModel_X5) 0 rfl rfl 1 (by decide) (by decide +kernel) rfl dX5_addModel_30 ?_
      refine z_bipush (v := iI 8) C dX5_addModel_33 (by decide) ?_
      refine z_icmp_neI (tgt := 42) C dX5_addModel_35 (by decide) ⟨by omega, by omega⟩ ⟨by omega, by omega⟩ (fun h3 => ?_) (fun h3 => ?_)
      · refine z_iconst (v := iI 0) C dX5_addModel_42 rfl ?_
        refine z_put (ci := 5) (ws' := [(r, .inr (5, [.ref e1, .int (iI (↑n)), .ref e2, .ref e3, .ref e4, .ref e5, .ref e6, .ref e7, .ref e8, .int (iI L), .int d, .ref e9, .ref e10, .ref e11, .ref e12, .ref e13, .int (iI sz), .int (iI mo), .ref e14, .int (iI 0)])), (e1, ar cI 8 ND), (e2, ai cI 8 AU), (e3, ai cI 8 LE), (e4, ai cI 8 SN), (e5, ar cI 8 US), (e6, ai cI 80 KK), (e7, ai cI 80 AT), (e8, ai cI 80 LF), (e9, ar cI 6 KN), (e10, ai cI 32 PL), (e11, ai cI 32 HE), (e12, ai cI 32 TU), (e13, ai cI 32 MA), (e14, ai cI 201 CU)]) C (hi_X5_addModel_X5) tyX5_ok nmX5 0 rfl rfl 19 (by decide) (by decide +kernel) rfl (tyX5_ok 19 (by decide)) rfl rfl (Nat.le_of_ble_eq_true rfl) rfl dX5_addModel_43 ?_
        refine z_aload_n (i := 0) C dX5_addModel_46 rfl rfl ?_
        refine z_get (ci := 5) C (hi_X5_addModel_X5) 0 rfl rfl 19 (by decide) (by decide +kernel) rfl dX5_addModel_47 ?_
        refine z_if_leI (tgt := 55) C dX5_addModel_50 (by decide) ⟨by omega, by omega⟩ (fun _ => ?_) (fun h => by exfalso; omega)
        refine z_aload_n (i := 0) C dX5_addModel_55 rfl rfl ?_
        refine z_get (ci := 5) C (hi_X5_addModel_X5) 0 rfl rfl 2 (by decide) (by decide +kernel) rfl dX5_addModel_56 ?_
        refine z_aload_n (i := 0) C dX5_addModel_59 rfl rfl ?_
        refine z_get (ci := 5) C (hi_X5_addModel_X5) 0 rfl rfl 1 (by decide) (by decide +kernel) rfl dX5_addModel_60 ?_
        refine z_iload_n (i := 1) C dX5_addModel_63 rfl rfl ?_
        refine z_iastoreI 2 (he := rfl) (ws' := [(r, .inr (5, [.ref e1, .int (iI (↑n)), .ref e2, .ref e3, .ref e4, .ref e5, .ref e6, .ref e7, .ref e8, .int (iI L), .int d, .ref e9, .ref e10, .ref e11, .ref e12, .ref e13, .int (iI sz), .int (iI mo), .ref e14, .int (iI 0)])), (e1, ar cI 8 ND), (e2, ai cI 8 (zup AU (↑n) au0)), (e3, ai cI 8 LE), (e4, ai cI 8 SN), (e5, ar cI 8 US), (e6, ai cI 80 KK), (e7, ai cI 80 AT), (e8, ai cI 80 LF), (e9, ar cI 6 KN), (e10, ai cI 32 PL), (e11, ai cI 32 HE), (e12, ai cI 32 TU), (e13, ai cI 32 MA), (e14, ai cI 201 CU)]) C (zT_of hE (t0 := 0) rfl) (by omega) (by omega) (by decide) rfl dX5_addModel_64 ?_
        refine z_aload_n (i := 0) C dX5_addModel_65 rfl rfl ?_
        refine z_get (ci := 5) C (hi_X5_addModel_X5) 0 rfl rfl 3 (by decide) (by decide +kernel) rfl dX5_addModel_66 ?_
        refine z_aload_n (i := 0) C dX5_addModel_69 rfl rfl ?_
        refine z_get (ci := 5) C (hi_X5_addModel_X5) 0 rfl rfl 1 (by decide) (by decide +kernel) rfl dX5_addModel_70 ?_
        refine z_iload_n (i := 2) C dX5_addModel_73 rfl rfl ?_
        refine z_iastoreI 3 (he := rfl) (ws' := [(r, .inr (5, [.ref e1, .int (iI (↑n)), .ref e2, .ref e3, .ref e4, .ref e5, .ref e6, .ref e7, .ref e8, .int (iI L), .int d, .ref e9, .ref e10, .ref e11, .ref e12, .ref e13, .int (iI sz), .int (iI mo), .ref e14, .int (iI 0)])), (e1, ar cI 8 ND), (e2, ai cI 8 (zup AU (↑n) au0)), (e3, ai cI 8 (zup LE (↑n) l0)), (e4, ai cI 8 SN), (e5, ar cI 8 US), (e6, ai cI 80 KK), (e7, ai cI 80 AT), (e8, ai cI 80 LF), (e9, ar cI 6 KN), (e10, ai cI 32 PL), (e11, ai cI 32 HE), (e12, ai cI 32 TU), (e13, ai cI 32 MA), (e14, ai cI 201 CU)]) C (zT_of hE (t0 := 0) rfl) (by omega) (by omega) (by decide) rfl dX5_addModel_74 ?_
        refine z_aload_n (i := 0) C dX5_addModel_75 rfl rfl ?_
        refine z_dup C dX5_addModel_76 rfl ?_
        refine z_get (ci := 5) C (hi_X5_addModel_X5) 0 rfl rfl 1 (by decide) (by decide +kernel) rfl dX5_addModel_77 ?_
        refine z_iconst (v := iI 1) C dX5_addModel_80 rfl ?_
        refine z_iaddI (v := (↑n) + 1) C dX5_addModel_81 (by omega) ?_
        refine z_top (y := iI ↑(n + 1)) (rfl) ?_
        refine z_put (ci := 5) (ws' := [(r, .inr (5, [.ref e1, .int (iI ↑(n + 1)), .ref e2, .ref e3, .ref e4, .ref e5, .ref e6, .ref e7, .ref e8, .int (iI L), .int d, .ref e9, .ref e10, .ref e11, .ref e12, .ref e13, .int (iI sz), .int (iI mo), .ref e14, .int (iI 0)])), (e1, ar cI 8 ND), (e2, ai cI 8 (zup AU (↑n) au0)), (e3, ai cI 8 (zup LE (↑n) l0)), (e4, ai cI 8 SN), (e5, ar cI 8 US), (e6, ai cI 80 KK), (e7, ai cI 80 AT), (e8, ai cI 80 LF), (e9, ar cI 6 KN), (e10, ai cI 32 PL), (e11, ai cI 32 HE), (e12, ai cI 32 TU), (e13, ai cI 32 MA), (e14, ai cI 201 CU)]) C (hi_X5_addModel_X5) tyX5_ok nmX5 0 rfl rfl 1 (by decide) (by decide +kernel) rfl (tyX5_ok 1 (by decide)) rfl rfl (Nat.le_of_ble_eq_true rfl) rfl dX5_addModel_82 ?_
        refine z_aload_n (i := 0) C dX5_addModel_85 rfl rfl ?_
        refine z_get (ci := 5) C (hi_X5_addModel_X5) 0 rfl rfl 1 (by decide) (by decide +kernel) rfl dX5_addModel_86 ?_
        refine z_iconst (v := iI 1) C dX5_addModel_89 rfl ?_
        refine z_isubI (v := (↑(n + 1)) - 1) C dX5_addModel_90 (by omega) ?_
        refine z_top (y := iI ↑n) (by rw [show (↑(n + 1) : Int) - 1 = ↑n by omega]) ?_
        have hc : cAM n au0 l0 = 0 := by unfold cAM; rw [if_neg (by have := b21 h1; omega), if_neg (by have := b21 h2; omega), if_neg (by omega)]
        exact z_iret C hR dX5_addModel_91 (Nat.le_of_ble_eq_true rfl) (Nat.le_of_ble_eq_true rfl) (Or.inl ⟨hc, rfl, sz, mo, PL, HE, TU, MA, CU, rfl⟩)
      · refine z_iconst (v := iI 3) C dX5_addModel_38 rfl ?_
        refine z_goto (tgt := 43) C dX5_addModel_39 (by decide) ?_
        refine z_put (ci := 5) (ws' := [(r, .inr (5, [.ref e1, .int (iI (↑n)), .ref e2, .ref e3, .ref e4, .ref e5, .ref e6, .ref e7, .ref e8, .int (iI L), .int d, .ref e9, .ref e10, .ref e11, .ref e12, .ref e13, .int (iI sz), .int (iI mo), .ref e14, .int (iI 3)])), (e1, ar cI 8 ND), (e2, ai cI 8 AU), (e3, ai cI 8 LE), (e4, ai cI 8 SN), (e5, ar cI 8 US), (e6, ai cI 80 KK), (e7, ai cI 80 AT), (e8, ai cI 80 LF), (e9, ar cI 6 KN), (e10, ai cI 32 PL), (e11, ai cI 32 HE), (e12, ai cI 32 TU), (e13, ai cI 32 MA), (e14, ai cI 201 CU)]) C (hi_X5_addModel_X5) tyX5_ok nmX5 0 rfl rfl 19 (by decide) (by decide +kernel) rfl (tyX5_ok 19 (by decide)) rfl rfl (Nat.le_of_ble_eq_true rfl) rfl dX5_addModel_43 ?_
        refine z_aload_n (i := 0) C dX5_addModel_46 rfl rfl ?_
        refine z_get (ci := 5) C (hi_X5_addModel_X5) 0 rfl rfl 19 (by decide) (by decide +kernel) rfl dX5_addModel_47 ?_
        refine z_if_leI (tgt := 55) C dX5_addModel_50 (by decide) ⟨by omega, by omega⟩ (fun h => by exfalso; omega) (fun _ => ?_)
        refine z_iconst (v := iI 0) C dX5_addModel_53 rfl ?_
        have hc : cAM n au0 l0 = 3 := by unfold cAM; rw [if_neg (by have := b21 h1; omega), if_neg (by have := b21 h2; omega), if_pos (by omega)]
        exact z_iret C hR dX5_addModel_54 (Nat.le_of_ble_eq_true rfl) (Nat.le_of_ble_eq_true rfl) (Or.inr ⟨by omega, rfl, sz, mo, PL, HE, TU, MA, CU, by rw [hc]⟩)
    · refine z_iconst (v := iI 2) C dX5_addModel_25 rfl ?_
      refine z_goto (tgt := 43) C dX5_addModel_26 (by decide) ?_
      refine z_put (ci := 5) (ws' := [(r, .inr (5, [.ref e1, .int (iI (↑n)), .ref e2, .ref e3, .ref e4, .ref e5, .ref e6, .ref e7, .ref e8, .int (iI L), .int d, .ref e9, .ref e10, .ref e11, .ref e12, .ref e13, .int (iI sz), .int (iI mo), .ref e14, .int (iI 2)])), (e1, ar cI 8 ND), (e2, ai cI 8 AU), (e3, ai cI 8 LE), (e4, ai cI 8 SN), (e5, ar cI 8 US), (e6, ai cI 80 KK), (e7, ai cI 80 AT), (e8, ai cI 80 LF), (e9, ar cI 6 KN), (e10, ai cI 32 PL), (e11, ai cI 32 HE), (e12, ai cI 32 TU), (e13, ai cI 32 MA), (e14, ai cI 201 CU)]) C (hi_X5_addModel_X5) tyX5_ok nmX5 0 rfl rfl 19 (by decide) (by decide +kernel) rfl (tyX5_ok 19 (by decide)) rfl rfl (Nat.le_of_ble_eq_true rfl) rfl dX5_addModel_43 ?_
      refine z_aload_n (i := 0) C dX5_addModel_46 rfl rfl ?_
      refine z_get (ci := 5) C (hi_X5_addModel_X5) 0 rfl rfl 19 (by decide) (by decide +kernel) rfl dX5_addModel_47 ?_
      refine z_if_leI (tgt := 55) C dX5_addModel_50 (by decide) ⟨by omega, by omega⟩ (fun h => by exfalso; omega) (fun _ => ?_)
      refine z_iconst (v := iI 0) C dX5_addModel_53 rfl ?_
      have hc : cAM n au0 l0 = 2 := by unfold cAM; rw [if_neg (by have := b21 h1; omega), if_pos (by have := b20 h2; omega)]
      exact z_iret C hR dX5_addModel_54 (Nat.le_of_ble_eq_true rfl) (Nat.le_of_ble_eq_true rfl) (Or.inr ⟨by omega, rfl, sz, mo, PL, HE, TU, MA, CU, by rw [hc]⟩)
  · refine z_iconst (v := iI 1) C dX5_addModel_11 rfl ?_
    refine z_goto (tgt := 43) C dX5_addModel_12 (by decide) ?_
    refine z_put (ci := 5) (ws' := [(r, .inr (5, [.ref e1, .int (iI (↑n)), .ref e2, .ref e3, .ref e4, .ref e5, .ref e6, .ref e7, .ref e8, .int (iI L), .int d, .ref e9, .ref e10, .ref e11, .ref e12, .ref e13, .int (iI sz), .int (iI mo), .ref e14, .int (iI 1)])), (e1, ar cI 8 ND), (e2, ai cI 8 AU), (e3, ai cI 8 LE), (e4, ai cI 8 SN), (e5, ar cI 8 US), (e6, ai cI 80 KK), (e7, ai cI 80 AT), (e8, ai cI 80 LF), (e9, ar cI 6 KN), (e10, ai cI 32 PL), (e11, ai cI 32 HE), (e12, ai cI 32 TU), (e13, ai cI 32 MA), (e14, ai cI 201 CU)]) C (hi_X5_addModel_X5) tyX5_ok nmX5 0 rfl rfl 19 (by decide) (by decide +kernel) rfl (tyX5_ok 19 (by decide)) rfl rfl (Nat.le_of_ble_eq_true rfl) rfl dX5_addModel_43 ?_
    refine z_aload_n (i := 0) C dX5_addModel_46 rfl rfl ?_
    refine z_get (ci := 5) C (hi_X5_addModel_X5) 0 rfl rfl 19 (by decide) (by decide +kernel) rfl dX5_addModel_47 ?_
    refine z_if_leI (tgt := 55) C dX5_addModel_50 (by decide) ⟨by omega, by omega⟩ (fun h => by exfalso; omega) (fun _ => ?_)
    refine z_iconst (v := iI 0) C dX5_addModel_53 rfl ?_
    have hc : cAM n au0 l0 = 1 := by unfold cAM; rw [if_pos (by have := b20 h1; omega)]
    exact z_iret C hR dX5_addModel_54 (Nat.le_of_ble_eq_true rfl) (Nat.le_of_ble_eq_true rfl) (Or.inr ⟨by omega, rfl, sz, mo, PL, HE, TU, MA, CU, by rw [hc]⟩)
theorem hi_X5_fold_X5 : ∀ w ∈ wsX50, w ∈ wsX5_fold := by decide +kernel
set_option maxHeartbeats 1000000 in
set_option maxRecDepth 100000 in
theorem k_rfold (l : Launch) (D : va_G) (cI cZ cM cL : ClassId) (r e1 e2 e3 e4 e5 e6 e7 e8 e9 e10 e11 e12 e13 e14 : Nat) (n : Nat) (L : Int) (d : Int32) (sz mo th : Int) (ND US KN : Int → Int32) (AU LE SN KK AT LF PL HE TU MA CU : Int → Int) (hg : rO n L US LE SN AT LF) (i0 k0 p0 f0 : Int) (hi0 : iR i0) (hk0 : iR k0) (hp0 : iR p0) (hf0 : f0 = 0 ∨ f0 = 1) : zN l yX5_fold wsX5_fold { frames := 3, cells := 0, slots := 0, locals := 74 } D (zTy cI cZ cM cL) [.ref r, .int (iI i0), .int (iI k0), .int (iI p0), .int (iI f0)] (rfW cI r e1 e2 e3 e4 e5 e6 e7 e8 e9 e10 e11 e12 e13 e14 n L d sz mo th ND US KN AU LE SN KK AT LF PL HE TU MA CU) (fun r9 w => ((cFO n ND (rv AU LE SN KK AT LF i0) i0 k0 p0) = 0 ∧ r9 = some (.int (iI (max p0 (mgS (rv AU LE SN KK AT LF i0) - p0)))) ∧ (rQ cI r e1 e2 e3 e4 e5 e6 e7 e8 e9 e10 e11 e12 e13 e14 n L d 0 ND US KN AU LE (zup SN i0 (SN i0 + 1)) (zup KK (10 * i0 + SN i0) k0) (zup AT (10 * i0 + SN i0) p0) (zup LF (10 * i0 + SN i0) f0) w)) ∨ (¬ (cFO n ND (rv AU LE SN KK AT LF i0) i0 k0 p0) = 0 ∧ r9 = some (.int (iI 0)) ∧ (rQ cI r e1 e2 e3 e4 e5 e6 e7 e8 e9 e10 e11 e12 e13 e14 n L d (cFO n ND (rv AU LE SN KK AT LF i0) i0 k0 p0) ND US KN AU LE SN KK AT LF w))) 0 0 := by
  refine zN_of (cc := cX5_fold) (maxL := 6) (lv0 := [some (.ref r), some (.int (iI i0)), some (.int (iI k0)), some (.int (iI p0)), some (.int (iI f0)), none]) (by decide) rfl rfl (Nat.le_of_ble_eq_true rfl) rfl ?_
  intro E Q C hE hR hI0
  obtain ⟨hn, hz, hL, hm⟩ := hg
  have hS8 : mgS (rv AU LE SN KK AT LF i0) = gS (LE i0) (row AT i0) (SN i0).toNat := rfl
  have hN8 : msn (rv AU LE SN KK AT LF i0) = SN i0 := rfl
  have hO8 : mok (rv AU LE SN KK AT LF i0) = okb (row KK i0) (SN i0).toNat := rfl
  refine (show zG E Q 0 0 [(r, .inr (5, [.ref e1, .int (iI (↑n)), .ref e2, .ref e3, .ref e4, .ref e5, .ref e6, .ref e7, .ref e8, .int (iI L), .int d, .ref e9, .ref e10, .ref e11, .ref e12, .ref e13, .int (iI sz), .int (iI mo), .ref e14, .int (iI th)])), (e1, ar cI 8 ND), (e2, ai cI 8 AU), (e3, ai cI 8 LE), (e4, ai cI 8 SN), (e5, ar cI 8 US), (e6, ai cI 80 KK), (e7, ai cI 80 AT), (e8, ai cI 80 LF), (e9, ar cI 6 KN), (e10, ai cI 32 PL), (e11, ai cI 32 HE), (e12, ai cI 32 TU), (e13, ai cI 32 MA), (e14, ai cI 201 CU)] [some (.ref r), some (.int (iI i0)), some (.int (iI k0)), some (.int (iI p0)), some (.int (iI f0)), none] 0 [] from ?_)
  refine z_aload_n (i := 0) C dX5_fold_0 rfl rfl ?_
  refine z_iload_n (i := 1) C dX5_fold_1 rfl rfl ?_
  refine z_iconst (v := iI 0) C dX5_fold_2 rfl ?_
  refine z_aload_n (i := 0) C dX5_fold_3 rfl rfl ?_
  refine z_get (ci := 5) C (hi_X5_fold_X5) 0 rfl rfl 1 (by decide) (by decide +kernel) rfl dX5_fold_4 ?_
  refine z_iconst (v := iI 1) C dX5_fold_7 rfl ?_
  refine z_isubI (v := (↑n) - 1) C dX5_fold_8 (by omega) ?_
  refine z_callS (n := 3) (As := [.int (iI i0), .int (iI 0), .int (iI ((↑n) - 1))]) (st := [.ref r]) (fr := [(r, .inr (5, [.ref e1, .int (iI (↑n)), .ref e2, .ref e3, .ref e4, .ref e5, .ref e6, .ref e7, .ref e8, .int (iI L), .int d, .ref e9, .ref e10, .ref e11, .ref e12, .ref e13, .int (iI sz), .int (iI mo), .ref e14, .int (iI th)])), (e1, ar cI 8 ND), (e2, ai cI 8 AU), (e3, ai cI 8 LE), (e4, ai cI 8 SN), (e5, ar cI 8 US), (e6, ai cI 80 KK), (e7, ai cI 80 AT), (e8, ai cI 80 LF), (e9, ar cI 6 KN), (e10, ai cI 32 PL), (e11, ai cI 32 HE), (e12, ai cI 32 TU), (e13, ai cI 32 MA), (e14, ai cI 201 CU)]) C hE (k_rin l D cI cZ cM cL i0 0 (↑n - 1) hi0 ⟨by omega, by omega⟩ ⟨by omega, by omega⟩) gX5_fold_X5_in rfl ⟨rfl, rfl⟩ (by decide +kernel) ⟨Nat.le_of_ble_eq_true rfl, Nat.le_of_ble_eq_true rfl⟩ rfl rfl (List.Perm.refl _) (Nat.le_of_ble_eq_true rfl) ⟨Nat.le_of_ble_eq_true rfl, Nat.le_of_ble_eq_true rfl⟩ dX5_fold_9 (fun r w1 hpo => ?_)
  obtain ⟨rfl, rfl⟩ := hpo
  have hb9 := b2r (0 ≤ i0 ∧ i0 ≤ ↑n - 1)
  refine (show zG E Q (0) (0) [(r, .inr (5, [.ref e1, .int (iI (↑n)), .ref e2, .ref e3, .ref e4, .ref e5, .ref e6, .ref e7, .ref e8, .int (iI L), .int d, .ref e9, .ref e10, .ref e11, .ref e12, .ref e13, .int (iI sz), .int (iI mo), .ref e14, .int (iI th)])), (e1, ar cI 8 ND), (e2, ai cI 8 AU), (e3, ai cI 8 LE), (e4, ai cI 8 SN), (e5, ar cI 8 US), (e6, ai cI 80 KK), (e7, ai cI 80 AT), (e8, ai cI 80 LF), (e9, ar cI 6 KN), (e10, ai cI 32 PL), (e11, ai cI 32 HE), (e12, ai cI 32 TU), (e13, ai cI 32 MA), (e14, ai cI 201 CU)] [some (.ref r), some (.int (iI i0)), some (.int (iI k0)), some (.int (iI p0)), some (.int (iI f0)), none] 12 [.int (iI (b2 (0 ≤ i0 ∧ i0 ≤ ↑n - 1))), .ref r] from ?_)
  refine z_if_eqI (tgt := 25) C dX5_fold_12 (by decide) ⟨by omega, by omega⟩ (fun h1 => ?_) (fun h1 => ?_)
  · refine z_iconst (v := iI 1) C dX5_fold_25 rfl ?_
    refine z_goto (tgt := 30) C dX5_fold_26 (by decide) ?_
    refine z_put (ci := 5) (ws' := [(r, .inr (5, [.ref e1, .int (iI (↑n)), .ref e2, .ref e3, .ref e4, .ref e5, .ref e6, .ref e7, .ref e8, .int (iI L), .int d, .ref e9, .ref e10, .ref e11, .ref e12, .ref e13, .int (iI sz), .int (iI mo), .ref e14, .int (iI 1)])), (e1, ar cI 8 ND), (e2, ai cI 8 AU), (e3, ai cI 8 LE), (e4, ai cI 8 SN), (e5, ar cI 8 US), (e6, ai cI 80 KK), (e7, ai cI 80 AT), (e8, ai cI 80 LF), (e9, ar cI 6 KN), (e10, ai cI 32 PL), (e11, ai cI 32 HE), (e12, ai cI 32 TU), (e13, ai cI 32 MA), (e14, ai cI 201 CU)]) C (hi_X5_fold_X5) tyX5_ok nmX5 0 rfl rfl 19 (by decide) (by decide +kernel) rfl (tyX5_ok 19 (by decide)) rfl rfl (Nat.le_of_ble_eq_true rfl) rfl dX5_fold_30 ?_
    refine z_aload_n (i := 0) C dX5_fold_33 rfl rfl ?_
    refine z_get (ci := 5) C (hi_X5_fold_X5) 0 rfl rfl 19 (by decide) (by decide +kernel) rfl dX5_fold_34 ?_
    refine z_if_leI (tgt := 42) C dX5_fold_37 (by decide) ⟨by omega, by omega⟩ (fun h => by exfalso; omega) (fun _ => ?_)
    refine z_iconst (v := iI 0) C dX5_fold_40 rfl ?_
    have hc : cFO n ND (rv AU LE SN KK AT LF i0) i0 k0 p0 = 1 := by unfold cFO; rw [if_pos (by first | (have := b20 h1; omega) | (have := b20 h2; omega))]
    exact z_iret C hR dX5_fold_41 (Nat.le_of_ble_eq_true rfl) (Nat.le_of_ble_eq_true rfl) (Or.inr ⟨by omega, rfl, sz, mo, PL, HE, TU, MA, CU, by rw [hc]⟩)
  · refine z_iload_n (i := 2) C dX5_fold_15 rfl rfl ?_
    refine z_iconst (v := iI 0) C dX5_fold_16 rfl ?_
    refine z_bipush (v := iI 7) C dX5_fold_17 (by decide) ?_
    refine z_callS (n := 3) (As := [.int (iI k0), .int (iI 0), .int (iI 7)]) (st := [.ref r]) (fr := [(r, .inr (5, [.ref e1, .int (iI (↑n)), .ref e2, .ref e3, .ref e4, .ref e5, .ref e6, .ref e7, .ref e8, .int (iI L), .int d, .ref e9, .ref e10, .ref e11, .ref e12, .ref e13, .int (iI sz), .int (iI mo), .ref e14, .int (iI th)])), (e1, ar cI 8 ND), (e2, ai cI 8 AU), (e3, ai cI 8 LE), (e4, ai cI 8 SN), (e5, ar cI 8 US), (e6, ai cI 80 KK), (e7, ai cI 80 AT), (e8, ai cI 80 LF), (e9, ar cI 6 KN), (e10, ai cI 32 PL), (e11, ai cI 32 HE), (e12, ai cI 32 TU), (e13, ai cI 32 MA), (e14, ai cI 201 CU)]) C hE (k_rin l D cI cZ cM cL k0 0 7 hk0 ⟨by omega, by omega⟩ ⟨by omega, by omega⟩) gX5_fold_X5_in rfl ⟨rfl, rfl⟩ (by decide +kernel) ⟨Nat.le_of_ble_eq_true rfl, Nat.le_of_ble_eq_true rfl⟩ rfl rfl (List.Perm.refl _) (Nat.le_of_ble_eq_true rfl) ⟨Nat.le_of_ble_eq_true rfl, Nat.le_of_ble_eq_true rfl⟩ dX5_fold_19 (fun r w1 hpo => ?_)
    obtain ⟨rfl, rfl⟩ := hpo
    have hb8 := b2r (0 ≤ k0 ∧ k0 ≤ 7)
    refine (show zG E Q (0) (0) [(r, .inr (5, [.ref e1, .int (iI (↑n)), .ref e2, .ref e3, .ref e4, .ref e5, .ref e6, .ref e7, .ref e8, .int (iI L), .int d, .ref e9, .ref e10, .ref e11, .ref e12, .ref e13, .int (iI sz), .int (iI mo), .ref e14, .int (iI th)])), (e1, ar cI 8 ND), (e2, ai cI 8 AU), (e3, ai cI 8 LE), (e4, ai cI 8 SN), (e5, ar cI 8 US), (e6, ai cI 80 KK), (e7, ai cI 80 AT), (e8, ai cI 80 LF), (e9, ar cI 6 KN), (e10, ai cI 32 PL), (e11, ai cI 32 HE), (e12, ai cI 32 TU), (e13, ai cI 32 MA), (e14, ai cI 201 CU)] [some (.ref r), some (.int (iI i0)), some (.int (iI k0)), some (.int (iI p0)), some (.int (iI f0)), none] 22 [.int (iI (b2 (0 ≤ k0 ∧ k0 ≤ 7))), .ref r] from ?_)
    refine z_if_neI (tgt := 29) C dX5_fold_22 (by decide) ⟨by omega, by omega⟩ (fun h2 => ?_) (fun h2 => ?_)
    · refine z_iconst (v := iI 0) C dX5_fold_29 rfl ?_
      refine z_put (ci := 5) (ws' := [(r, .inr (5, [.ref e1, .int (iI (↑n)), .ref e2, .ref e3, .ref e4, .ref e5, .ref e6, .ref e7, .ref e8, .int (iI L), .int d, .ref e9, .ref e10, .ref e11, .ref e12, .ref e13, .int (iI sz), .int (iI mo), .ref e14, .int (iI 0)])), (e1, ar cI 8 ND), (e2, ai cI 8 AU), (e3, ai cI 8 LE), (e4, ai cI 8 SN), (e5, ar cI 8 US), (e6, ai cI 80 KK), (e7, ai cI 80 AT), (e8, ai cI 80 LF), (e9, ar cI 6 KN), (e10, ai cI 32 PL), (e11, ai cI 32 HE), (e12, ai cI 32 TU), (e13, ai cI 32 MA), (e14, ai cI 201 CU)]) C (hi_X5_fold_X5) tyX5_ok nmX5 0 rfl rfl 19 (by decide) (by decide +kernel) rfl (tyX5_ok 19 (by decide)) rfl rfl (Nat.le_of_ble_eq_true rfl) rfl dX5_fold_30 ?_
      refine z_aload_n (i := 0) C dX5_fold_33 rfl rfl ?_
      refine z_get (ci := 5) C (hi_X5_fold_X5) 0 rfl rfl 19 (by decide) (by decide +kernel) rfl dX5_fold_34 ?_
      refine z_if_leI (tgt := 42) C dX5_fold_37 (by decide) ⟨by omega, by omega⟩ (fun _ => ?_) (fun h => by exfalso; omega)
      have hx9 := b21 h1
      have hy9 := b21 h2
      obtain ⟨hl9, hs9, ht9⟩ := hm i0 (by omega) (by omega)
      refine z_aload_n (i := 0) C dX5_fold_42 rfl rfl ?_
      refine z_iload_n (i := 1) C dX5_fold_43 rfl rfl ?_
      refine z_callV (n := 1) (As := [.int (iI i0)]) (st := []) (fr := []) C hE (k_rfolds l D cI cZ cM cL r e1 e2 e3 e4 e5 e6 e7 e8 e9 e10 e11 e12 e13 e14 n L d sz mo 0 ND US KN AU LE SN KK AT LF PL HE TU MA CU i0 ⟨by omega, by omega⟩ hl9 hs9 ht9) gX5_fold_X5_folds rfl ⟨rfl, rfl⟩ (by decide +kernel) ⟨Nat.le_of_ble_eq_true rfl, Nat.le_of_ble_eq_true rfl⟩ rfl rfl (by rw [List.append_nil]) 0 rfl rfl rfl (Nat.le_of_ble_eq_true rfl) ⟨Nat.le_of_ble_eq_true rfl, Nat.le_of_ble_eq_true rfl⟩ dX5_fold_44 (fun r w1 hpo => ?_)
      obtain ⟨rfl, P1, H1, T1, M1, rfl, hA9, hM9⟩ := hpo
      have hS9 := stV_gS ht9 (by omega) (SN i0).toNat (by omega)
      rw [List.append_nil]
      refine (show zG E Q (0) (0) [(r, .inr (5, [.ref e1, .int (iI (↑n)), .ref e2, .ref e3, .ref e4, .ref e5, .ref e6, .ref e7, .ref e8, .int (iI L), .int d, .ref e9, .ref e10, .ref e11, .ref e12, .ref e13, .int (iI (gS (LE i0) (row AT i0) (SN i0).toNat)), .int (iI (mst (LE i0) (row AT i0) (row LF i0) (SN i0).toNat)), .ref e14, .int (iI 0)])), (e1, ar cI 8 ND), (e2, ai cI 8 AU), (e3, ai cI 8 LE), (e4, ai cI 8 SN), (e5, ar cI 8 US), (e6, ai cI 80 KK), (e7, ai cI 80 AT), (e8, ai cI 80 LF), (e9, ar cI 6 KN), (e10, ai cI 32 P1), (e11, ai cI 32 H1), (e12, ai cI 32 T1), (e13, ai cI 32 M1), (e14, ai cI 201 CU)] [some (.ref r), some (.int (iI i0)), some (.int (iI k0)), some (.int (iI p0)), some (.int (iI f0)), none] 47 [] from ?_)
      refine z_iload_n (i := 3) C dX5_fold_47 rfl rfl ?_
      refine z_iconst (v := iI 1) C dX5_fold_48 rfl ?_
      refine z_aload_n (i := 0) C dX5_fold_49 rfl rfl ?_
      refine z_get (ci := 5) C (hi_X5_fold_X5) 0 rfl rfl 16 (by decide) (by decide +kernel) rfl dX5_fold_50 ?_
      refine z_iconst (v := iI 1) C dX5_fold_53 rfl ?_
      refine z_isubI (v := (gS (LE i0) (row AT i0) (SN i0).toNat) - 1) C dX5_fold_54 (by omega) ?_
      refine z_callS (n := 3) (As := [.int (iI p0), .int (iI 1), .int (iI ((gS (LE i0) (row AT i0) (SN i0).toNat) - 1))]) (st := []) (fr := [(r, .inr (5, [.ref e1, .int (iI (↑n)), .ref e2, .ref e3, .ref e4, .ref e5, .ref e6, .ref e7, .ref e8, .int (iI L), .int d, .ref e9, .ref e10, .ref e11, .ref e12, .ref e13, .int (iI (gS (LE i0) (row AT i0) (SN i0).toNat)), .int (iI (mst (LE i0) (row AT i0) (row LF i0) (SN i0).toNat)), .ref e14, .int (iI 0)])), (e1, ar cI 8 ND), (e2, ai cI 8 AU), (e3, ai cI 8 LE), (e4, ai cI 8 SN), (e5, ar cI 8 US), (e6, ai cI 80 KK), (e7, ai cI 80 AT), (e8, ai cI 80 LF), (e9, ar cI 6 KN), (e10, ai cI 32 P1), (e11, ai cI 32 H1), (e12, ai cI 32 T1), (e13, ai cI 32 M1), (e14, ai cI 201 CU)]) C hE (k_rin l D cI cZ cM cL p0 1 (gS (LE i0) (row AT i0) (SN i0).toNat - 1) hp0 ⟨by omega, by omega⟩ ⟨by omega, by omega⟩) gX5_fold_X5_in rfl ⟨rfl, rfl⟩ (by decide +kernel) ⟨Nat.le_of_ble_eq_true rfl, Nat.le_of_ble_eq_true rfl⟩ rfl rfl (List.Perm.refl _) (Nat.le_of_ble_eq_true rfl) ⟨Nat.le_of_ble_eq_true rfl, Nat.le_of_ble_eq_true rfl⟩ dX5_fold_55 (fun r w1 hpo => ?_)
      obtain ⟨rfl, rfl⟩ := hpo
      have hb7 := b2r (1 ≤ p0 ∧ p0 ≤ gS (LE i0) (row AT i0) (SN i0).toNat - 1)
      refine (show zG E Q (0) (0) [(r, .inr (5, [.ref e1, .int (iI (↑n)), .ref e2, .ref e3, .ref e4, .ref e5, .ref e6, .ref e7, .ref e8, .int (iI L), .int d, .ref e9, .ref e10, .ref e11, .ref e12, .ref e13, .int (iI (gS (LE i0) (row AT i0) (SN i0).toNat)), .int (iI (mst (LE i0) (row AT i0) (row LF i0) (SN i0).toNat)), .ref e14, .int (iI 0)])), (e1, ar cI 8 ND), (e2, ai cI 8 AU), (e3, ai cI 8 LE), (e4, ai cI 8 SN), (e5, ar cI 8 US), (e6, ai cI 80 KK), (e7, ai cI 80 AT), (e8, ai cI 80 LF), (e9, ar cI 6 KN), (e10, ai cI 32 P1), (e11, ai cI 32 H1), (e12, ai cI 32 T1), (e13, ai cI 32 M1), (e14, ai cI 201 CU)] [some (.ref r), some (.int (iI i0)), some (.int (iI k0)), some (.int (iI p0)), some (.int (iI f0)), none] 58 [.int (iI (b2 (1 ≤ p0 ∧ p0 ≤ gS (LE i0) (row AT i0) (SN i0).toNat - 1)))] from ?_)
      refine z_if_neI (tgt := 67) C dX5_fold_58 (by decide) ⟨by omega, by omega⟩ (fun h3 => ?_) (fun h3 => ?_)
      · refine z_aload_n (i := 0) C dX5_fold_67 rfl rfl ?_
        refine z_get (ci := 5) C (hi_X5_fold_X5) 0 rfl rfl 4 (by decide) (by decide +kernel) rfl dX5_fold_68 ?_
        refine z_iload_n (i := 1) C dX5_fold_71 rfl rfl ?_
        refine z_ialoadI 4 (he := rfl) C (zT_of hE (t0 := 0) rfl) (by omega) (by omega) (by decide) dX5_fold_72 ?_
        refine z_bipush (v := iI 10) C dX5_fold_73 (by decide) ?_
        refine z_icmp_eqI (tgt := 95) C dX5_fold_75 (by decide) ⟨by omega, by omega⟩ ⟨by omega, by omega⟩ (fun h4 => ?_) (fun h4 => ?_)
        · refine z_aload_n (i := 0) C dX5_fold_95 rfl rfl ?_
          refine z_iconst (v := iI 3) C dX5_fold_96 rfl ?_
          refine z_callV (n := 1) (As := [.int (iI 3)]) (st := []) (fr := []) C hE (k_rfails l D cI cZ cM cL r e1 e2 e3 e4 e5 e6 e7 e8 e9 e10 e11 e12 e13 e14 n L d (gS (LE i0) (row AT i0) (SN i0).toNat) (mst (LE i0) (row AT i0) (row LF i0) (SN i0).toNat) 0 ND US KN AU LE SN KK AT LF P1 H1 T1 M1 CU 3 ) gX5_fold_X5_fails rfl ⟨rfl, rfl⟩ (by decide +kernel) ⟨Nat.le_of_ble_eq_true rfl, Nat.le_of_ble_eq_true rfl⟩ rfl rfl (by rw [List.append_nil]) 0 rfl rfl rfl (Nat.le_of_ble_eq_true rfl) ⟨Nat.le_of_ble_eq_true rfl, Nat.le_of_ble_eq_true rfl⟩ dX5_fold_97 (fun r w1 hpo => ?_)
          obtain ⟨rfl, rfl⟩ := hpo
          rw [List.append_nil]
          refine (show zG E Q (0) (0) [(r, .inr (5, [.ref e1, .int (iI (↑n)), .ref e2, .ref e3, .ref e4, .ref e5, .ref e6, .ref e7, .ref e8, .int (iI L), .int d, .ref e9, .ref e10, .ref e11, .ref e12, .ref e13, .int (iI (gS (LE i0) (row AT i0) (SN i0).toNat)), .int (iI (mst (LE i0) (row AT i0) (row LF i0) (SN i0).toNat)), .ref e14, .int (iI 3)])), (e1, ar cI 8 ND), (e2, ai cI 8 AU), (e3, ai cI 8 LE), (e4, ai cI 8 SN), (e5, ar cI 8 US), (e6, ai cI 80 KK), (e7, ai cI 80 AT), (e8, ai cI 80 LF), (e9, ar cI 6 KN), (e10, ai cI 32 P1), (e11, ai cI 32 H1), (e12, ai cI 32 T1), (e13, ai cI 32 M1), (e14, ai cI 201 CU)] [some (.ref r), some (.int (iI i0)), some (.int (iI k0)), some (.int (iI p0)), some (.int (iI f0)), none] 100 [.int (iI 0)] from ?_)
          have hc : cFO n ND (rv AU LE SN KK AT LF i0) i0 k0 p0 = 3 := by unfold cFO; rw [if_neg (by have := b21 h1; have := b21 h2; omega), if_neg (by have := b21 h3; omega), if_pos (by first | exact Or.inl (by omega) | exact Or.inr hv)]
          exact z_iret C hR dX5_fold_100 (Nat.le_of_ble_eq_true rfl) (Nat.le_of_ble_eq_true rfl) (Or.inr ⟨by omega, rfl, gS (LE i0) (row AT i0) (SN i0).toNat, mst (LE i0) (row AT i0) (row LF i0) (SN i0).toNat, P1, H1, T1, M1, CU, by rw [hc]⟩)
        · refine z_aload_n (i := 0) C dX5_fold_78 rfl rfl ?_
          refine z_get (ci := 5) C (hi_X5_fold_X5) 0 rfl rfl 0 (by decide) (by decide +kernel) rfl dX5_fold_79 ?_
          refine z_iload_n (i := 2) C dX5_fold_82 rfl rfl ?_
          refine z_iaload C 1 rfl (zT_of hE (t0 := 0) rfl) (by omega) (by omega) (by decide) dX5_fold_83 ?_
          refine z_aload_n (i := 0) C dX5_fold_84 rfl rfl ?_
          refine z_iload_n (i := 1) C dX5_fold_85 rfl rfl ?_
          refine z_callV (n := 1) (As := [.int (iI i0)]) (st := [.int (ND k0)]) (fr := []) C hE (k_rownKinds l D cI cZ cM cL r e1 e2 e3 e4 e5 e6 e7 e8 e9 e10 e11 e12 e13 e14 n L d (gS (LE i0) (row AT i0) (SN i0).toNat) (mst (LE i0) (row AT i0) (row LF i0) (SN i0).toNat) 0 ND US KN AU LE SN KK AT LF P1 H1 T1 M1 CU i0 ⟨by omega, by omega⟩ hs9) gX5_fold_X5_ownKinds rfl ⟨rfl, rfl⟩ (by decide +kernel) ⟨Nat.le_of_ble_eq_true rfl, Nat.le_of_ble_eq_true rfl⟩ rfl rfl (by rw [List.append_nil]) 0 rfl rfl rfl (Nat.le_of_ble_eq_true rfl) ⟨Nat.le_of_ble_eq_true rfl, Nat.le_of_ble_eq_true rfl⟩ dX5_fold_86 (fun r w1 hpo => ?_)
          obtain ⟨rfl, rfl⟩ := hpo
          rw [List.append_nil]
          refine (show zG E Q (0) (0) [(r, .inr (5, [.ref e1, .int (iI (↑n)), .ref e2, .ref e3, .ref e4, .ref e5, .ref e6, .ref e7, .ref e8, .int (iI L), .int d, .ref e9, .ref e10, .ref e11, .ref e12, .ref e13, .int (iI (gS (LE i0) (row AT i0) (SN i0).toNat)), .int (iI (mst (LE i0) (row AT i0) (row LF i0) (SN i0).toNat)), .ref e14, .int (iI 0)])), (e1, ar cI 8 ND), (e2, ai cI 8 AU), (e3, ai cI 8 LE), (e4, ai cI 8 SN), (e5, ar cI 8 US), (e6, ai cI 80 KK), (e7, ai cI 80 AT), (e8, ai cI 80 LF), (e9, ar cI 6 KN), (e10, ai cI 32 P1), (e11, ai cI 32 H1), (e12, ai cI 32 T1), (e13, ai cI 32 M1), (e14, ai cI 201 CU)] [some (.ref r), some (.int (iI i0)), some (.int (iI k0)), some (.int (iI p0)), some (.int (iI f0)), none] 89 [.int (okb (fun q => KK (10 * i0 + q)) (SN i0).toNat), .int (ND k0)] from ?_)
          refine z_iconst (v := iI (-1)) C dX5_fold_89 rfl ?_
          refine z_ixor C dX5_fold_90 ?_
          refine z_iand C dX5_fold_91 ?_
          refine z_if_eq (tgt := 101) C dX5_fold_92 (by decide) (fun hv => ?_) (fun hv => ?_)
          · have hz9 := b21 h3
            refine z_bipush (v := iI 10) C dX5_fold_101 (by decide) ?_
            refine z_iload_n (i := 1) C dX5_fold_103 rfl rfl ?_
            refine z_imulI (v := 10 * i0) C dX5_fold_104 (by rfl) ?_
            refine z_aload_n (i := 0) C dX5_fold_105 rfl rfl ?_
            refine z_get (ci := 5) C (hi_X5_fold_X5) 0 rfl rfl 4 (by decide) (by decide +kernel) rfl dX5_fold_106 ?_
            refine z_iload_n (i := 1) C dX5_fold_109 rfl rfl ?_
            refine z_ialoadI 4 (he := rfl) C (zT_of hE (t0 := 0) rfl) (by omega) (by omega) (by decide) dX5_fold_110 ?_
            refine z_iaddI (v := (10 * i0) + (SN i0)) C dX5_fold_111 (by omega) ?_
            refine z_istore (lv' := [some (.ref r), some (.int (iI i0)), some (.int (iI k0)), some (.int (iI p0)), some (.int (iI f0)), some (.int (iI ((10 * i0) + (SN i0))))]) C dX5_fold_112 rfl rfl ?_
            refine z_aload_n (i := 0) C dX5_fold_114 rfl rfl ?_
            refine z_get (ci := 5) C (hi_X5_fold_X5) 0 rfl rfl 6 (by decide) (by decide +kernel) rfl dX5_fold_115 ?_
            refine z_iload C dX5_fold_118 rfl ?_
            refine z_iload_n (i := 2) C dX5_fold_120 rfl rfl ?_
            refine z_iastoreI 6 (he := rfl) (ws' := [(r, .inr (5, [.ref e1, .int (iI (↑n)), .ref e2, .ref e3, .ref e4, .ref e5, .ref e6, .ref e7, .ref e8, .int (iI L), .int d, .ref e9, .ref e10, .ref e11, .ref e12, .ref e13, .int (iI (gS (LE i0) (row AT i0) (SN i0).toNat)), .int (iI (mst (LE i0) (row AT i0) (row LF i0) (SN i0).toNat)), .ref e14, .int (iI 0)])), (e1, ar cI 8 ND), (e2, ai cI 8 AU), (e3, ai cI 8 LE), (e4, ai cI 8 SN), (e5, ar cI 8 US), (e6, ai cI 80 (zup KK ((10 * i0) + (SN i0)) k0)), (e7, ai cI 80 AT), (e8, ai cI 80 LF), (e9, ar cI 6 KN), (e10, ai cI 32 P1), (e11, ai cI 32 H1), (e12, ai cI 32 T1), (e13, ai cI 32 M1), (e14, ai cI 201 CU)]) C (zT_of hE (t0 := 0) rfl) (by omega) (by omega) (by decide) rfl dX5_fold_121 ?_
            refine z_aload_n (i := 0) C dX5_fold_122 rfl rfl ?_
            refine z_get (ci := 5) C (hi_X5_fold_X5) 0 rfl rfl 7 (by decide) (by decide +kernel) rfl dX5_fold_123 ?_
            refine z_iload C dX5_fold_126 rfl ?_
            refine z_iload_n (i := 3) C dX5_fold_128 rfl rfl ?_
            refine z_iastoreI 7 (he := rfl) (ws' := [(r, .inr (5, [.ref e1, .int (iI (↑n)), .ref e2, .ref e3, .ref e4, .ref e5, .ref e6, .ref e7, .ref e8, .int (iI L), .int d, .ref e9, .ref e10, .ref e11, .ref e12, .ref e13, .int (iI (gS (LE i0) (row AT i0) (SN i0).toNat)), .int (iI (mst (LE i0) (row AT i0) (row LF i0) (SN i0).toNat)), .ref e14, .int (iI 0)])), (e1, ar cI 8 ND), (e2, ai cI 8 AU), (e3, ai cI 8 LE), (e4, ai cI 8 SN), (e5, ar cI 8 US), (e6, ai cI 80 (zup KK ((10 * i0) + (SN i0)) k0)), (e7, ai cI 80 (zup AT ((10 * i0) + (SN i0)) p0)), (e8, ai cI 80 LF), (e9, ar cI 6 KN), (e10, ai cI 32 P1), (e11, ai cI 32 H1), (e12, ai cI 32 T1), (e13, ai cI 32 M1), (e14, ai cI 201 CU)]) C (zT_of hE (t0 := 0) rfl) (by omega) (by omega) (by decide) rfl dX5_fold_129 ?_
            refine z_aload_n (i := 0) C dX5_fold_130 rfl rfl ?_
            refine z_get (ci := 5) C (hi_X5_fold_X5) 0 rfl rfl 8 (by decide) (by decide +kernel) rfl dX5_fold_131 ?_
            refine z_iload C dX5_fold_134 rfl ?_
            refine z_iload C dX5_fold_136 rfl ?_
            refine z_if_eqI (tgt := 145) C dX5_fold_138 (by decide) ⟨by omega, by omega⟩ (fun h5 => ?_) (fun h5 => ?_)
            · refine z_iconst (v := iI 0) C dX5_fold_145 rfl ?_
              refine z_top (y := iI f0) (by rw [show f0 = 0 by omega]) ?_
              refine z_iastoreI 8 (he := rfl) (ws' := [(r, .inr (5, [.ref e1, .int (iI (↑n)), .ref e2, .ref e3, .ref e4, .ref e5, .ref e6, .ref e7, .ref e8, .int (iI L), .int d, .ref e9, .ref e10, .ref e11, .ref e12, .ref e13, .int (iI (gS (LE i0) (row AT i0) (SN i0).toNat)), .int (iI (mst (LE i0) (row AT i0) (row LF i0) (SN i0).toNat)), .ref e14, .int (iI 0)])), (e1, ar cI 8 ND), (e2, ai cI 8 AU), (e3, ai cI 8 LE), (e4, ai cI 8 SN), (e5, ar cI 8 US), (e6, ai cI 80 (zup KK ((10 * i0) + (SN i0)) k0)), (e7, ai cI 80 (zup AT ((10 * i0) + (SN i0)) p0)), (e8, ai cI 80 (zup LF ((10 * i0) + (SN i0)) f0)), (e9, ar cI 6 KN), (e10, ai cI 32 P1), (e11, ai cI 32 H1), (e12, ai cI 32 T1), (e13, ai cI 32 M1), (e14, ai cI 201 CU)]) C (zT_of hE (t0 := 0) rfl) (by omega) (by omega) (by decide) rfl dX5_fold_146 ?_
              refine z_aload_n (i := 0) C dX5_fold_147 rfl rfl ?_
              refine z_get (ci := 5) C (hi_X5_fold_X5) 0 rfl rfl 4 (by decide) (by decide +kernel) rfl dX5_fold_148 ?_
              refine z_iload_n (i := 1) C dX5_fold_151 rfl rfl ?_
              refine z_dup2 C dX5_fold_152 rfl rfl ?_
              refine z_ialoadI 4 (he := rfl) C (zT_of hE (t0 := 0) rfl) (by omega) (by omega) (by decide) dX5_fold_153 ?_
              refine z_iconst (v := iI 1) C dX5_fold_154 rfl ?_
              refine z_iaddI (v := (SN i0) + 1) C dX5_fold_155 (by omega) ?_
              refine z_iastoreI 4 (he := rfl) (ws' := [(r, .inr (5, [.ref e1, .int (iI (↑n)), .ref e2, .ref e3, .ref e4, .ref e5, .ref e6, .ref e7, .ref e8, .int (iI L), .int d, .ref e9, .ref e10, .ref e11, .ref e12, .ref e13, .int (iI (gS (LE i0) (row AT i0) (SN i0).toNat)), .int (iI (mst (LE i0) (row AT i0) (row LF i0) (SN i0).toNat)), .ref e14, .int (iI 0)])), (e1, ar cI 8 ND), (e2, ai cI 8 AU), (e3, ai cI 8 LE), (e4, ai cI 8 (zup SN i0 ((SN i0) + 1))), (e5, ar cI 8 US), (e6, ai cI 80 (zup KK ((10 * i0) + (SN i0)) k0)), (e7, ai cI 80 (zup AT ((10 * i0) + (SN i0)) p0)), (e8, ai cI 80 (zup LF ((10 * i0) + (SN i0)) f0)), (e9, ar cI 6 KN), (e10, ai cI 32 P1), (e11, ai cI 32 H1), (e12, ai cI 32 T1), (e13, ai cI 32 M1), (e14, ai cI 201 CU)]) C (zT_of hE (t0 := 0) rfl) (by omega) (by omega) (by decide) rfl dX5_fold_156 ?_
              refine z_iload_n (i := 3) C dX5_fold_157 rfl rfl ?_
              refine z_aload_n (i := 0) C dX5_fold_158 rfl rfl ?_
              refine z_get (ci := 5) C (hi_X5_fold_X5) 0 rfl rfl 16 (by decide) (by decide +kernel) rfl dX5_fold_159 ?_
              refine z_iload_n (i := 3) C dX5_fold_162 rfl rfl ?_
              refine z_isubI (v := (gS (LE i0) (row AT i0) (SN i0).toNat) - p0) C dX5_fold_163 (by omega) ?_
              refine z_icmp_leI (tgt := 171) C dX5_fold_164 (by decide) ⟨by omega, by omega⟩ ⟨by omega, by omega⟩ (fun h6 => ?_) (fun h6 => ?_)
              · refine z_aload_n (i := 0) C dX5_fold_171 rfl rfl ?_
                refine z_get (ci := 5) C (hi_X5_fold_X5) 0 rfl rfl 16 (by decide) (by decide +kernel) rfl dX5_fold_172 ?_
                refine z_iload_n (i := 3) C dX5_fold_175 rfl rfl ?_
                refine z_isubI (v := (gS (LE i0) (row AT i0) (SN i0).toNat) - p0) C dX5_fold_176 (by omega) ?_
                have hc : cFO n ND (rv AU LE SN KK AT LF i0) i0 k0 p0 = 0 := by unfold cFO; rw [if_neg (by have := b21 h1; have := b21 h2; omega), if_neg (by have := b21 h3; omega), if_neg (fun q => q.elim (by omega) (fun e => e hv))]
                exact z_iret C hR dX5_fold_177 (Nat.le_of_ble_eq_true rfl) (Nat.le_of_ble_eq_true rfl) (Or.inl ⟨hc, by rw [show max p0 (mgS (rv AU LE SN KK AT LF i0) - p0) = (gS (LE i0) (row AT i0) (SN i0).toNat) - p0 by have := b21 h3; omega], gS (LE i0) (row AT i0) (SN i0).toNat, mst (LE i0) (row AT i0) (row LF i0) (SN i0).toNat, P1, H1, T1, M1, CU, rfl⟩)
              · refine z_iload_n (i := 3) C dX5_fold_167 rfl rfl ?_
                refine z_goto (tgt := 177) C dX5_fold_168 (by decide) ?_
                have hc : cFO n ND (rv AU LE SN KK AT LF i0) i0 k0 p0 = 0 := by unfold cFO; rw [if_neg (by have := b21 h1; have := b21 h2; omega), if_neg (by have := b21 h3; omega), if_neg (fun q => q.elim (by omega) (fun e => e hv))]
                exact z_iret C hR dX5_fold_177 (Nat.le_of_ble_eq_true rfl) (Nat.le_of_ble_eq_true rfl) (Or.inl ⟨hc, by rw [show max p0 (mgS (rv AU LE SN KK AT LF i0) - p0) = p0 by have := b21 h3; omega], gS (LE i0) (row AT i0) (SN i0).toNat, mst (LE i0) (row AT i0) (row LF i0) (SN i0).toNat, P1, H1, T1, M1, CU, rfl⟩)
            · refine z_iconst (v := iI 1) C dX5_fold_141 rfl ?_
              refine z_top (y := iI f0) (by rw [show f0 = 1 by omega]) ?_
              refine z_goto (tgt := 146) C dX5_fold_142 (by decide) ?_
              refine z_iastoreI 8 (he := rfl) (ws' := [(r, .inr (5, [.ref e1, .int (iI (↑n)), .ref e2, .ref e3, .ref e4, .ref e5, .ref e6, .ref e7, .ref e8, .int (iI L), .int d, .ref e9, .ref e10, .ref e11, .ref e12, .ref e13, .int (iI (gS (LE i0) (row AT i0) (SN i0).toNat)), .int (iI (mst (LE i0) (row AT i0) (row LF i0) (SN i0).toNat)), .ref e14, .int (iI 0)])), (e1, ar cI 8 ND), (e2, ai cI 8 AU), (e3, ai cI 8 LE), (e4, ai cI 8 SN), (e5, ar cI 8 US), (e6, ai cI 80 (zup KK ((10 * i0) + (SN i0)) k0)), (e7, ai cI 80 (zup AT ((10 * i0) + (SN i0)) p0)), (e8, ai cI 80 (zup LF ((10 * i0) + (SN i0)) f0)), (e9, ar cI 6 KN), (e10, ai cI 32 P1), (e11, ai cI 32 H1), (e12, ai cI 32 T1), (e13, ai cI 32 M1), (e14, ai cI 201 CU)]) C (zT_of hE (t0 := 0) rfl) (by omega) (by omega) (by decide) rfl dX5_fold_146 ?_
              refine z_aload_n (i := 0) C dX5_fold_147 rfl rfl ?_
              refine z_get (ci := 5) C (hi_X5_fold_X5) 0 rfl rfl 4 (by decide) (by decide +kernel) rfl dX5_fold_148 ?_
              refine z_iload_n (i := 1) C dX5_fold_151 rfl rfl ?_
              refine z_dup2 C dX5_fold_152 rfl rfl ?_
              refine z_ialoadI 4 (he := rfl) C (zT_of hE (t0 := 0) rfl) (by omega) (by omega) (by decide) dX5_fold_153 ?_
              refine z_iconst (v := iI 1) C dX5_fold_154 rfl ?_
              refine z_iaddI (v := (SN i0) + 1) C dX5_fold_155 (by omega) ?_
              refine z_iastoreI 4 (he := rfl) (ws' := [(r, .inr (5, [.ref e1, .int (iI (↑n)), .ref e2, .ref e3, .ref e4, .ref e5, .ref e6, .ref e7, .ref e8, .int (iI L), .int d, .ref e9, .ref e10, .ref e11, .ref e12, .ref e13, .int (iI (gS (LE i0) (row AT i0) (SN i0).toNat)), .int (iI (mst (LE i0) (row AT i0) (row LF i0) (SN i0).toNat)), .ref e14, .int (iI 0)])), (e1, ar cI 8 ND), (e2, ai cI 8 AU), (e3, ai cI 8 LE), (e4, ai cI 8 (zup SN i0 ((SN i0) + 1))), (e5, ar cI 8 US), (e6, ai cI 80 (zup KK ((10 * i0) + (SN i0)) k0)), (e7, ai cI 80 (zup AT ((10 * i0) + (SN i0)) p0)), (e8, ai cI 80 (zup LF ((10 * i0) + (SN i0)) f0)), (e9, ar cI 6 KN), (e10, ai cI 32 P1), (e11, ai cI 32 H1), (e12, ai cI 32 T1), (e13, ai cI 32 M1), (e14, ai cI 201 CU)]) C (zT_of hE (t0 := 0) rfl) (by omega) (by omega) (by decide) rfl dX5_fold_156 ?_
              refine z_iload_n (i := 3) C dX5_fold_157 rfl rfl ?_
              refine z_aload_n (i := 0) C dX5_fold_158 rfl rfl ?_
              refine z_get (ci := 5) C (hi_X5_fold_X5) 0 rfl rfl 16 (by decide) (by decide +kernel) rfl dX5_fold_159 ?_
              refine z_iload_n (i := 3) C dX5_fold_162 rfl rfl ?_
              refine z_isubI (v := (gS (LE i0) (row AT i0) (SN i0).toNat) - p0) C dX5_fold_163 (by omega) ?_
              refine z_icmp_leI (tgt := 171) C dX5_fold_164 (by decide) ⟨by omega, by omega⟩ ⟨by omega, by omega⟩ (fun h6 => ?_) (fun h6 => ?_)
              · refine z_aload_n (i := 0) C dX5_fold_171 rfl rfl ?_
                refine z_get (ci := 5) C (hi_X5_fold_X5) 0 rfl rfl 16 (by decide) (by decide +kernel) rfl dX5_fold_172 ?_
                refine z_iload_n (i := 3) C dX5_fold_175 rfl rfl ?_
                refine z_isubI (v := (gS (LE i0) (row AT i0) (SN i0).toNat) - p0) C dX5_fold_176 (by omega) ?_
                have hc : cFO n ND (rv AU LE SN KK AT LF i0) i0 k0 p0 = 0 := by unfold cFO; rw [if_neg (by have := b21 h1; have := b21 h2; omega), if_neg (by have := b21 h3; omega), if_neg (fun q => q.elim (by omega) (fun e => e hv))]
                exact z_iret C hR dX5_fold_177 (Nat.le_of_ble_eq_true rfl) (Nat.le_of_ble_eq_true rfl) (Or.inl ⟨hc, by rw [show max p0 (mgS (rv AU LE SN KK AT LF i0) - p0) = (gS (LE i0) (row AT i0) (SN i0).toNat) - p0 by have := b21 h3; omega], gS (LE i0) (row AT i0) (SN i0).toNat, mst (LE i0) (row AT i0) (row LF i0) (SN i0).toNat, P1, H1, T1, M1, CU, rfl⟩)
              · refine z_iload_n (i := 3) C dX5_fold_167 rfl rfl ?_
                refine z_goto (tgt := 177) C dX5_fold_168 (by decide) ?_
                have hc : cFO n ND (rv AU LE SN KK AT LF i0) i0 k0 p0 = 0 := by unfold cFO; rw [if_neg (by have := b21 h1; have := b21 h2; omega), if_neg (by have := b21 h3; omega), if_neg (fun q => q.elim (by omega) (fun e => e hv))]
                exact z_iret C hR dX5_fold_177 (Nat.le_of_ble_eq_true rfl) (Nat.le_of_ble_eq_true rfl) (Or.inl ⟨hc, by rw [show max p0 (mgS (rv AU LE SN KK AT LF i0) - p0) = p0 by have := b21 h3; omega], gS (LE i0) (row AT i0) (SN i0).toNat, mst (LE i0) (row AT i0) (row LF i0) (SN i0).toNat, P1, H1, T1, M1, CU, rfl⟩)
          · refine z_aload_n (i := 0) C dX5_fold_95 rfl rfl ?_
            refine z_iconst (v := iI 3) C dX5_fold_96 rfl ?_
            refine z_callV (n := 1) (As := [.int (iI 3)]) (st := []) (fr := []) C hE (k_rfails l D cI cZ cM cL r e1 e2 e3 e4 e5 e6 e7 e8 e9 e10 e11 e12 e13 e14 n L d (gS (LE i0) (row AT i0) (SN i0).toNat) (mst (LE i0) (row AT i0) (row LF i0) (SN i0).toNat) 0 ND US KN AU LE SN KK AT LF P1 H1 T1 M1 CU 3 ) gX5_fold_X5_fails rfl ⟨rfl, rfl⟩ (by decide +kernel) ⟨Nat.le_of_ble_eq_true rfl, Nat.le_of_ble_eq_true rfl⟩ rfl rfl (by rw [List.append_nil]) 0 rfl rfl rfl (Nat.le_of_ble_eq_true rfl) ⟨Nat.le_of_ble_eq_true rfl, Nat.le_of_ble_eq_true rfl⟩ dX5_fold_97 (fun r w1 hpo => ?_)
            obtain ⟨rfl, rfl⟩ := hpo
            rw [List.append_nil]
            refine (show zG E Q (0) (0) [(r, .inr (5, [.ref e1, .int (iI (↑n)), .ref e2, .ref e3, .ref e4, .ref e5, .ref e6, .ref e7, .ref e8, .int (iI L), .int d, .ref e9, .ref e10, .ref e11, .ref e12, .ref e13, .int (iI (gS (LE i0) (row AT i0) (SN i0).toNat)), .int (iI (mst (LE i0) (row AT i0) (row LF i0) (SN i0).toNat)), .ref e14, .int (iI 3)])), (e1, ar cI 8 ND), (e2, ai cI 8 AU), (e3, ai cI 8 LE), (e4, ai cI 8 SN), (e5, ar cI 8 US), (e6, ai cI 80 KK), (e7, ai cI 80 AT), (e8, ai cI 80 LF), (e9, ar cI 6 KN), (e10, ai cI 32 P1), (e11, ai cI 32 H1), (e12, ai cI 32 T1), (e13, ai cI 32 M1), (e14, ai cI 201 CU)] [some (.ref r), some (.int (iI i0)), some (.int (iI k0)), some (.int (iI p0)), some (.int (iI f0)), none] 100 [.int (iI 0)] from ?_)
            have hc : cFO n ND (rv AU LE SN KK AT LF i0) i0 k0 p0 = 3 := by unfold cFO; rw [if_neg (by have := b21 h1; have := b21 h2; omega), if_neg (by have := b21 h3; omega), if_pos (by first | exact Or.inl (by omega) | exact Or.inr hv)]
            exact z_iret C hR dX5_fold_100 (Nat.le_of_ble_eq_true rfl) (Nat.le_of_ble_eq_true rfl) (Or.inr ⟨by omega, rfl, gS (LE i0) (row AT i0) (SN i0).toNat, mst (LE i0) (row AT i0) (row LF i0) (SN i0).toNat, P1, H1, T1, M1, CU, by rw [hc]⟩)
      · refine z_aload_n (i := 0) C dX5_fold_61 rfl rfl ?_
        refine z_iconst (v := iI 2) C dX5_fold_62 rfl ?_
        refine z_callV (n := 1) (As := [.int (iI 2)]) (st := []) (fr := []) C hE (k_rfails l D cI cZ cM cL r e1 e2 e3 e4 e5 e6 e7 e8 e9 e10 e11 e12 e13 e14 n L d (gS (LE i0) (row AT i0) (SN i0).toNat) (mst (LE i0) (row AT i0) (row LF i0) (SN i0).toNat) 0 ND US KN AU LE SN KK AT LF P1 H1 T1 M1 CU 2 ) gX5_fold_X5_fails rfl ⟨rfl, rfl⟩ (by decide +kernel) ⟨Nat.le_of_ble_eq_true rfl, Nat.le_of_ble_eq_true rfl⟩ rfl rfl (by rw [List.append_nil]) 0 rfl rfl rfl (Nat.le_of_ble_eq_true rfl) ⟨Nat.le_of_ble_eq_true rfl, Nat.le_of_ble_eq_true rfl⟩ dX5_fold_63 (fun r w1 hpo => ?_)
        obtain ⟨rfl, rfl⟩ := hpo
        rw [List.append_nil]
        refine (show zG E Q (0) (0) [(r, .inr (5, [.ref e1, .int (iI (↑n)), .ref e2, .ref e3, .ref e4, .ref e5, .ref e6, .ref e7, .ref e8, .int (iI L), .int d, .ref e9, .ref e10, .ref e11, .ref e12, .ref e13, .int (iI (gS (LE i0) (row AT i0) (SN i0).toNat)), .int (iI (mst (LE i0) (row AT i0) (row LF i0) (SN i0).toNat)), .ref e14, .int (iI 2)])), (e1, ar cI 8 ND), (e2, ai cI 8 AU), (e3, ai cI 8 LE), (e4, ai cI 8 SN), (e5, ar cI 8 US), (e6, ai cI 80 KK), (e7, ai cI 80 AT), (e8, ai cI 80 LF), (e9, ar cI 6 KN), (e10, ai cI 32 P1), (e11, ai cI 32 H1), (e12, ai cI 32 T1), (e13, ai cI 32 M1), (e14, ai cI 201 CU)] [some (.ref r), some (.int (iI i0)), some (.int (iI k0)), some (.int (iI p0)), some (.int (iI f0)), none] 66 [.int (iI 0)] from ?_)
        have hc : cFO n ND (rv AU LE SN KK AT LF i0) i0 k0 p0 = 2 := by unfold cFO; rw [if_neg (by have := b21 h1; have := b21 h2; omega), if_pos (by have := b20 h3; omega)]
        exact z_iret C hR dX5_fold_66 (Nat.le_of_ble_eq_true rfl) (Nat.le_of_ble_eq_true rfl) (Or.inr ⟨by omega, rfl, gS (LE i0) (row AT i0) (SN i0).toNat, mst (LE i0) (row AT i0) (row LF i0) (SN i0).toNat, P1, H1, T1, M1, CU, by rw [hc]⟩)
    · refine z_iconst (v := iI 1) C dX5_fold_25 rfl ?_
      refine z_goto (tgt := 30) C dX5_fold_26 (by decide) ?_
      refine z_put (ci := 5) (ws' := [(r, .inr (5, [.ref e1, .int (iI (↑n)), .ref e2, .ref e3, .ref e4, .ref e5, .ref e6, .ref e7, .ref e8, .int (iI L), .int d, .ref e9, .ref e10, .ref e11, .ref e12, .ref e13, .int (iI sz), .int (iI mo), .ref e14, .int (iI 1)])), (e1, ar cI 8 ND), (e2, ai cI 8 AU), (e3, ai cI 8 LE), (e4, ai cI 8 SN), (e5, ar cI 8 US), (e6, ai cI 80 KK), (e7, ai cI 80 AT), (e8, ai cI 80 LF), (e9, ar cI 6 KN), (e10, ai cI 32 PL), (e11, ai cI 32 HE), (e12, ai cI 32 TU), (e13, ai cI 32 MA), (e14, ai cI 201 CU)]) C (hi_X5_fold_X5) tyX5_ok nmX5 0 rfl rfl 19 (by decide) (by decide +kernel) rfl (tyX5_ok 19 (by decide)) rfl rfl (Nat.le_of_ble_eq_true rfl) rfl dX5_fold_30 ?_
      refine z_aload_n (i := 0) C dX5_fold_33 rfl rfl ?_
      refine z_get (ci := 5) C (hi_X5_fold_X5) 0 rfl rfl 19 (by decide) (by decide +kernel) rfl dX5_fold_34 ?_
      refine z_if_leI (tgt := 42) C dX5_fold_37 (by decide) ⟨by omega, by omega⟩ (fun h => by exfalso; omega) (fun _ => ?_)
      refine z_iconst (v := iI 0) C dX5_fold_40 rfl ?_
      have hc : cFO n ND (rv AU LE SN KK AT LF i0) i0 k0 p0 = 1 := by unfold cFO; rw [if_pos (by first | (have := b20 h1; omega) | (have := b20 h2; omega))]
      exact z_iret C hR dX5_fold_41 (Nat.le_of_ble_eq_true rfl) (Nat.le_of_ble_eq_true rfl) (Or.inr ⟨by omega, rfl, sz, mo, PL, HE, TU, MA, CU, by rw [hc]⟩)
theorem hi_X5_unfold_X5 : ∀ w ∈ wsX50, w ∈ wsX5_unfold := by decide +kernel
set_option maxHeartbeats 1000000 in
set_option maxRecDepth 100000 in
theorem k_runfold (l : Launch) (D : va_G) (cI cZ cM cL : ClassId) (r e1 e2 e3 e4 e5 e6 e7 e8 e9 e10 e11 e12 e13 e14 : Nat) (n : Nat) (L : Int) (d : Int32) (sz mo th : Int) (ND US KN : Int → Int32) (AU LE SN KK AT LF PL HE TU MA CU : Int → Int) (hg : rO n L US LE SN AT LF) (i0 : Int) (hi0 : iR i0) : zN l yX5_unfold wsX5_unfold { frames := 2, cells := 0, slots := 0, locals := 43 } D (zTy cI cZ cM cL) [.ref r, .int (iI i0)] (rfW cI r e1 e2 e3 e4 e5 e6 e7 e8 e9 e10 e11 e12 e13 e14 n L d sz mo th ND US KN AU LE SN KK AT LF PL HE TU MA CU) (fun r9 w => ((cUN n (rv AU LE SN KK AT LF i0) i0) = 0 ∧ r9 = some (.int (iI (KK (10 * i0 + (SN i0 - 1))))) ∧ (rQ cI r e1 e2 e3 e4 e5 e6 e7 e8 e9 e10 e11 e12 e13 e14 n L d 0 ND US KN AU LE (zup SN i0 (SN i0 - 1)) KK AT LF w)) ∨ (¬ (cUN n (rv AU LE SN KK AT LF i0) i0) = 0 ∧ r9 = some (.int (iI 0)) ∧ (rQ cI r e1 e2 e3 e4 e5 e6 e7 e8 e9 e10 e11 e12 e13 e14 n L d (cUN n (rv AU LE SN KK AT LF i0) i0) ND US KN AU LE SN KK AT LF w))) 0 0 := by
  refine zN_of (cc := cX5_unfold) (maxL := 2) (lv0 := [some (.ref r), some (.int (iI i0))]) (by decide) rfl rfl (Nat.le_of_ble_eq_true rfl) rfl ?_
  intro E Q C hE hR hI0
  obtain ⟨hn, hz, hL, hm⟩ := hg
  have hN8 : msn (rv AU LE SN KK AT LF i0) = SN i0 := rfl
  refine (show zG E Q 0 0 [(r, .inr (5, [.ref e1, .int (iI (↑n)), .ref e2, .ref e3, .ref e4, .ref e5, .ref e6, .ref e7, .ref e8, .int (iI L), .int d, .ref e9, .ref e10, .ref e11, .ref e12, .ref e13, .int (iI sz), .int (iI mo), .ref e14, .int (iI th)])), (e1, ar cI 8 ND), (e2, ai cI 8 AU), (e3, ai cI 8 LE), (e4, ai cI 8 SN), (e5, ar cI 8 US), (e6, ai cI 80 KK), (e7, ai cI 80 AT), (e8, ai cI 80 LF), (e9, ar cI 6 KN), (e10, ai cI 32 PL), (e11, ai cI 32 HE), (e12, ai cI 32 TU), (e13, ai cI 32 MA), (e14, ai cI 201 CU)] [some (.ref r), some (.int (iI i0))] 0 [] from ?_)
  refine z_aload_n (i := 0) C dX5_unfold_0 rfl rfl ?_
  refine z_iload_n (i := 1) C dX5_unfold_1 rfl rfl ?_
  refine z_callV (n := 1) (As := [.int (iI i0)]) (st := []) (fr := []) C hE (k_risModel l D cI cZ cM cL r e1 e2 e3 e4 e5 e6 e7 e8 e9 e10 e11 e12 e13 e14 n L d sz mo th ND US KN AU LE SN KK AT LF PL HE TU MA CU i0 hi0 hn) gX5_unfold_X5_isModel rfl ⟨rfl, rfl⟩ (by decide +kernel) ⟨Nat.le_of_ble_eq_true rfl, Nat.le_of_ble_eq_true rfl⟩ rfl rfl (by rw [List.append_nil]) 0 rfl rfl rfl (Nat.le_of_ble_eq_true rfl) ⟨Nat.le_of_ble_eq_true rfl, Nat.le_of_ble_eq_true rfl⟩ dX5_unfold_2 (fun r w1 hpo => ?_)
  obtain ⟨rfl, rfl⟩ := hpo
  have hb9 := b2r (0 ≤ i0 ∧ i0 < ↑n)
  rw [List.append_nil]
  refine (show zG E Q (0) (0) [(r, .inr (5, [.ref e1, .int (iI (↑n)), .ref e2, .ref e3, .ref e4, .ref e5, .ref e6, .ref e7, .ref e8, .int (iI L), .int d, .ref e9, .ref e10, .ref e11, .ref e12, .ref e13, .int (iI sz), .int (iI mo), .ref e14, .int (iI (cM1 n i0))])), (e1, ar cI 8 ND), (e2, ai cI 8 AU), (e3, ai cI 8 LE), (e4, ai cI 8 SN), (e5, ar cI 8 US), (e6, ai cI 80 KK), (e7, ai cI 80 AT), (e8, ai cI 80 LF), (e9, ar cI 6 KN), (e10, ai cI 32 PL), (e11, ai cI 32 HE), (e12, ai cI 32 TU), (e13, ai cI 32 MA), (e14, ai cI 201 CU)] [some (.ref r), some (.int (iI i0))] 5 [.int (iI (b2 (0 ≤ i0 ∧ i0 < ↑n)))] from ?_)
  refine z_if_neI (tgt := 10) C dX5_unfold_5 (by decide) ⟨by omega, by omega⟩ (fun h1 => ?_) (fun h1 => ?_)
  · have hx9 := b21 h1
    obtain ⟨hl9, hs9, ht9⟩ := hm i0 (by omega) (by omega)
    refine z_aload_n (i := 0) C dX5_unfold_10 rfl rfl ?_
    refine z_get (ci := 5) C (hi_X5_unfold_X5) 0 rfl rfl 4 (by decide) (by decide +kernel) rfl dX5_unfold_11 ?_
    refine z_iload_n (i := 1) C dX5_unfold_14 rfl rfl ?_
    refine z_ialoadI 4 (he := rfl) C (zT_of hE (t0 := 0) rfl) (by omega) (by omega) (by decide) dX5_unfold_15 ?_
    refine z_if_neI (tgt := 25) C dX5_unfold_16 (by decide) ⟨by omega, by omega⟩ (fun h2 => ?_) (fun h2 => ?_)
    · refine z_aload_n (i := 0) C dX5_unfold_25 rfl rfl ?_
      refine z_get (ci := 5) C (hi_X5_unfold_X5) 0 rfl rfl 4 (by decide) (by decide +kernel) rfl dX5_unfold_26 ?_
      refine z_iload_n (i := 1) C dX5_unfold_29 rfl rfl ?_
      refine z_dup2 C dX5_unfold_30 rfl rfl ?_
      refine z_ialoadI 4 (he := rfl) C (zT_of hE (t0 := 0) rfl) (by omega) (by omega) (by decide) dX5_unfold_31 ?_
      refine z_iconst (v := iI 1) C dX5_unfold_32 rfl ?_
      refine z_isubI (v := (SN i0) - 1) C dX5_unfold_33 (by omega) ?_
      refine z_iastoreI 4 (he := rfl) (ws' := [(r, .inr (5, [.ref e1, .int (iI (↑n)), .ref e2, .ref e3, .ref e4, .ref e5, .ref e6, .ref e7, .ref e8, .int (iI L), .int d, .ref e9, .ref e10, .ref e11, .ref e12, .ref e13, .int (iI sz), .int (iI mo), .ref e14, .int (iI (cM1 n i0))])), (e1, ar cI 8 ND), (e2, ai cI 8 AU), (e3, ai cI 8 LE), (e4, ai cI 8 (zup SN i0 ((SN i0) - 1))), (e5, ar cI 8 US), (e6, ai cI 80 KK), (e7, ai cI 80 AT), (e8, ai cI 80 LF), (e9, ar cI 6 KN), (e10, ai cI 32 PL), (e11, ai cI 32 HE), (e12, ai cI 32 TU), (e13, ai cI 32 MA), (e14, ai cI 201 CU)]) C (zT_of hE (t0 := 0) rfl) (by omega) (by omega) (by decide) rfl dX5_unfold_34 ?_
      refine z_aload_n (i := 0) C dX5_unfold_35 rfl rfl ?_
      refine z_get (ci := 5) C (hi_X5_unfold_X5) 0 rfl rfl 6 (by decide) (by decide +kernel) rfl dX5_unfold_36 ?_
      refine z_bipush (v := iI 10) C dX5_unfold_39 (by decide) ?_
      refine z_iload_n (i := 1) C dX5_unfold_41 rfl rfl ?_
      refine z_imulI (v := 10 * i0) C dX5_unfold_42 (by rfl) ?_
      refine z_aload_n (i := 0) C dX5_unfold_43 rfl rfl ?_
      refine z_get (ci := 5) C (hi_X5_unfold_X5) 0 rfl rfl 4 (by decide) (by decide +kernel) rfl dX5_unfold_44 ?_
      refine z_iload_n (i := 1) C dX5_unfold_47 rfl rfl ?_
      refine z_ialoadI 4 (he := rfl) C (zT_of hE (t0 := 0) rfl) (by omega) (by omega) (by decide) dX5_unfold_48 ?_
      refine z_top (y := iI (SN i0 - 1)) (by rw [zup_self]) ?_
      refine z_iaddI (v := (10 * i0) + (SN i0 - 1)) C dX5_unfold_49 (by omega) ?_
      refine z_ialoadI 6 (he := rfl) C (zT_of hE (t0 := 0) rfl) (by omega) (by omega) (by decide) dX5_unfold_50 ?_
      have hc : cUN n (rv AU LE SN KK AT LF i0) i0 = 0 := by unfold cUN; rw [if_neg (fun q => q (b21 h1)), if_neg (by omega)]
      have hc2 : cM1 n i0 = 0 := by unfold cM1; rw [if_neg (fun q => q (b21 h1))]
      exact z_iret C hR dX5_unfold_51 (Nat.le_of_ble_eq_true rfl) (Nat.le_of_ble_eq_true rfl) (Or.inl ⟨hc, rfl, sz, mo, PL, HE, TU, MA, CU, by rw [hc2]⟩)
    · refine z_aload_n (i := 0) C dX5_unfold_19 rfl rfl ?_
      refine z_iconst (v := iI 2) C dX5_unfold_20 rfl ?_
      refine z_callV (n := 1) (As := [.int (iI 2)]) (st := []) (fr := []) C hE (k_rfails l D cI cZ cM cL r e1 e2 e3 e4 e5 e6 e7 e8 e9 e10 e11 e12 e13 e14 n L d sz mo (cM1 n i0) ND US KN AU LE SN KK AT LF PL HE TU MA CU 2 ) gX5_unfold_X5_fails rfl ⟨rfl, rfl⟩ (by decide +kernel) ⟨Nat.le_of_ble_eq_true rfl, Nat.le_of_ble_eq_true rfl⟩ rfl rfl (by rw [List.append_nil]) 0 rfl rfl rfl (Nat.le_of_ble_eq_true rfl) ⟨Nat.le_of_ble_eq_true rfl, Nat.le_of_ble_eq_true rfl⟩ dX5_unfold_21 (fun r w1 hpo => ?_)
      obtain ⟨rfl, rfl⟩ := hpo
      rw [List.append_nil]
      refine (show zG E Q (0) (0) [(r, .inr (5, [.ref e1, .int (iI (↑n)), .ref e2, .ref e3, .ref e4, .ref e5, .ref e6, .ref e7, .ref e8, .int (iI L), .int d, .ref e9, .ref e10, .ref e11, .ref e12, .ref e13, .int (iI sz), .int (iI mo), .ref e14, .int (iI 2)])), (e1, ar cI 8 ND), (e2, ai cI 8 AU), (e3, ai cI 8 LE), (e4, ai cI 8 SN), (e5, ar cI 8 US), (e6, ai cI 80 KK), (e7, ai cI 80 AT), (e8, ai cI 80 LF), (e9, ar cI 6 KN), (e10, ai cI 32 PL), (e11, ai cI 32 HE), (e12, ai cI 32 TU), (e13, ai cI 32 MA), (e14, ai cI 201 CU)] [some (.ref r), some (.int (iI i0))] 24 [.int (iI 0)] from ?_)
      have hc : cUN n (rv AU LE SN KK AT LF i0) i0 = 2 := by unfold cUN; rw [if_neg (fun q => q (b21 h1)), if_pos (by omega)]
      exact z_iret C hR dX5_unfold_24 (Nat.le_of_ble_eq_true rfl) (Nat.le_of_ble_eq_true rfl) (Or.inr ⟨by omega, rfl, sz, mo, PL, HE, TU, MA, CU, by rw [hc]⟩)
  · refine z_iconst (v := iI 0) C dX5_unfold_8 rfl ?_
    have hc : cUN n (rv AU LE SN KK AT LF i0) i0 = 1 := by unfold cUN; rw [if_pos (b20 h1)]
    have hc2 : cM1 n i0 = 1 := by unfold cM1; rw [if_pos (b20 h1)]
    exact z_iret C hR dX5_unfold_9 (Nat.le_of_ble_eq_true rfl) (Nat.le_of_ble_eq_true rfl) (Or.inr ⟨by omega, rfl, sz, mo, PL, HE, TU, MA, CU, by rw [hc, hc2]⟩)
theorem hi_X5_use_X5 : ∀ w ∈ wsX50, w ∈ wsX5_use := by decide +kernel
set_option maxHeartbeats 1000000 in
set_option maxRecDepth 100000 in
theorem k_ruse (l : Launch) (D : va_G) (cI cZ cM cL : ClassId) (r e1 e2 e3 e4 e5 e6 e7 e8 e9 e10 e11 e12 e13 e14 : Nat) (n : Nat) (L : Int) (d : Int32) (sz mo th : Int) (ND US KN : Int → Int32) (AU LE SN KK AT LF PL HE TU MA CU : Int → Int) (hg : rO n L US LE SN AT LF) (i0 j0 : Int) (hi0 : iR i0) (hj0 : iR j0) : zN l yX5_use wsX5_use { frames := 1, cells := 0, slots := 0, locals := 24 } D (zTy cI cZ cM cL) [.ref r, .int (iI i0), .int (iI j0)] (rfW cI r e1 e2 e3 e4 e5 e6 e7 e8 e9 e10 e11 e12 e13 e14 n L d sz mo th ND US KN AU LE SN KK AT LF PL HE TU MA CU) (fun r9 w => ((cUS n US i0 j0) = 0 ∧ r9 = some (.int (iI (b2 (¬ hb (US i0) (iI j0))))) ∧ (rQ cI r e1 e2 e3 e4 e5 e6 e7 e8 e9 e10 e11 e12 e13 e14 n L d 0 ND (zup US i0 (US i0 ||| (iI 1 <<< (iI j0 &&& 31)))) KN AU LE SN KK AT LF w)) ∨ (¬ (cUS n US i0 j0) = 0 ∧ r9 = some (.int (iI 0)) ∧ (rQ cI r e1 e2 e3 e4 e5 e6 e7 e8 e9 e10 e11 e12 e13 e14 n L d (cUS n US i0 j0) ND US KN AU LE SN KK AT LF w))) 0 0 := by
  refine zN_of (cc := cX5_use) (maxL := 4) (lv0 := [some (.ref r), some (.int (iI i0)), some (.int (iI j0)), none]) (by decide) rfl rfl (Nat.le_of_ble_eq_true rfl) rfl ?_
  intro E Q C hE hR hI0
  obtain ⟨hn, hz, hL, hm⟩ := hg
  refine (show zG E Q 0 0 [(r, .inr (5, [.ref e1, .int (iI (↑n)), .ref e2, .ref e3, .ref e4, .ref e5, .ref e6, .ref e7, .ref e8, .int (iI L), .int d, .ref e9, .ref e10, .ref e11, .ref e12, .ref e13, .int (iI sz), .int (iI mo), .ref e14, .int (iI th)])), (e1, ar cI 8 ND), (e2, ai cI 8 AU), (e3, ai cI 8 LE), (e4, ai cI 8 SN), (e5, ar cI 8 US), (e6, ai cI 80 KK), (e7, ai cI 80 AT), (e8, ai cI 80 LF), (e9, ar cI 6 KN), (e10, ai cI 32 PL), (e11, ai cI 32 HE), (e12, ai cI 32 TU), (e13, ai cI 32 MA), (e14, ai cI 201 CU)] [some (.ref r), some (.int (iI i0)), some (.int (iI j0)), none] 0 [] from ?_)
  refine z_aload_n (i := 0) C dX5_use_0 rfl rfl ?_
  refine z_iload_n (i := 1) C dX5_use_1 rfl rfl ?_
  refine z_iconst (v := iI 0) C dX5_use_2 rfl ?_
  refine z_aload_n (i := 0) C dX5_use_3 rfl rfl ?_
  refine z_get (ci := 5) C (hi_X5_use_X5) 0 rfl rfl 1 (by decide) (by decide +kernel) rfl dX5_use_4 ?_
  refine z_iconst (v := iI 1) C dX5_use_7 rfl ?_
  refine z_isubI (v := (↑n) - 1) C dX5_use_8 (by omega) ?_
  refine z_callS (n := 3) (As := [.int (iI i0), .int (iI 0), .int (iI ((↑n) - 1))]) (st := [.ref r]) (fr := [(r, .inr (5, [.ref e1, .int (iI (↑n)), .ref e2, .ref e3, .ref e4, .ref e5, .ref e6, .ref e7, .ref e8, .int (iI L), .int d, .ref e9, .ref e10, .ref e11, .ref e12, .ref e13, .int (iI sz), .int (iI mo), .ref e14, .int (iI th)])), (e1, ar cI 8 ND), (e2, ai cI 8 AU), (e3, ai cI 8 LE), (e4, ai cI 8 SN), (e5, ar cI 8 US), (e6, ai cI 80 KK), (e7, ai cI 80 AT), (e8, ai cI 80 LF), (e9, ar cI 6 KN), (e10, ai cI 32 PL), (e11, ai cI 32 HE), (e12, ai cI 32 TU), (e13, ai cI 32 MA), (e14, ai cI 201 CU)]) C hE (k_rin l D cI cZ cM cL i0 0 (↑n - 1) hi0 ⟨by omega, by omega⟩ ⟨by omega, by omega⟩) gX5_use_X5_in rfl ⟨rfl, rfl⟩ (by decide +kernel) ⟨Nat.le_of_ble_eq_true rfl, Nat.le_of_ble_eq_true rfl⟩ rfl rfl (List.Perm.refl _) (Nat.le_of_ble_eq_true rfl) ⟨Nat.le_of_ble_eq_true rfl, Nat.le_of_ble_eq_true rfl⟩ dX5_use_9 (fun r w1 hpo => ?_)
  obtain ⟨rfl, rfl⟩ := hpo
  have hb9 := b2r (0 ≤ i0 ∧ i0 ≤ ↑n - 1)
  refine (show zG E Q (0) (0) [(r, .inr (5, [.ref e1, .int (iI (↑n)), .ref e2, .ref e3, .ref e4, .ref e5, .ref e6, .ref e7, .ref e8, .int (iI L), .int d, .ref e9, .ref e10, .ref e11, .ref e12, .ref e13, .int (iI sz), .int (iI mo), .ref e14, .int (iI th)])), (e1, ar cI 8 ND), (e2, ai cI 8 AU), (e3, ai cI 8 LE), (e4, ai cI 8 SN), (e5, ar cI 8 US), (e6, ai cI 80 KK), (e7, ai cI 80 AT), (e8, ai cI 80 LF), (e9, ar cI 6 KN), (e10, ai cI 32 PL), (e11, ai cI 32 HE), (e12, ai cI 32 TU), (e13, ai cI 32 MA), (e14, ai cI 201 CU)] [some (.ref r), some (.int (iI i0)), some (.int (iI j0)), none] 12 [.int (iI (b2 (0 ≤ i0 ∧ i0 ≤ ↑n - 1))), .ref r] from ?_)
  refine z_if_eqI (tgt := 29) C dX5_use_12 (by decide) ⟨by omega, by omega⟩ (fun h1 => ?_) (fun h1 => ?_)
  · refine z_iconst (v := iI 1) C dX5_use_29 rfl ?_
    refine z_goto (tgt := 34) C dX5_use_30 (by decide) ?_
    refine z_put (ci := 5) (ws' := [(r, .inr (5, [.ref e1, .int (iI (↑n)), .ref e2, .ref e3, .ref e4, .ref e5, .ref e6, .ref e7, .ref e8, .int (iI L), .int d, .ref e9, .ref e10, .ref e11, .ref e12, .ref e13, .int (iI sz), .int (iI mo), .ref e14, .int (iI 1)])), (e1, ar cI 8 ND), (e2, ai cI 8 AU), (e3, ai cI 8 LE), (e4, ai cI 8 SN), (e5, ar cI 8 US), (e6, ai cI 80 KK), (e7, ai cI 80 AT), (e8, ai cI 80 LF), (e9, ar cI 6 KN), (e10, ai cI 32 PL), (e11, ai cI 32 HE), (e12, ai cI 32 TU), (e13, ai cI 32 MA), (e14, ai cI 201 CU)]) C (hi_X5_use_X5) tyX5_ok nmX5 0 rfl rfl 19 (by decide) (by decide +kernel) rfl (tyX5_ok 19 (by decide)) rfl rfl (Nat.le_of_ble_eq_true rfl) rfl dX5_use_34 ?_
    refine z_aload_n (i := 0) C dX5_use_37 rfl rfl ?_
    refine z_get (ci := 5) C (hi_X5_use_X5) 0 rfl rfl 19 (by decide) (by decide +kernel) rfl dX5_use_38 ?_
    refine z_if_leI (tgt := 46) C dX5_use_41 (by decide) ⟨by omega, by omega⟩ (fun h => by exfalso; omega) (fun _ => ?_)
    refine z_iconst (v := iI 0) C dX5_use_44 rfl ?_
    have hc : cUS n US i0 j0 = 1 := by unfold cUS; rw [if_pos (by first | (have := b20 h1; omega) | (have := b20 h2; omega))]
    exact z_zret C hR (by decide) dX5_use_45 (Nat.le_of_ble_eq_true rfl) (Nat.le_of_ble_eq_true rfl) (Or.inr ⟨by omega, rfl, sz, mo, PL, HE, TU, MA, CU, by rw [hc]⟩)
  · refine z_iload_n (i := 2) C dX5_use_15 rfl rfl ?_
    refine z_iconst (v := iI 0) C dX5_use_16 rfl ?_
    refine z_aload_n (i := 0) C dX5_use_17 rfl rfl ?_
    refine z_get (ci := 5) C (hi_X5_use_X5) 0 rfl rfl 1 (by decide) (by decide +kernel) rfl dX5_use_18 ?_
    refine z_iconst (v := iI 1) C dX5_use_21 rfl ?_
    refine z_isubI (v := (↑n) - 1) C dX5_use_22 (by omega) ?_
    refine z_callS (n := 3) (As := [.int (iI j0), .int (iI 0), .int (iI ((↑n) - 1))]) (st := [.ref r]) (fr := [(r, .inr (5, [.ref e1, .int (iI (↑n)), .ref e2, .ref e3, .ref e4, .ref e5, .ref e6, .ref e7, .ref e8, .int (iI L), .int d, .ref e9, .ref e10, .ref e11, .ref e12, .ref e13, .int (iI sz), .int (iI mo), .ref e14, .int (iI th)])), (e1, ar cI 8 ND), (e2, ai cI 8 AU), (e3, ai cI 8 LE), (e4, ai cI 8 SN), (e5, ar cI 8 US), (e6, ai cI 80 KK), (e7, ai cI 80 AT), (e8, ai cI 80 LF), (e9, ar cI 6 KN), (e10, ai cI 32 PL), (e11, ai cI 32 HE), (e12, ai cI 32 TU), (e13, ai cI 32 MA), (e14, ai cI 201 CU)]) C hE (k_rin l D cI cZ cM cL j0 0 (↑n - 1) hj0 ⟨by omega, by omega⟩ ⟨by omega, by omega⟩) gX5_use_X5_in rfl ⟨rfl, rfl⟩ (by decide +kernel) ⟨Nat.le_of_ble_eq_true rfl, Nat.le_of_ble_eq_true rfl⟩ rfl rfl (List.Perm.refl _) (Nat.le_of_ble_eq_true rfl) ⟨Nat.le_of_ble_eq_true rfl, Nat.le_of_ble_eq_true rfl⟩ dX5_use_23 (fun r w1 hpo => ?_)
    obtain ⟨rfl, rfl⟩ := hpo
    have hb8 := b2r (0 ≤ j0 ∧ j0 ≤ ↑n - 1)
    refine (show zG E Q (0) (0) [(r, .inr (5, [.ref e1, .int (iI (↑n)), .ref e2, .ref e3, .ref e4, .ref e5, .ref e6, .ref e7, .ref e8, .int (iI L), .int d, .ref e9, .ref e10, .ref e11, .ref e12, .ref e13, .int (iI sz), .int (iI mo), .ref e14, .int (iI th)])), (e1, ar cI 8 ND), (e2, ai cI 8 AU), (e3, ai cI 8 LE), (e4, ai cI 8 SN), (e5, ar cI 8 US), (e6, ai cI 80 KK), (e7, ai cI 80 AT), (e8, ai cI 80 LF), (e9, ar cI 6 KN), (e10, ai cI 32 PL), (e11, ai cI 32 HE), (e12, ai cI 32 TU), (e13, ai cI 32 MA), (e14, ai cI 201 CU)] [some (.ref r), some (.int (iI i0)), some (.int (iI j0)), none] 26 [.int (iI (b2 (0 ≤ j0 ∧ j0 ≤ ↑n - 1))), .ref r] from ?_)
    refine z_if_neI (tgt := 33) C dX5_use_26 (by decide) ⟨by omega, by omega⟩ (fun h2 => ?_) (fun h2 => ?_)
    · refine z_iconst (v := iI 0) C dX5_use_33 rfl ?_
      refine z_put (ci := 5) (ws' := [(r, .inr (5, [.ref e1, .int (iI (↑n)), .ref e2, .ref e3, .ref e4, .ref e5, .ref e6, .ref e7, .ref e8, .int (iI L), .int d, .ref e9, .ref e10, .ref e11, .ref e12, .ref e13, .int (iI sz), .int (iI mo), .ref e14, .int (iI 0)])), (e1, ar cI 8 ND), (e2, ai cI 8 AU), (e3, ai cI 8 LE), (e4, ai cI 8 SN), (e5, ar cI 8 US), (e6, ai cI 80 KK), (e7, ai cI 80 AT), (e8, ai cI 80 LF), (e9, ar cI 6 KN), (e10, ai cI 32 PL), (e11, ai cI 32 HE), (e12, ai cI 32 TU), (e13, ai cI 32 MA), (e14, ai cI 201 CU)]) C (hi_X5_use_X5) tyX5_ok nmX5 0 rfl rfl 19 (by decide) (by decide +kernel) rfl (tyX5_ok 19 (by decide)) rfl rfl (Nat.le_of_ble_eq_true rfl) rfl dX5_use_34 ?_
      refine z_aload_n (i := 0) C dX5_use_37 rfl rfl ?_
      refine z_get (ci := 5) C (hi_X5_use_X5) 0 rfl rfl 19 (by decide) (by decide +kernel) rfl dX5_use_38 ?_
      refine z_if_leI (tgt := 46) C dX5_use_41 (by decide) ⟨by omega, by omega⟩ (fun _ => ?_) (fun h => by exfalso; omega)
      have hx9 := b21 h1
      have hy9 := b21 h2
      refine z_aload_n (i := 0) C dX5_use_46 rfl rfl ?_
      refine z_iload_n (i := 2) C dX5_use_47 rfl rfl ?_
      refine z_callV (n := 1) (As := [.int (iI j0)]) (st := []) (fr := []) C hE (k_rused l D cI cZ cM cL r e1 e2 e3 e4 e5 e6 e7 e8 e9 e10 e11 e12 e13 e14 n L d sz mo 0 ND US KN AU LE SN KK AT LF PL HE TU MA CU j0 hn hz) gX5_use_X5_used rfl ⟨rfl, rfl⟩ (by decide +kernel) ⟨Nat.le_of_ble_eq_true rfl, Nat.le_of_ble_eq_true rfl⟩ rfl rfl (by rw [List.append_nil]) 0 rfl rfl rfl (Nat.le_of_ble_eq_true rfl) ⟨Nat.le_of_ble_eq_true rfl, Nat.le_of_ble_eq_true rfl⟩ dX5_use_48 (fun r w1 hpo => ?_)
      obtain ⟨rfl, rfl⟩ := hpo
      rw [List.append_nil]
      refine (show zG E Q (0) (0) [(r, .inr (5, [.ref e1, .int (iI (↑n)), .ref e2, .ref e3, .ref e4, .ref e5, .ref e6, .ref e7, .ref e8, .int (iI L), .int d, .ref e9, .ref e10, .ref e11, .ref e12, .ref e13, .int (iI sz), .int (iI mo), .ref e14, .int (iI 0)])), (e1, ar cI 8 ND), (e2, ai cI 8 AU), (e3, ai cI 8 LE), (e4, ai cI 8 SN), (e5, ar cI 8 US), (e6, ai cI 80 KK), (e7, ai cI 80 AT), (e8, ai cI 80 LF), (e9, ar cI 6 KN), (e10, ai cI 32 PL), (e11, ai cI 32 HE), (e12, ai cI 32 TU), (e13, ai cI 32 MA), (e14, ai cI 201 CU)] [some (.ref r), some (.int (iI i0)), some (.int (iI j0)), none] 51 [.int (mcB US j0)] from ?_)
      refine z_iload_n (i := 1) C dX5_use_51 rfl rfl ?_
      refine z_ishr C dX5_use_52 ?_
      refine z_iconst (v := iI 1) C dX5_use_53 rfl ?_
      refine z_iand C dX5_use_54 ?_
      refine z_iconst (v := iI 1) C dX5_use_55 rfl ?_
      refine z_icmp_ne (tgt := 66) C dX5_use_56 (by decide) (fun h3 => ?_) (fun h3 => ?_)
      · refine z_aload_n (i := 0) C dX5_use_66 rfl rfl ?_
        refine z_get (ci := 5) C (hi_X5_use_X5) 0 rfl rfl 5 (by decide) (by decide +kernel) rfl dX5_use_67 ?_
        refine z_iload_n (i := 1) C dX5_use_70 rfl rfl ?_
        refine z_iaload C 5 rfl (zT_of hE (t0 := 0) rfl) (by omega) (by omega) (by decide) dX5_use_71 ?_
        refine z_iload_n (i := 2) C dX5_use_72 rfl rfl ?_
        refine z_ishr C dX5_use_73 ?_
        refine z_iconst (v := iI 1) C dX5_use_74 rfl ?_
        refine z_iand C dX5_use_75 ?_
        refine z_if_ne (tgt := 83) C dX5_use_76 (by decide) (fun hv => ?_) (fun hv => ?_)
        · refine z_iconst (v := iI 0) C dX5_use_83 rfl ?_
          refine z_istore_n (i := 3) (lv' := [some (.ref r), some (.int (iI i0)), some (.int (iI j0)), some (.int (iI 0))]) C dX5_use_84 rfl rfl rfl ?_
          refine z_aload_n (i := 0) C dX5_use_85 rfl rfl ?_
          refine z_get (ci := 5) C (hi_X5_use_X5) 0 rfl rfl 5 (by decide) (by decide +kernel) rfl dX5_use_86 ?_
          refine z_iload_n (i := 1) C dX5_use_89 rfl rfl ?_
          refine z_dup2 C dX5_use_90 rfl rfl ?_
          refine z_iaload C 5 rfl (zT_of hE (t0 := 0) rfl) (by omega) (by omega) (by decide) dX5_use_91 ?_
          refine z_iconst (v := iI 1) C dX5_use_92 rfl ?_
          refine z_iload_n (i := 2) C dX5_use_93 rfl rfl ?_
          refine z_ishl C dX5_use_94 ?_
          refine z_ior C dX5_use_95 ?_
          refine z_iastore (ws' := [(r, .inr (5, [.ref e1, .int (iI (↑n)), .ref e2, .ref e3, .ref e4, .ref e5, .ref e6, .ref e7, .ref e8, .int (iI L), .int d, .ref e9, .ref e10, .ref e11, .ref e12, .ref e13, .int (iI sz), .int (iI mo), .ref e14, .int (iI 0)])), (e1, ar cI 8 ND), (e2, ai cI 8 AU), (e3, ai cI 8 LE), (e4, ai cI 8 SN), (e5, ar cI 8 (zup US i0 ((US i0) ||| ((iI 1) <<< ((iI j0) &&& 31))))), (e6, ai cI 80 KK), (e7, ai cI 80 AT), (e8, ai cI 80 LF), (e9, ar cI 6 KN), (e10, ai cI 32 PL), (e11, ai cI 32 HE), (e12, ai cI 32 TU), (e13, ai cI 32 MA), (e14, ai cI 201 CU)]) C 5 rfl (zT_of hE (t0 := 0) rfl) (by omega) (by omega) (by decide) rfl dX5_use_96 ?_
          refine z_iload_n (i := 3) C dX5_use_97 rfl rfl ?_
          have hc : cUS n US i0 j0 = 0 := by unfold cUS; rw [if_neg (by have := b21 h1; have := b21 h2; omega), if_neg (mt hb1.mpr h3)]
          exact z_zret C hR (by decide) dX5_use_98 (Nat.le_of_ble_eq_true rfl) (Nat.le_of_ble_eq_true rfl) (Or.inl ⟨hc, by first | rw [b2t (P := ¬ hb (US i0) (iI j0)) (fun q => q hv)] | rw [b2f (P := ¬ hb (US i0) (iI j0)) (fun q => q hv)], sz, mo, PL, HE, TU, MA, CU, rfl⟩)
        · refine z_iconst (v := iI 1) C dX5_use_79 rfl ?_
          refine z_goto (tgt := 84) C dX5_use_80 (by decide) ?_
          refine z_istore_n (i := 3) (lv' := [some (.ref r), some (.int (iI i0)), some (.int (iI j0)), some (.int (iI 1))]) C dX5_use_84 rfl rfl rfl ?_
          refine z_aload_n (i := 0) C dX5_use_85 rfl rfl ?_
          refine z_get (ci := 5) C (hi_X5_use_X5) 0 rfl rfl 5 (by decide) (by decide +kernel) rfl dX5_use_86 ?_
          refine z_iload_n (i := 1) C dX5_use_89 rfl rfl ?_
          refine z_dup2 C dX5_use_90 rfl rfl ?_
          refine z_iaload C 5 rfl (zT_of hE (t0 := 0) rfl) (by omega) (by omega) (by decide) dX5_use_91 ?_
          refine z_iconst (v := iI 1) C dX5_use_92 rfl ?_
          refine z_iload_n (i := 2) C dX5_use_93 rfl rfl ?_
          refine z_ishl C dX5_use_94 ?_
          refine z_ior C dX5_use_95 ?_
          refine z_iastore (ws' := [(r, .inr (5, [.ref e1, .int (iI (↑n)), .ref e2, .ref e3, .ref e4, .ref e5, .ref e6, .ref e7, .ref e8, .int (iI L), .int d, .ref e9, .ref e10, .ref e11, .ref e12, .ref e13, .int (iI sz), .int (iI mo), .ref e14, .int (iI 0)])), (e1, ar cI 8 ND), (e2, ai cI 8 AU), (e3, ai cI 8 LE), (e4, ai cI 8 SN), (e5, ar cI 8 (zup US i0 ((US i0) ||| ((iI 1) <<< ((iI j0) &&& 31))))), (e6, ai cI 80 KK), (e7, ai cI 80 AT), (e8, ai cI 80 LF), (e9, ar cI 6 KN), (e10, ai cI 32 PL), (e11, ai cI 32 HE), (e12, ai cI 32 TU), (e13, ai cI 32 MA), (e14, ai cI 201 CU)]) C 5 rfl (zT_of hE (t0 := 0) rfl) (by omega) (by omega) (by decide) rfl dX5_use_96 ?_
          refine z_iload_n (i := 3) C dX5_use_97 rfl rfl ?_
          have hc : cUS n US i0 j0 = 0 := by unfold cUS; rw [if_neg (by have := b21 h1; have := b21 h2; omega), if_neg (mt hb1.mpr h3)]
          exact z_zret C hR (by decide) dX5_use_98 (Nat.le_of_ble_eq_true rfl) (Nat.le_of_ble_eq_true rfl) (Or.inl ⟨hc, by first | rw [b2t (P := ¬ hb (US i0) (iI j0)) (fun q => q hv)] | rw [b2f (P := ¬ hb (US i0) (iI j0)) (fun q => q hv)], sz, mo, PL, HE, TU, MA, CU, rfl⟩)
      · refine z_aload_n (i := 0) C dX5_use_59 rfl rfl ?_
        refine z_iconst (v := iI 2) C dX5_use_60 rfl ?_
        refine z_put (ci := 5) (ws' := [(r, .inr (5, [.ref e1, .int (iI (↑n)), .ref e2, .ref e3, .ref e4, .ref e5, .ref e6, .ref e7, .ref e8, .int (iI L), .int d, .ref e9, .ref e10, .ref e11, .ref e12, .ref e13, .int (iI sz), .int (iI mo), .ref e14, .int (iI 2)])), (e1, ar cI 8 ND), (e2, ai cI 8 AU), (e3, ai cI 8 LE), (e4, ai cI 8 SN), (e5, ar cI 8 US), (e6, ai cI 80 KK), (e7, ai cI 80 AT), (e8, ai cI 80 LF), (e9, ar cI 6 KN), (e10, ai cI 32 PL), (e11, ai cI 32 HE), (e12, ai cI 32 TU), (e13, ai cI 32 MA), (e14, ai cI 201 CU)]) C (hi_X5_use_X5) tyX5_ok nmX5 0 rfl rfl 19 (by decide) (by decide +kernel) rfl (tyX5_ok 19 (by decide)) rfl rfl (Nat.le_of_ble_eq_true rfl) rfl dX5_use_61 ?_
        refine z_iconst (v := iI 0) C dX5_use_64 rfl ?_
        have hc : cUS n US i0 j0 = 2 := by unfold cUS; rw [if_neg (by have := b21 h1; have := b21 h2; omega), if_pos (hb1.mp h3)]
        exact z_zret C hR (by decide) dX5_use_65 (Nat.le_of_ble_eq_true rfl) (Nat.le_of_ble_eq_true rfl) (Or.inr ⟨by omega, rfl, sz, mo, PL, HE, TU, MA, CU, by rw [hc]⟩)
    · refine z_iconst (v := iI 1) C dX5_use_29 rfl ?_
      refine z_goto (tgt := 34) C dX5_use_30 (by decide) ?_
      refine z_put (ci := 5) (ws' := [(r, .inr (5, [.ref e1, .int (iI (↑n)), .ref e2, .ref e3, .ref e4, .ref e5, .ref e6, .ref e7, .ref e8, .int (iI L), .int d, .ref e9, .ref e10, .ref e11, .ref e12, .ref e13, .int (iI sz), .int (iI mo), .ref e14, .int (iI 1)])), (e1, ar cI 8 ND), (e2, ai cI 8 AU), (e3, ai cI 8 LE), (e4, ai cI 8 SN), (e5, ar cI 8 US), (e6, ai cI 80 KK), (e7, ai cI 80 AT), (e8, ai cI 80 LF), (e9, ar cI 6 KN), (e10, ai cI 32 PL), (e11, ai cI 32 HE), (e12, ai cI 32 TU), (e13, ai cI 32 MA), (e14, ai cI 201 CU)]) C (hi_X5_use_X5) tyX5_ok nmX5 0 rfl rfl 19 (by decide) (by decide +kernel) rfl (tyX5_ok 19 (by decide)) rfl rfl (Nat.le_of_ble_eq_true rfl) rfl dX5_use_34 ?_
      refine z_aload_n (i := 0) C dX5_use_37 rfl rfl ?_
      refine z_get (ci := 5) C (hi_X5_use_X5) 0 rfl rfl 19 (by decide) (by decide +kernel) rfl dX5_use_38 ?_
      refine z_if_leI (tgt := 46) C dX5_use_41 (by decide) ⟨by omega, by omega⟩ (fun h => by exfalso; omega) (fun _ => ?_)
      refine z_iconst (v := iI 0) C dX5_use_44 rfl ?_
      have hc : cUS n US i0 j0 = 1 := by unfold cUS; rw [if_pos (by first | (have := b20 h1; omega) | (have := b20 h2; omega))]
      exact z_zret C hR (by decide) dX5_use_45 (Nat.le_of_ble_eq_true rfl) (Nat.le_of_ble_eq_true rfl) (Or.inr ⟨by omega, rfl, sz, mo, PL, HE, TU, MA, CU, by rw [hc]⟩)
theorem hi_X5_setRoll_X5 : ∀ w ∈ wsX50, w ∈ wsX5_setRoll := by decide +kernel
set_option maxHeartbeats 1000000 in
set_option maxRecDepth 100000 in
theorem k_rsetRoll (l : Launch) (D : va_G) (cI cZ cM cL : ClassId) (r e1 e2 e3 e4 e5 e6 e7 e8 e9 e10 e11 e12 e13 e14 : Nat) (n : Nat) (L : Int) (d : Int32) (sz mo th : Int) (ND US KN : Int → Int32) (AU LE SN KK AT LF PL HE TU MA CU : Int → Int) (hg : rO n L US LE SN AT LF) (l0 w0 : Int) (hl0 : iR l0) (hw0 : iR w0) : zN l yX5_setRoll wsX5_setRoll { frames := 1, cells := 0, slots := 0, locals := 22 } D (zTy cI cZ cM cL) [.ref r, .int (iI l0), .int (iI w0)] (rfW cI r e1 e2 e3 e4 e5 e6 e7 e8 e9 e10 e11 e12 e13 e14 n L d sz mo th ND US KN AU LE SN KK AT LF PL HE TU MA CU) (fun r9 w => ((cSR l0 w0) = 0 ∧ r9 = some (.int (iI L)) ∧ (rQ cI r e1 e2 e3 e4 e5 e6 e7 e8 e9 e10 e11 e12 e13 e14 n l0 (iI w0) 0 ND US KN AU LE SN KK AT LF w)) ∨ (¬ (cSR l0 w0) = 0 ∧ r9 = some (.int (iI 0)) ∧ (rQ cI r e1 e2 e3 e4 e5 e6 e7 e8 e9 e10 e11 e12 e13 e14 n L d (cSR l0 w0) ND US KN AU LE SN KK AT LF w))) 0 0 := by
  refine zN_of (cc := cX5_setRoll) (maxL := 4) (lv0 := [some (.ref r), some (.int (iI l0)), some (.int (iI w0)), none]) (by decide) rfl rfl (Nat.le_of_ble_eq_true rfl) rfl ?_
  intro E Q C hE hR hI0
  obtain ⟨hn, hz, hL, hm⟩ := hg
  refine (show zG E Q 0 0 [(r, .inr (5, [.ref e1, .int (iI (↑n)), .ref e2, .ref e3, .ref e4, .ref e5, .ref e6, .ref e7, .ref e8, .int (iI L), .int d, .ref e9, .ref e10, .ref e11, .ref e12, .ref e13, .int (iI sz), .int (iI mo), .ref e14, .int (iI th)])), (e1, ar cI 8 ND), (e2, ai cI 8 AU), (e3, ai cI 8 LE), (e4, ai cI 8 SN), (e5, ar cI 8 US), (e6, ai cI 80 KK), (e7, ai cI 80 AT), (e8, ai cI 80 LF), (e9, ar cI 6 KN), (e10, ai cI 32 PL), (e11, ai cI 32 HE), (e12, ai cI 32 TU), (e13, ai cI 32 MA), (e14, ai cI 201 CU)] [some (.ref r), some (.int (iI l0)), some (.int (iI w0)), none] 0 [] from ?_)
  refine z_aload_n (i := 0) C dX5_setRoll_0 rfl rfl ?_
  refine z_iload_n (i := 1) C dX5_setRoll_1 rfl rfl ?_
  refine z_iconst (v := iI 0) C dX5_setRoll_2 rfl ?_
  refine z_sipush (v := iI 200) C dX5_setRoll_3 (by decide) ?_
  refine z_callS (n := 3) (As := [.int (iI l0), .int (iI 0), .int (iI 200)]) (st := [.ref r]) (fr := [(r, .inr (5, [.ref e1, .int (iI (↑n)), .ref e2, .ref e3, .ref e4, .ref e5, .ref e6, .ref e7, .ref e8, .int (iI L), .int d, .ref e9, .ref e10, .ref e11, .ref e12, .ref e13, .int (iI sz), .int (iI mo), .ref e14, .int (iI th)])), (e1, ar cI 8 ND), (e2, ai cI 8 AU), (e3, ai cI 8 LE), (e4, ai cI 8 SN), (e5, ar cI 8 US), (e6, ai cI 80 KK), (e7, ai cI 80 AT), (e8, ai cI 80 LF), (e9, ar cI 6 KN), (e10, ai cI 32 PL), (e11, ai cI 32 HE), (e12, ai cI 32 TU), (e13, ai cI 32 MA), (e14, ai cI 201 CU)]) C hE (k_rin l D cI cZ cM cL l0 0 200 hl0 ⟨by omega, by omega⟩ ⟨by omega, by omega⟩) gX5_setRoll_X5_in rfl ⟨rfl, rfl⟩ (by decide +kernel) ⟨Nat.le_of_ble_eq_true rfl, Nat.le_of_ble_eq_true rfl⟩ rfl rfl (List.Perm.refl _) (Nat.le_of_ble_eq_true rfl) ⟨Nat.le_of_ble_eq_true rfl, Nat.le_of_ble_eq_true rfl⟩ dX5_setRoll_6 (fun r w1 hpo => ?_)
  obtain ⟨rfl, rfl⟩ := hpo
  have hb9 := b2r (0 ≤ l0 ∧ l0 ≤ 200)
  refine (show zG E Q (0) (0) [(r, .inr (5, [.ref e1, .int (iI (↑n)), .ref e2, .ref e3, .ref e4, .ref e5, .ref e6, .ref e7, .ref e8, .int (iI L), .int d, .ref e9, .ref e10, .ref e11, .ref e12, .ref e13, .int (iI sz), .int (iI mo), .ref e14, .int (iI th)])), (e1, ar cI 8 ND), (e2, ai cI 8 AU), (e3, ai cI 8 LE), (e4, ai cI 8 SN), (e5, ar cI 8 US), (e6, ai cI 80 KK), (e7, ai cI 80 AT), (e8, ai cI 80 LF), (e9, ar cI 6 KN), (e10, ai cI 32 PL), (e11, ai cI 32 HE), (e12, ai cI 32 TU), (e13, ai cI 32 MA), (e14, ai cI 201 CU)] [some (.ref r), some (.int (iI l0)), some (.int (iI w0)), none] 9 [.int (iI (b2 (0 ≤ l0 ∧ l0 ≤ 200))), .ref r] from ?_)
  refine z_if_eqI (tgt := 26) C dX5_setRoll_9 (by decide) ⟨by omega, by omega⟩ (fun h1 => ?_) (fun h1 => ?_)
  · refine z_iconst (v := iI 1) C dX5_setRoll_26 rfl ?_
    refine z_put (ci := 5) (ws' := [(r, .inr (5, [.ref e1, .int (iI (↑n)), .ref e2, .ref e3, .ref e4, .ref e5, .ref e6, .ref e7, .ref e8, .int (iI L), .int d, .ref e9, .ref e10, .ref e11, .ref e12, .ref e13, .int (iI sz), .int (iI mo), .ref e14, .int (iI 1)])), (e1, ar cI 8 ND), (e2, ai cI 8 AU), (e3, ai cI 8 LE), (e4, ai cI 8 SN), (e5, ar cI 8 US), (e6, ai cI 80 KK), (e7, ai cI 80 AT), (e8, ai cI 80 LF), (e9, ar cI 6 KN), (e10, ai cI 32 PL), (e11, ai cI 32 HE), (e12, ai cI 32 TU), (e13, ai cI 32 MA), (e14, ai cI 201 CU)]) C (hi_X5_setRoll_X5) tyX5_ok nmX5 0 rfl rfl 19 (by decide) (by decide +kernel) rfl (tyX5_ok 19 (by decide)) rfl rfl (Nat.le_of_ble_eq_true rfl) rfl dX5_setRoll_27 ?_
    refine z_aload_n (i := 0) C dX5_setRoll_30 rfl rfl ?_
    refine z_get (ci := 5) C (hi_X5_setRoll_X5) 0 rfl rfl 19 (by decide) (by decide +kernel) rfl dX5_setRoll_31 ?_
    refine z_if_leI (tgt := 39) C dX5_setRoll_34 (by decide) ⟨by omega, by omega⟩ (fun h => by exfalso; omega) (fun _ => ?_)
    refine z_iconst (v := iI 0) C dX5_setRoll_37 rfl ?_
    have hc : cSR l0 w0 = 1 := by unfold cSR; rw [if_pos (by first | (have := b20 h1; omega) | (have := b20 h2; omega))]
    exact z_iret C hR dX5_setRoll_38 (Nat.le_of_ble_eq_true rfl) (Nat.le_of_ble_eq_true rfl) (Or.inr ⟨by omega, rfl, sz, mo, PL, HE, TU, MA, CU, by rw [hc]⟩)
  · refine z_iload_n (i := 2) C dX5_setRoll_12 rfl rfl ?_
    refine z_iconst (v := iI 0) C dX5_setRoll_13 rfl ?_
    refine z_ldc (v := iI 1048575) C dX5_setRoll_14 (by decide +kernel) ?_
    refine z_callS (n := 3) (As := [.int (iI w0), .int (iI 0), .int (iI 1048575)]) (st := [.ref r]) (fr := [(r, .inr (5, [.ref e1, .int (iI (↑n)), .ref e2, .ref e3, .ref e4, .ref e5, .ref e6, .ref e7, .ref e8, .int (iI L), .int d, .ref e9, .ref e10, .ref e11, .ref e12, .ref e13, .int (iI sz), .int (iI mo), .ref e14, .int (iI th)])), (e1, ar cI 8 ND), (e2, ai cI 8 AU), (e3, ai cI 8 LE), (e4, ai cI 8 SN), (e5, ar cI 8 US), (e6, ai cI 80 KK), (e7, ai cI 80 AT), (e8, ai cI 80 LF), (e9, ar cI 6 KN), (e10, ai cI 32 PL), (e11, ai cI 32 HE), (e12, ai cI 32 TU), (e13, ai cI 32 MA), (e14, ai cI 201 CU)]) C hE (k_rin l D cI cZ cM cL w0 0 1048575 hw0 ⟨by omega, by omega⟩ ⟨by omega, by omega⟩) gX5_setRoll_X5_in rfl ⟨rfl, rfl⟩ (by decide +kernel) ⟨Nat.le_of_ble_eq_true rfl, Nat.le_of_ble_eq_true rfl⟩ rfl rfl (List.Perm.refl _) (Nat.le_of_ble_eq_true rfl) ⟨Nat.le_of_ble_eq_true rfl, Nat.le_of_ble_eq_true rfl⟩ dX5_setRoll_16 (fun r w1 hpo => ?_)
    obtain ⟨rfl, rfl⟩ := hpo
    have hb8 := b2r (0 ≤ w0 ∧ w0 ≤ 1048575)
    refine (show zG E Q (0) (0) [(r, .inr (5, [.ref e1, .int (iI (↑n)), .ref e2, .ref e3, .ref e4, .ref e5, .ref e6, .ref e7, .ref e8, .int (iI L), .int d, .ref e9, .ref e10, .ref e11, .ref e12, .ref e13, .int (iI sz), .int (iI mo), .ref e14, .int (iI th)])), (e1, ar cI 8 ND), (e2, ai cI 8 AU), (e3, ai cI 8 LE), (e4, ai cI 8 SN), (e5, ar cI 8 US), (e6, ai cI 80 KK), (e7, ai cI 80 AT), (e8, ai cI 80 LF), (e9, ar cI 6 KN), (e10, ai cI 32 PL), (e11, ai cI 32 HE), (e12, ai cI 32 TU), (e13, ai cI 32 MA), (e14, ai cI 201 CU)] [some (.ref r), some (.int (iI l0)), some (.int (iI w0)), none] 19 [.int (iI (b2 (0 ≤ w0 ∧ w0 ≤ 1048575))), .ref r] from ?_)
    refine z_if_eqI (tgt := 26) C dX5_setRoll_19 (by decide) ⟨by omega, by omega⟩ (fun h2 => ?_) (fun h2 => ?_)
    · refine z_iconst (v := iI 1) C dX5_setRoll_26 rfl ?_
      refine z_put (ci := 5) (ws' := [(r, .inr (5, [.ref e1, .int (iI (↑n)), .ref e2, .ref e3, .ref e4, .ref e5, .ref e6, .ref e7, .ref e8, .int (iI L), .int d, .ref e9, .ref e10, .ref e11, .ref e12, .ref e13, .int (iI sz), .int (iI mo), .ref e14, .int (iI 1)])), (e1, ar cI 8 ND), (e2, ai cI 8 AU), (e3, ai cI 8 LE), (e4, ai cI 8 SN), (e5, ar cI 8 US), (e6, ai cI 80 KK), (e7, ai cI 80 AT), (e8, ai cI 80 LF), (e9, ar cI 6 KN), (e10, ai cI 32 PL), (e11, ai cI 32 HE), (e12, ai cI 32 TU), (e13, ai cI 32 MA), (e14, ai cI 201 CU)]) C (hi_X5_setRoll_X5) tyX5_ok nmX5 0 rfl rfl 19 (by decide) (by decide +kernel) rfl (tyX5_ok 19 (by decide)) rfl rfl (Nat.le_of_ble_eq_true rfl) rfl dX5_setRoll_27 ?_
      refine z_aload_n (i := 0) C dX5_setRoll_30 rfl rfl ?_
      refine z_get (ci := 5) C (hi_X5_setRoll_X5) 0 rfl rfl 19 (by decide) (by decide +kernel) rfl dX5_setRoll_31 ?_
      refine z_if_leI (tgt := 39) C dX5_setRoll_34 (by decide) ⟨by omega, by omega⟩ (fun h => by exfalso; omega) (fun _ => ?_)
      refine z_iconst (v := iI 0) C dX5_setRoll_37 rfl ?_
      have hc : cSR l0 w0 = 1 := by unfold cSR; rw [if_pos (by first | (have := b20 h1; omega) | (have := b20 h2; omega))]
      exact z_iret C hR dX5_setRoll_38 (Nat.le_of_ble_eq_true rfl) (Nat.le_of_ble_eq_true rfl) (Or.inr ⟨by omega, rfl, sz, mo, PL, HE, TU, MA, CU, by rw [hc]⟩)
    · refine z_iconst (v := iI 0) C dX5_setRoll_22 rfl ?_
      refine z_goto (tgt := 27) C dX5_setRoll_23 (by decide) ?_
      refine z_put (ci := 5) (ws' := [(r, .inr (5, [.ref e1, .int (iI (↑n)), .ref e2, .ref e3, .ref e4, .ref e5, .ref e6, .ref e7, .ref e8, .int (iI L), .int d, .ref e9, .ref e10, .ref e11, .ref e12, .ref e13, .int (iI sz), .int (iI mo), .ref e14, .int (iI 0)])), (e1, ar cI 8 ND), (e2, ai cI 8 AU), (e3, ai cI 8 LE), (e4, ai cI 8 SN), (e5, ar cI 8 US), (e6, ai cI 80 KK), (e7, ai cI 80 AT), (e8, ai cI 80 LF), (e9, ar cI 6 KN), (e10, ai cI 32 PL), (e11, ai cI 32 HE), (e12, ai cI 32 TU), (e13, ai cI 32 MA), (e14, ai cI 201 CU)]) C (hi_X5_setRoll_X5) tyX5_ok nmX5 0 rfl rfl 19 (by decide) (by decide +kernel) rfl (tyX5_ok 19 (by decide)) rfl rfl (Nat.le_of_ble_eq_true rfl) rfl dX5_setRoll_27 ?_
      refine z_aload_n (i := 0) C dX5_setRoll_30 rfl rfl ?_
      refine z_get (ci := 5) C (hi_X5_setRoll_X5) 0 rfl rfl 19 (by decide) (by decide +kernel) rfl dX5_setRoll_31 ?_
      refine z_if_leI (tgt := 39) C dX5_setRoll_34 (by decide) ⟨by omega, by omega⟩ (fun _ => ?_) (fun h => by exfalso; omega)
      refine z_aload_n (i := 0) C dX5_setRoll_39 rfl rfl ?_
      refine z_get (ci := 5) C (hi_X5_setRoll_X5) 0 rfl rfl 9 (by decide) (by decide +kernel) rfl dX5_setRoll_40 ?_
      refine z_istore_n (i := 3) (lv' := [some (.ref r), some (.int (iI l0)), some (.int (iI w0)), some (.int (iI L))]) C dX5_setRoll_43 rfl rfl rfl ?_
      refine z_aload_n (i := 0) C dX5_setRoll_44 rfl rfl ?_
      refine z_iload_n (i := 1) C dX5_setRoll_45 rfl rfl ?_
      refine z_put (ci := 5) (ws' := [(r, .inr (5, [.ref e1, .int (iI (↑n)), .ref e2, .ref e3, .ref e4, .ref e5, .ref e6, .ref e7, .ref e8, .int (iI l0), .int d, .ref e9, .ref e10, .ref e11, .ref e12, .ref e13, .int (iI sz), .int (iI mo), .ref e14, .int (iI 0)])), (e1, ar cI 8 ND), (e2, ai cI 8 AU), (e3, ai cI 8 LE), (e4, ai cI 8 SN), (e5, ar cI 8 US), (e6, ai cI 80 KK), (e7, ai cI 80 AT), (e8, ai cI 80 LF), (e9, ar cI 6 KN), (e10, ai cI 32 PL), (e11, ai cI 32 HE), (e12, ai cI 32 TU), (e13, ai cI 32 MA), (e14, ai cI 201 CU)]) C (hi_X5_setRoll_X5) tyX5_ok nmX5 0 rfl rfl 9 (by decide) (by decide +kernel) rfl (tyX5_ok 9 (by decide)) rfl rfl (Nat.le_of_ble_eq_true rfl) rfl dX5_setRoll_46 ?_
      refine z_aload_n (i := 0) C dX5_setRoll_49 rfl rfl ?_
      refine z_iload_n (i := 2) C dX5_setRoll_50 rfl rfl ?_
      refine z_put (ci := 5) (ws' := [(r, .inr (5, [.ref e1, .int (iI (↑n)), .ref e2, .ref e3, .ref e4, .ref e5, .ref e6, .ref e7, .ref e8, .int (iI l0), .int (iI w0), .ref e9, .ref e10, .ref e11, .ref e12, .ref e13, .int (iI sz), .int (iI mo), .ref e14, .int (iI 0)])), (e1, ar cI 8 ND), (e2, ai cI 8 AU), (e3, ai cI 8 LE), (e4, ai cI 8 SN), (e5, ar cI 8 US), (e6, ai cI 80 KK), (e7, ai cI 80 AT), (e8, ai cI 80 LF), (e9, ar cI 6 KN), (e10, ai cI 32 PL), (e11, ai cI 32 HE), (e12, ai cI 32 TU), (e13, ai cI 32 MA), (e14, ai cI 201 CU)]) C (hi_X5_setRoll_X5) tyX5_ok nmX5 0 rfl rfl 10 (by decide) (by decide +kernel) rfl (tyX5_ok 10 (by decide)) rfl rfl (Nat.le_of_ble_eq_true rfl) rfl dX5_setRoll_51 ?_
      refine z_iload_n (i := 3) C dX5_setRoll_54 rfl rfl ?_
      have hc : cSR l0 w0 = 0 := by unfold cSR; rw [if_neg (by have := b21 h1; have := b21 h2; omega)]
      exact z_iret C hR dX5_setRoll_55 (Nat.le_of_ble_eq_true rfl) (Nat.le_of_ble_eq_true rfl) (Or.inl ⟨hc, rfl, sz, mo, PL, HE, TU, MA, CU, rfl⟩)
theorem hi_X5_teach_X5 : ∀ w ∈ wsX50, w ∈ wsX5_teach := by decide +kernel
set_option maxHeartbeats 1000000 in
set_option maxRecDepth 100000 in
theorem k_rteach (l : Launch) (D : va_G) (cI cZ cM cL : ClassId) (r e1 e2 e3 e4 e5 e6 e7 e8 e9 e10 e11 e12 e13 e14 : Nat) (n : Nat) (L : Int) (d : Int32) (sz mo th : Int) (ND US KN : Int → Int32) (AU LE SN KK AT LF PL HE TU MA CU : Int → Int) (hg : rO n L US LE SN AT LF) (p0 k0 : Int) (hp0 : iR p0) (hk0 : iR k0) : zN l yX5_teach wsX5_teach { frames := 1, cells := 0, slots := 0, locals := 22 } D (zTy cI cZ cM cL) [.ref r, .int (iI p0), .int (iI k0)] (rfW cI r e1 e2 e3 e4 e5 e6 e7 e8 e9 e10 e11 e12 e13 e14 n L d sz mo th ND US KN AU LE SN KK AT LF PL HE TU MA CU) (fun r9 w => ((cTE ND KN p0 k0) = 0 ∧ r9 = some (.int (bts (KN p0 ||| (iI 1 <<< (iI k0 &&& 31))) 8)) ∧ (rQ cI r e1 e2 e3 e4 e5 e6 e7 e8 e9 e10 e11 e12 e13 e14 n L d 0 ND US (zup KN p0 (KN p0 ||| (iI 1 <<< (iI k0 &&& 31)))) AU LE SN KK AT LF w)) ∨ (¬ (cTE ND KN p0 k0) = 0 ∧ r9 = some (.int (iI 0)) ∧ (rQ cI r e1 e2 e3 e4 e5 e6 e7 e8 e9 e10 e11 e12 e13 e14 n L d (cTE ND KN p0 k0) ND US KN AU LE SN KK AT LF w))) 0 0 := by
  refine zN_of (cc := cX5_teach) (maxL := 3) (lv0 := [some (.ref r), some (.int (iI p0)), some (.int (iI k0))]) (by decide) rfl rfl (Nat.le_of_ble_eq_true rfl) rfl ?_
  intro E Q C hE hR hI0
  obtain ⟨hn, hz, hL, hm⟩ := hg
  refine (show zG E Q 0 0 [(r, .inr (5, [.ref e1, .int (iI (↑n)), .ref e2, .ref e3, .ref e4, .ref e5, .ref e6, .ref e7, .ref e8, .int (iI L), .int d, .ref e9, .ref e10, .ref e11, .ref e12, .ref e13, .int (iI sz), .int (iI mo), .ref e14, .int (iI th)])), (e1, ar cI 8 ND), (e2, ai cI 8 AU), (e3, ai cI 8 LE), (e4, ai cI 8 SN), (e5, ar cI 8 US), (e6, ai cI 80 KK), (e7, ai cI 80 AT), (e8, ai cI 80 LF), (e9, ar cI 6 KN), (e10, ai cI 32 PL), (e11, ai cI 32 HE), (e12, ai cI 32 TU), (e13, ai cI 32 MA), (e14, ai cI 201 CU)] [some (.ref r), some (.int (iI p0)), some (.int (iI k0))] 0 [] from ?_)
  refine z_aload_n (i := 0) C dX5_teach_0 rfl rfl ?_
  refine z_iload_n (i := 1) C dX5_teach_1 rfl rfl ?_
  refine z_iconst (v := iI 0) C dX5_teach_2 rfl ?_
  refine z_iconst (v := iI 5) C dX5_teach_3 rfl ?_
  refine z_callS (n := 3) (As := [.int (iI p0), .int (iI 0), .int (iI 5)]) (st := [.ref r]) (fr := [(r, .inr (5, [.ref e1, .int (iI (↑n)), .ref e2, .ref e3, .ref e4, .ref e5, .ref e6, .ref e7, .ref e8, .int (iI L), .int d, .ref e9, .ref e10, .ref e11, .ref e12, .ref e13, .int (iI sz), .int (iI mo), .ref e14, .int (iI th)])), (e1, ar cI 8 ND), (e2, ai cI 8 AU), (e3, ai cI 8 LE), (e4, ai cI 8 SN), (e5, ar cI 8 US), (e6, ai cI 80 KK), (e7, ai cI 80 AT), (e8, ai cI 80 LF), (e9, ar cI 6 KN), (e10, ai cI 32 PL), (e11, ai cI 32 HE), (e12, ai cI 32 TU), (e13, ai cI 32 MA), (e14, ai cI 201 CU)]) C hE (k_rin l D cI cZ cM cL p0 0 5 hp0 ⟨by omega, by omega⟩ ⟨by omega, by omega⟩) gX5_teach_X5_in rfl ⟨rfl, rfl⟩ (by decide +kernel) ⟨Nat.le_of_ble_eq_true rfl, Nat.le_of_ble_eq_true rfl⟩ rfl rfl (List.Perm.refl _) (Nat.le_of_ble_eq_true rfl) ⟨Nat.le_of_ble_eq_true rfl, Nat.le_of_ble_eq_true rfl⟩ dX5_teach_4 (fun r w1 hpo => ?_)
  obtain ⟨rfl, rfl⟩ := hpo
  have hb9 := b2r (0 ≤ p0 ∧ p0 ≤ 5)
  refine (show zG E Q (0) (0) [(r, .inr (5, [.ref e1, .int (iI (↑n)), .ref e2, .ref e3, .ref e4, .ref e5, .ref e6, .ref e7, .ref e8, .int (iI L), .int d, .ref e9, .ref e10, .ref e11, .ref e12, .ref e13, .int (iI sz), .int (iI mo), .ref e14, .int (iI th)])), (e1, ar cI 8 ND), (e2, ai cI 8 AU), (e3, ai cI 8 LE), (e4, ai cI 8 SN), (e5, ar cI 8 US), (e6, ai cI 80 KK), (e7, ai cI 80 AT), (e8, ai cI 80 LF), (e9, ar cI 6 KN), (e10, ai cI 32 PL), (e11, ai cI 32 HE), (e12, ai cI 32 TU), (e13, ai cI 32 MA), (e14, ai cI 201 CU)] [some (.ref r), some (.int (iI p0)), some (.int (iI k0))] 7 [.int (iI (b2 (0 ≤ p0 ∧ p0 ≤ 5))), .ref r] from ?_)
  refine z_if_eqI (tgt := 20) C dX5_teach_7 (by decide) ⟨by omega, by omega⟩ (fun h1 => ?_) (fun h1 => ?_)
  · refine z_iconst (v := iI 1) C dX5_teach_20 rfl ?_
    refine z_goto (tgt := 47) C dX5_teach_21 (by decide) ?_
    refine z_put (ci := 5) (ws' := [(r, .inr (5, [.ref e1, .int (iI (↑n)), .ref e2, .ref e3, .ref e4, .ref e5, .ref e6, .ref e7, .ref e8, .int (iI L), .int d, .ref e9, .ref e10, .ref e11, .ref e12, .ref e13, .int (iI sz), .int (iI mo), .ref e14, .int (iI 1)])), (e1, ar cI 8 ND), (e2, ai cI 8 AU), (e3, ai cI 8 LE), (e4, ai cI 8 SN), (e5, ar cI 8 US), (e6, ai cI 80 KK), (e7, ai cI 80 AT), (e8, ai cI 80 LF), (e9, ar cI 6 KN), (e10, ai cI 32 PL), (e11, ai cI 32 HE), (e12, ai cI 32 TU), (e13, ai cI 32 MA), (e14, ai cI 201 CU)]) C (hi_X5_teach_X5) tyX5_ok nmX5 0 rfl rfl 19 (by decide) (by decide +kernel) rfl (tyX5_ok 19 (by decide)) rfl rfl (Nat.le_of_ble_eq_true rfl) rfl dX5_teach_47 ?_
    refine z_aload_n (i := 0) C dX5_teach_50 rfl rfl ?_
    refine z_get (ci := 5) C (hi_X5_teach_X5) 0 rfl rfl 19 (by decide) (by decide +kernel) rfl dX5_teach_51 ?_
    refine z_if_leI (tgt := 59) C dX5_teach_54 (by decide) ⟨by omega, by omega⟩ (fun h => by exfalso; omega) (fun _ => ?_)
    refine z_iconst (v := iI 0) C dX5_teach_57 rfl ?_
    have hc : cTE ND KN p0 k0 = 1 := by unfold cTE; rw [if_pos (by first | (have := b20 h1; omega) | (have := b20 h2; omega))]
    exact z_iret C hR dX5_teach_58 (Nat.le_of_ble_eq_true rfl) (Nat.le_of_ble_eq_true rfl) (Or.inr ⟨by omega, rfl, sz, mo, PL, HE, TU, MA, CU, by rw [hc]⟩)
  · refine z_iload_n (i := 2) C dX5_teach_10 rfl rfl ?_
    refine z_iconst (v := iI 0) C dX5_teach_11 rfl ?_
    refine z_bipush (v := iI 7) C dX5_teach_12 (by decide) ?_
    refine z_callS (n := 3) (As := [.int (iI k0), .int (iI 0), .int (iI 7)]) (st := [.ref r]) (fr := [(r, .inr (5, [.ref e1, .int (iI (↑n)), .ref e2, .ref e3, .ref e4, .ref e5, .ref e6, .ref e7, .ref e8, .int (iI L), .int d, .ref e9, .ref e10, .ref e11, .ref e12, .ref e13, .int (iI sz), .int (iI mo), .ref e14, .int (iI th)])), (e1, ar cI 8 ND), (e2, ai cI 8 AU), (e3, ai cI 8 LE), (e4, ai cI 8 SN), (e5, ar cI 8 US), (e6, ai cI 80 KK), (e7, ai cI 80 AT), (e8, ai cI 80 LF), (e9, ar cI 6 KN), (e10, ai cI 32 PL), (e11, ai cI 32 HE), (e12, ai cI 32 TU), (e13, ai cI 32 MA), (e14, ai cI 201 CU)]) C hE (k_rin l D cI cZ cM cL k0 0 7 hk0 ⟨by omega, by omega⟩ ⟨by omega, by omega⟩) gX5_teach_X5_in rfl ⟨rfl, rfl⟩ (by decide +kernel) ⟨Nat.le_of_ble_eq_true rfl, Nat.le_of_ble_eq_true rfl⟩ rfl rfl (List.Perm.refl _) (Nat.le_of_ble_eq_true rfl) ⟨Nat.le_of_ble_eq_true rfl, Nat.le_of_ble_eq_true rfl⟩ dX5_teach_14 (fun r w1 hpo => ?_)
    obtain ⟨rfl, rfl⟩ := hpo
    have hb8 := b2r (0 ≤ k0 ∧ k0 ≤ 7)
    refine (show zG E Q (0) (0) [(r, .inr (5, [.ref e1, .int (iI (↑n)), .ref e2, .ref e3, .ref e4, .ref e5, .ref e6, .ref e7, .ref e8, .int (iI L), .int d, .ref e9, .ref e10, .ref e11, .ref e12, .ref e13, .int (iI sz), .int (iI mo), .ref e14, .int (iI th)])), (e1, ar cI 8 ND), (e2, ai cI 8 AU), (e3, ai cI 8 LE), (e4, ai cI 8 SN), (e5, ar cI 8 US), (e6, ai cI 80 KK), (e7, ai cI 80 AT), (e8, ai cI 80 LF), (e9, ar cI 6 KN), (e10, ai cI 32 PL), (e11, ai cI 32 HE), (e12, ai cI 32 TU), (e13, ai cI 32 MA), (e14, ai cI 201 CU)] [some (.ref r), some (.int (iI p0)), some (.int (iI k0))] 17 [.int (iI (b2 (0 ≤ k0 ∧ k0 ≤ 7))), .ref r] from ?_)
    refine z_if_neI (tgt := 24) C dX5_teach_17 (by decide) ⟨by omega, by omega⟩ (fun h2 => ?_) (fun h2 => ?_)
    · have hx9 := b21 h1
      have hy9 := b21 h2
      refine z_aload_n (i := 0) C dX5_teach_24 rfl rfl ?_
      refine z_get (ci := 5) C (hi_X5_teach_X5) 0 rfl rfl 0 (by decide) (by decide +kernel) rfl dX5_teach_25 ?_
      refine z_iload_n (i := 2) C dX5_teach_28 rfl rfl ?_
      refine z_iaload C 1 rfl (zT_of hE (t0 := 0) rfl) (by omega) (by omega) (by decide) dX5_teach_29 ?_
      refine z_aload_n (i := 0) C dX5_teach_30 rfl rfl ?_
      refine z_get (ci := 5) C (hi_X5_teach_X5) 0 rfl rfl 11 (by decide) (by decide +kernel) rfl dX5_teach_31 ?_
      refine z_iload_n (i := 1) C dX5_teach_34 rfl rfl ?_
      refine z_iaload C 9 rfl (zT_of hE (t0 := 0) rfl) (by omega) (by omega) (by decide) dX5_teach_35 ?_
      refine z_iconst (v := iI (-1)) C dX5_teach_36 rfl ?_
      refine z_ixor C dX5_teach_37 ?_
      refine z_iand C dX5_teach_38 ?_
      refine z_if_eq (tgt := 46) C dX5_teach_39 (by decide) (fun hv => ?_) (fun hv => ?_)
      · refine z_iconst (v := iI 0) C dX5_teach_46 rfl ?_
        refine z_put (ci := 5) (ws' := [(r, .inr (5, [.ref e1, .int (iI (↑n)), .ref e2, .ref e3, .ref e4, .ref e5, .ref e6, .ref e7, .ref e8, .int (iI L), .int d, .ref e9, .ref e10, .ref e11, .ref e12, .ref e13, .int (iI sz), .int (iI mo), .ref e14, .int (iI 0)])), (e1, ar cI 8 ND), (e2, ai cI 8 AU), (e3, ai cI 8 LE), (e4, ai cI 8 SN), (e5, ar cI 8 US), (e6, ai cI 80 KK), (e7, ai cI 80 AT), (e8, ai cI 80 LF), (e9, ar cI 6 KN), (e10, ai cI 32 PL), (e11, ai cI 32 HE), (e12, ai cI 32 TU), (e13, ai cI 32 MA), (e14, ai cI 201 CU)]) C (hi_X5_teach_X5) tyX5_ok nmX5 0 rfl rfl 19 (by decide) (by decide +kernel) rfl (tyX5_ok 19 (by decide)) rfl rfl (Nat.le_of_ble_eq_true rfl) rfl dX5_teach_47 ?_
        refine z_aload_n (i := 0) C dX5_teach_50 rfl rfl ?_
        refine z_get (ci := 5) C (hi_X5_teach_X5) 0 rfl rfl 19 (by decide) (by decide +kernel) rfl dX5_teach_51 ?_
        refine z_if_leI (tgt := 59) C dX5_teach_54 (by decide) ⟨by omega, by omega⟩ (fun _ => ?_) (fun h => by exfalso; omega)
        refine z_aload_n (i := 0) C dX5_teach_59 rfl rfl ?_
        refine z_get (ci := 5) C (hi_X5_teach_X5) 0 rfl rfl 11 (by decide) (by decide +kernel) rfl dX5_teach_60 ?_
        refine z_iload_n (i := 1) C dX5_teach_63 rfl rfl ?_
        refine z_dup2 C dX5_teach_64 rfl rfl ?_
        refine z_iaload C 9 rfl (zT_of hE (t0 := 0) rfl) (by omega) (by omega) (by decide) dX5_teach_65 ?_
        refine z_iconst (v := iI 1) C dX5_teach_66 rfl ?_
        refine z_iload_n (i := 2) C dX5_teach_67 rfl rfl ?_
        refine z_ishl C dX5_teach_68 ?_
        refine z_ior C dX5_teach_69 ?_
        refine z_iastore (ws' := [(r, .inr (5, [.ref e1, .int (iI (↑n)), .ref e2, .ref e3, .ref e4, .ref e5, .ref e6, .ref e7, .ref e8, .int (iI L), .int d, .ref e9, .ref e10, .ref e11, .ref e12, .ref e13, .int (iI sz), .int (iI mo), .ref e14, .int (iI 0)])), (e1, ar cI 8 ND), (e2, ai cI 8 AU), (e3, ai cI 8 LE), (e4, ai cI 8 SN), (e5, ar cI 8 US), (e6, ai cI 80 KK), (e7, ai cI 80 AT), (e8, ai cI 80 LF), (e9, ar cI 6 (zup KN p0 ((KN p0) ||| ((iI 1) <<< ((iI k0) &&& 31))))), (e10, ai cI 32 PL), (e11, ai cI 32 HE), (e12, ai cI 32 TU), (e13, ai cI 32 MA), (e14, ai cI 201 CU)]) C 9 rfl (zT_of hE (t0 := 0) rfl) (by omega) (by omega) (by decide) rfl dX5_teach_70 ?_
        refine z_aload_n (i := 0) C dX5_teach_71 rfl rfl ?_
        refine z_get (ci := 5) C (hi_X5_teach_X5) 0 rfl rfl 11 (by decide) (by decide +kernel) rfl dX5_teach_72 ?_
        refine z_iload_n (i := 1) C dX5_teach_75 rfl rfl ?_
        refine z_iaload C 9 rfl (zT_of hE (t0 := 0) rfl) (by omega) (by omega) (by decide) dX5_teach_76 ?_
        refine z_top (y := KN p0 ||| (iI 1 <<< (iI k0 &&& 31))) (zup_self _ _ _) ?_
        refine z_callS (n := 1) (As := [.int (KN p0 ||| (iI 1 <<< (iI k0 &&& 31)))]) (st := []) (fr := [(r, .inr (5, [.ref e1, .int (iI (↑n)), .ref e2, .ref e3, .ref e4, .ref e5, .ref e6, .ref e7, .ref e8, .int (iI L), .int d, .ref e9, .ref e10, .ref e11, .ref e12, .ref e13, .int (iI sz), .int (iI mo), .ref e14, .int (iI 0)])), (e1, ar cI 8 ND), (e2, ai cI 8 AU), (e3, ai cI 8 LE), (e4, ai cI 8 SN), (e5, ar cI 8 US), (e6, ai cI 80 KK), (e7, ai cI 80 AT), (e8, ai cI 80 LF), (e9, ar cI 6 (zup KN p0 ((KN p0) ||| ((iI 1) <<< ((iI k0) &&& 31))))), (e10, ai cI 32 PL), (e11, ai cI 32 HE), (e12, ai cI 32 TU), (e13, ai cI 32 MA), (e14, ai cI 201 CU)]) C hE (k_rbits l D cI cZ cM cL (KN p0 ||| (iI 1 <<< (iI k0 &&& 31)))) gX5_teach_X5_bits rfl ⟨rfl, rfl⟩ (by decide +kernel) ⟨Nat.le_of_ble_eq_true rfl, Nat.le_of_ble_eq_true rfl⟩ rfl rfl (List.Perm.refl _) (Nat.le_of_ble_eq_true rfl) ⟨Nat.le_of_ble_eq_true rfl, Nat.le_of_ble_eq_true rfl⟩ dX5_teach_77 (fun r w1 hpo => ?_)
        obtain ⟨rfl, rfl⟩ := hpo
        refine (show zG E Q (0) (0) [(r, .inr (5, [.ref e1, .int (iI (↑n)), .ref e2, .ref e3, .ref e4, .ref e5, .ref e6, .ref e7, .ref e8, .int (iI L), .int d, .ref e9, .ref e10, .ref e11, .ref e12, .ref e13, .int (iI sz), .int (iI mo), .ref e14, .int (iI 0)])), (e1, ar cI 8 ND), (e2, ai cI 8 AU), (e3, ai cI 8 LE), (e4, ai cI 8 SN), (e5, ar cI 8 US), (e6, ai cI 80 KK), (e7, ai cI 80 AT), (e8, ai cI 80 LF), (e9, ar cI 6 (zup KN p0 ((KN p0) ||| ((iI 1) <<< ((iI k0) &&& 31))))), (e10, ai cI 32 PL), (e11, ai cI 32 HE), (e12, ai cI 32 TU), (e13, ai cI 32 MA), (e14, ai cI 201 CU)] [some (.ref r), some (.int (iI p0)), some (.int (iI k0))] 80 [.int (bts (KN p0 ||| (iI 1 <<< (iI k0 &&& 31))) 8)] from ?_)
        have hc : cTE ND KN p0 k0 = 0 := by unfold cTE; rw [if_neg (by have := b21 h1; have := b21 h2; omega), if_neg (fun e => e hv)]
        exact z_iret C hR dX5_teach_80 (Nat.le_of_ble_eq_true rfl) (Nat.le_of_ble_eq_true rfl) (Or.inl ⟨hc, rfl, sz, mo, PL, HE, TU, MA, CU, rfl⟩)
      · refine z_iconst (v := iI 2) C dX5_teach_42 rfl ?_
        refine z_goto (tgt := 47) C dX5_teach_43 (by decide) ?_
        refine z_put (ci := 5) (ws' := [(r, .inr (5, [.ref e1, .int (iI (↑n)), .ref e2, .ref e3, .ref e4, .ref e5, .ref e6, .ref e7, .ref e8, .int (iI L), .int d, .ref e9, .ref e10, .ref e11, .ref e12, .ref e13, .int (iI sz), .int (iI mo), .ref e14, .int (iI 2)])), (e1, ar cI 8 ND), (e2, ai cI 8 AU), (e3, ai cI 8 LE), (e4, ai cI 8 SN), (e5, ar cI 8 US), (e6, ai cI 80 KK), (e7, ai cI 80 AT), (e8, ai cI 80 LF), (e9, ar cI 6 KN), (e10, ai cI 32 PL), (e11, ai cI 32 HE), (e12, ai cI 32 TU), (e13, ai cI 32 MA), (e14, ai cI 201 CU)]) C (hi_X5_teach_X5) tyX5_ok nmX5 0 rfl rfl 19 (by decide) (by decide +kernel) rfl (tyX5_ok 19 (by decide)) rfl rfl (Nat.le_of_ble_eq_true rfl) rfl dX5_teach_47 ?_
        refine z_aload_n (i := 0) C dX5_teach_50 rfl rfl ?_
        refine z_get (ci := 5) C (hi_X5_teach_X5) 0 rfl rfl 19 (by decide) (by decide +kernel) rfl dX5_teach_51 ?_
        refine z_if_leI (tgt := 59) C dX5_teach_54 (by decide) ⟨by omega, by omega⟩ (fun h => by exfalso; omega) (fun _ => ?_)
        refine z_iconst (v := iI 0) C dX5_teach_57 rfl ?_
        have hc : cTE ND KN p0 k0 = 2 := by unfold cTE; rw [if_neg (by have := b21 h1; have := b21 h2; omega), if_pos hv]
        exact z_iret C hR dX5_teach_58 (Nat.le_of_ble_eq_true rfl) (Nat.le_of_ble_eq_true rfl) (Or.inr ⟨by omega, rfl, sz, mo, PL, HE, TU, MA, CU, by rw [hc]⟩)
    · refine z_iconst (v := iI 1) C dX5_teach_20 rfl ?_
      refine z_goto (tgt := 47) C dX5_teach_21 (by decide) ?_
      refine z_put (ci := 5) (ws' := [(r, .inr (5, [.ref e1, .int (iI (↑n)), .ref e2, .ref e3, .ref e4, .ref e5, .ref e6, .ref e7, .ref e8, .int (iI L), .int d, .ref e9, .ref e10, .ref e11, .ref e12, .ref e13, .int (iI sz), .int (iI mo), .ref e14, .int (iI 1)])), (e1, ar cI 8 ND), (e2, ai cI 8 AU), (e3, ai cI 8 LE), (e4, ai cI 8 SN), (e5, ar cI 8 US), (e6, ai cI 80 KK), (e7, ai cI 80 AT), (e8, ai cI 80 LF), (e9, ar cI 6 KN), (e10, ai cI 32 PL), (e11, ai cI 32 HE), (e12, ai cI 32 TU), (e13, ai cI 32 MA), (e14, ai cI 201 CU)]) C (hi_X5_teach_X5) tyX5_ok nmX5 0 rfl rfl 19 (by decide) (by decide +kernel) rfl (tyX5_ok 19 (by decide)) rfl rfl (Nat.le_of_ble_eq_true rfl) rfl dX5_teach_47 ?_
      refine z_aload_n (i := 0) C dX5_teach_50 rfl rfl ?_
      refine z_get (ci := 5) C (hi_X5_teach_X5) 0 rfl rfl 19 (by decide) (by decide +kernel) rfl dX5_teach_51 ?_
      refine z_if_leI (tgt := 59) C dX5_teach_54 (by decide) ⟨by omega, by omega⟩ (fun h => by exfalso; omega) (fun _ => ?_)
      refine z_iconst (v := iI 0) C dX5_teach_57 rfl ?_
      have hc : cTE ND KN p0 k0 = 1 := by unfold cTE; rw [if_pos (by first | (have := b20 h1; omega) | (have := b20 h2; omega))]
      exact z_iret C hR dX5_teach_58 (Nat.le_of_ble_eq_true rfl) (Nat.le_of_ble_eq_true rfl) (Or.inr ⟨by omega, rfl, sz, mo, PL, HE, TU, MA, CU, by rw [hc]⟩)
theorem hi_X5_steps_X5 : ∀ w ∈ wsX50, w ∈ wsX5_steps := by decide +kernel
set_option maxHeartbeats 1000000 in
set_option maxRecDepth 100000 in
theorem k_rsteps (l : Launch) (D : va_G) (cI cZ cM cL : ClassId) (r e1 e2 e3 e4 e5 e6 e7 e8 e9 e10 e11 e12 e13 e14 : Nat) (n : Nat) (L : Int) (d : Int32) (sz mo th : Int) (ND US KN : Int → Int32) (AU LE SN KK AT LF PL HE TU MA CU : Int → Int) (hg : rO n L US LE SN AT LF) (i0 : Int) (hi0 : iR i0) : zN l yX5_steps wsX5_steps { frames := 2, cells := 0, slots := 0, locals := 43 } D (zTy cI cZ cM cL) [.ref r, .int (iI i0)] (rfW cI r e1 e2 e3 e4 e5 e6 e7 e8 e9 e10 e11 e12 e13 e14 n L d sz mo th ND US KN AU LE SN KK AT LF PL HE TU MA CU) (fun r9 w => ((cM1 n i0) = 0 ∧ r9 = some (.int (iI (SN i0))) ∧ (rQ cI r e1 e2 e3 e4 e5 e6 e7 e8 e9 e10 e11 e12 e13 e14 n L d 0 ND US KN AU LE SN KK AT LF w)) ∨ (¬ (cM1 n i0) = 0 ∧ r9 = some (.int (iI 0)) ∧ (rQ cI r e1 e2 e3 e4 e5 e6 e7 e8 e9 e10 e11 e12 e13 e14 n L d (cM1 n i0) ND US KN AU LE SN KK AT LF w))) 0 0 := by
  refine zN_of (cc := cX5_steps) (maxL := 2) (lv0 := [some (.ref r), some (.int (iI i0))]) (by decide) rfl rfl (Nat.le_of_ble_eq_true rfl) rfl ?_
  intro E Q C hE hR hI0
  obtain ⟨hn, hz, hL, hm⟩ := hg
  refine (show zG E Q 0 0 [(r, .inr (5, [.ref e1, .int (iI (↑n)), .ref e2, .ref e3, .ref e4, .ref e5, .ref e6, .ref e7, .ref e8, .int (iI L), .int d, .ref e9, .ref e10, .ref e11, .ref e12, .ref e13, .int (iI sz), .int (iI mo), .ref e14, .int (iI th)])), (e1, ar cI 8 ND), (e2, ai cI 8 AU), (e3, ai cI 8 LE), (e4, ai cI 8 SN), (e5, ar cI 8 US), (e6, ai cI 80 KK), (e7, ai cI 80 AT), (e8, ai cI 80 LF), (e9, ar cI 6 KN), (e10, ai cI 32 PL), (e11, ai cI 32 HE), (e12, ai cI 32 TU), (e13, ai cI 32 MA), (e14, ai cI 201 CU)] [some (.ref r), some (.int (iI i0))] 0 [] from ?_)
  refine z_aload_n (i := 0) C dX5_steps_0 rfl rfl ?_
  refine z_iload_n (i := 1) C dX5_steps_1 rfl rfl ?_
  refine z_callV (n := 1) (As := [.int (iI i0)]) (st := []) (fr := []) C hE (k_risModel l D cI cZ cM cL r e1 e2 e3 e4 e5 e6 e7 e8 e9 e10 e11 e12 e13 e14 n L d sz mo th ND US KN AU LE SN KK AT LF PL HE TU MA CU i0 hi0 hn) gX5_steps_X5_isModel rfl ⟨rfl, rfl⟩ (by decide +kernel) ⟨Nat.le_of_ble_eq_true rfl, Nat.le_of_ble_eq_true rfl⟩ rfl rfl (by rw [List.append_nil]) 0 rfl rfl rfl (Nat.le_of_ble_eq_true rfl) ⟨Nat.le_of_ble_eq_true rfl, Nat.le_of_ble_eq_true rfl⟩ dX5_steps_2 (fun r w1 hpo => ?_)
  obtain ⟨rfl, rfl⟩ := hpo
  have hb9 := b2r (0 ≤ i0 ∧ i0 < ↑n)
  rw [List.append_nil]
  refine (show zG E Q (0) (0) [(r, .inr (5, [.ref e1, .int (iI (↑n)), .ref e2, .ref e3, .ref e4, .ref e5, .ref e6, .ref e7, .ref e8, .int (iI L), .int d, .ref e9, .ref e10, .ref e11, .ref e12, .ref e13, .int (iI sz), .int (iI mo), .ref e14, .int (iI (cM1 n i0))])), (e1, ar cI 8 ND), (e2, ai cI 8 AU), (e3, ai cI 8 LE), (e4, ai cI 8 SN), (e5, ar cI 8 US), (e6, ai cI 80 KK), (e7, ai cI 80 AT), (e8, ai cI 80 LF), (e9, ar cI 6 KN), (e10, ai cI 32 PL), (e11, ai cI 32 HE), (e12, ai cI 32 TU), (e13, ai cI 32 MA), (e14, ai cI 201 CU)] [some (.ref r), some (.int (iI i0))] 5 [.int (iI (b2 (0 ≤ i0 ∧ i0 < ↑n)))] from ?_)
  refine z_if_eqI (tgt := 17) C dX5_steps_5 (by decide) ⟨by omega, by omega⟩ (fun h1 => ?_) (fun h1 => ?_)
  · refine z_iconst (v := iI 0) C dX5_steps_17 rfl ?_
    have hc2 : cM1 n i0 = 1 := by unfold cM1; rw [if_pos (b20 h1)]
    exact z_iret C hR dX5_steps_18 (Nat.le_of_ble_eq_true rfl) (Nat.le_of_ble_eq_true rfl) (Or.inr ⟨by omega, rfl, sz, mo, PL, HE, TU, MA, CU, rfl⟩)
  · have hx9 := b21 h1
    obtain ⟨hl9, hs9, ht9⟩ := hm i0 (by omega) (by omega)
    refine z_aload_n (i := 0) C dX5_steps_8 rfl rfl ?_
    refine z_get (ci := 5) C (hi_X5_steps_X5) 0 rfl rfl 4 (by decide) (by decide +kernel) rfl dX5_steps_9 ?_
    refine z_iload_n (i := 1) C dX5_steps_12 rfl rfl ?_
    refine z_ialoadI 4 (he := rfl) C (zT_of hE (t0 := 0) rfl) (by omega) (by omega) (by decide) dX5_steps_13 ?_
    refine z_goto (tgt := 18) C dX5_steps_14 (by decide) ?_
    have hc2 : cM1 n i0 = 0 := by unfold cM1; rw [if_neg (fun q => q (b21 h1))]
    exact z_iret C hR dX5_steps_18 (Nat.le_of_ble_eq_true rfl) (Nat.le_of_ble_eq_true rfl) (Or.inl ⟨hc2, rfl, sz, mo, PL, HE, TU, MA, CU, by rw [hc2]⟩)
theorem hi_X5_places_X5 : ∀ w ∈ wsX50, w ∈ wsX5_places := by decide +kernel
set_option maxHeartbeats 1000000 in
set_option maxRecDepth 100000 in
theorem k_rplaces (l : Launch) (D : va_G) (cI cZ cM cL : ClassId) (r e1 e2 e3 e4 e5 e6 e7 e8 e9 e10 e11 e12 e13 e14 : Nat) (n : Nat) (L : Int) (d : Int32) (sz mo th : Int) (ND US KN : Int → Int32) (AU LE SN KK AT LF PL HE TU MA CU : Int → Int) (hg : rO n L US LE SN AT LF) (i0 : Int) (hi0 : iR i0) : zN l yX5_places wsX5_places { frames := 3, cells := 0, slots := 0, locals := 74 } D (zTy cI cZ cM cL) [.ref r, .int (iI i0)] (rfW cI r e1 e2 e3 e4 e5 e6 e7 e8 e9 e10 e11 e12 e13 e14 n L d sz mo th ND US KN AU LE SN KK AT LF PL HE TU MA CU) (fun r9 w => ((cM1 n i0) = 0 ∧ r9 = some (.int (iI (mgS (rv AU LE SN KK AT LF i0)))) ∧ (rQ cI r e1 e2 e3 e4 e5 e6 e7 e8 e9 e10 e11 e12 e13 e14 n L d 0 ND US KN AU LE SN KK AT LF w)) ∨ (¬ (cM1 n i0) = 0 ∧ r9 = some (.int (iI 0)) ∧ (rQ cI r e1 e2 e3 e4 e5 e6 e7 e8 e9 e10 e11 e12 e13 e14 n L d (cM1 n i0) ND US KN AU LE SN KK AT LF w))) 0 0 := by
  refine zN_of (cc := cX5_places) (maxL := 2) (lv0 := [some (.ref r), some (.int (iI i0))]) (by decide) rfl rfl (Nat.le_of_ble_eq_true rfl) rfl ?_
  intro E Q C hE hR hI0
  obtain ⟨hn, hz, hL, hm⟩ := hg
  refine (show zG E Q 0 0 [(r, .inr (5, [.ref e1, .int (iI (↑n)), .ref e2, .ref e3, .ref e4, .ref e5, .ref e6, .ref e7, .ref e8, .int (iI L), .int d, .ref e9, .ref e10, .ref e11, .ref e12, .ref e13, .int (iI sz), .int (iI mo), .ref e14, .int (iI th)])), (e1, ar cI 8 ND), (e2, ai cI 8 AU), (e3, ai cI 8 LE), (e4, ai cI 8 SN), (e5, ar cI 8 US), (e6, ai cI 80 KK), (e7, ai cI 80 AT), (e8, ai cI 80 LF), (e9, ar cI 6 KN), (e10, ai cI 32 PL), (e11, ai cI 32 HE), (e12, ai cI 32 TU), (e13, ai cI 32 MA), (e14, ai cI 201 CU)] [some (.ref r), some (.int (iI i0))] 0 [] from ?_)
  refine z_aload_n (i := 0) C dX5_places_0 rfl rfl ?_
  refine z_iload_n (i := 1) C dX5_places_1 rfl rfl ?_
  refine z_callV (n := 1) (As := [.int (iI i0)]) (st := []) (fr := []) C hE (k_risModel l D cI cZ cM cL r e1 e2 e3 e4 e5 e6 e7 e8 e9 e10 e11 e12 e13 e14 n L d sz mo th ND US KN AU LE SN KK AT LF PL HE TU MA CU i0 hi0 hn) gX5_places_X5_isModel rfl ⟨rfl, rfl⟩ (by decide +kernel) ⟨Nat.le_of_ble_eq_true rfl, Nat.le_of_ble_eq_true rfl⟩ rfl rfl (by rw [List.append_nil]) 0 rfl rfl rfl (Nat.le_of_ble_eq_true rfl) ⟨Nat.le_of_ble_eq_true rfl, Nat.le_of_ble_eq_true rfl⟩ dX5_places_2 (fun r w1 hpo => ?_)
  obtain ⟨rfl, rfl⟩ := hpo
  have hb9 := b2r (0 ≤ i0 ∧ i0 < ↑n)
  rw [List.append_nil]
  refine (show zG E Q (0) (0) [(r, .inr (5, [.ref e1, .int (iI (↑n)), .ref e2, .ref e3, .ref e4, .ref e5, .ref e6, .ref e7, .ref e8, .int (iI L), .int d, .ref e9, .ref e10, .ref e11, .ref e12, .ref e13, .int (iI sz), .int (iI mo), .ref e14, .int (iI (cM1 n i0))])), (e1, ar cI 8 ND), (e2, ai cI 8 AU), (e3, ai cI 8 LE), (e4, ai cI 8 SN), (e5, ar cI 8 US), (e6, ai cI 80 KK), (e7, ai cI 80 AT), (e8, ai cI 80 LF), (e9, ar cI 6 KN), (e10, ai cI 32 PL), (e11, ai cI 32 HE), (e12, ai cI 32 TU), (e13, ai cI 32 MA), (e14, ai cI 201 CU)] [some (.ref r), some (.int (iI i0))] 5 [.int (iI (b2 (0 ≤ i0 ∧ i0 < ↑n)))] from ?_)
  refine z_if_neI (tgt := 10) C dX5_places_5 (by decide) ⟨by omega, by omega⟩ (fun h1 => ?_) (fun h1 => ?_)
  · have hx9 := b21 h1
    obtain ⟨hl9, hs9, ht9⟩ := hm i0 (by omega) (by omega)
    refine z_aload_n (i := 0) C dX5_places_10 rfl rfl ?_
    refine z_iload_n (i := 1) C dX5_places_11 rfl rfl ?_
    refine z_callV (n := 1) (As := [.int (iI i0)]) (st := []) (fr := []) C hE (k_rfolds l D cI cZ cM cL r e1 e2 e3 e4 e5 e6 e7 e8 e9 e10 e11 e12 e13 e14 n L d sz mo (cM1 n i0) ND US KN AU LE SN KK AT LF PL HE TU MA CU i0 ⟨by omega, by omega⟩ hl9 hs9 ht9) gX5_places_X5_folds rfl ⟨rfl, rfl⟩ (by decide +kernel) ⟨Nat.le_of_ble_eq_true rfl, Nat.le_of_ble_eq_true rfl⟩ rfl rfl (by rw [List.append_nil]) 0 rfl rfl rfl (Nat.le_of_ble_eq_true rfl) ⟨Nat.le_of_ble_eq_true rfl, Nat.le_of_ble_eq_true rfl⟩ dX5_places_12 (fun r w1 hpo => ?_)
    obtain ⟨rfl, P1, H1, T1, M1, rfl, hA9, hM9⟩ := hpo
    have hS9 := stV_gS ht9 (by omega) (SN i0).toNat (by omega)
    rw [List.append_nil]
    refine (show zG E Q (0) (0) [(r, .inr (5, [.ref e1, .int (iI (↑n)), .ref e2, .ref e3, .ref e4, .ref e5, .ref e6, .ref e7, .ref e8, .int (iI L), .int d, .ref e9, .ref e10, .ref e11, .ref e12, .ref e13, .int (iI (gS (LE i0) (row AT i0) (SN i0).toNat)), .int (iI (mst (LE i0) (row AT i0) (row LF i0) (SN i0).toNat)), .ref e14, .int (iI (cM1 n i0))])), (e1, ar cI 8 ND), (e2, ai cI 8 AU), (e3, ai cI 8 LE), (e4, ai cI 8 SN), (e5, ar cI 8 US), (e6, ai cI 80 KK), (e7, ai cI 80 AT), (e8, ai cI 80 LF), (e9, ar cI 6 KN), (e10, ai cI 32 P1), (e11, ai cI 32 H1), (e12, ai cI 32 T1), (e13, ai cI 32 M1), (e14, ai cI 201 CU)] [some (.ref r), some (.int (iI i0))] 15 [] from ?_)
    refine z_aload_n (i := 0) C dX5_places_15 rfl rfl ?_
    refine z_get (ci := 5) C (hi_X5_places_X5) 0 rfl rfl 16 (by decide) (by decide +kernel) rfl dX5_places_16 ?_
    have hc2 : cM1 n i0 = 0 := by unfold cM1; rw [if_neg (fun q => q (b21 h1))]
    exact z_iret C hR dX5_places_19 (Nat.le_of_ble_eq_true rfl) (Nat.le_of_ble_eq_true rfl) (Or.inl ⟨hc2, rfl, gS (LE i0) (row AT i0) (SN i0).toNat, mst (LE i0) (row AT i0) (row LF i0) (SN i0).toNat, P1, H1, T1, M1, CU, by rw [hc2]⟩)
  · refine z_iconst (v := iI 0) C dX5_places_8 rfl ?_
    have hc2 : cM1 n i0 = 1 := by unfold cM1; rw [if_pos (b20 h1)]
    exact z_iret C hR dX5_places_9 (Nat.le_of_ble_eq_true rfl) (Nat.le_of_ble_eq_true rfl) (Or.inr ⟨by omega, rfl, sz, mo, PL, HE, TU, MA, CU, rfl⟩)
set_option maxHeartbeats 1000000 in
set_option maxRecDepth 100000 in
theorem k_rlayers (l : Launch) (D : va_G) (cI cZ cM cL : ClassId) (r e1 e2 e3 e4 e5 e6 e7 e8 e9 e10 e11 e12 e13 e14 : Nat) (n : Nat) (L : Int) (d : Int32) (sz mo th : Int) (ND US KN : Int → Int32) (AU LE SN KK AT LF PL HE TU MA CU : Int → Int) (hg : rO n L US LE SN AT LF) (i0 : Int) (hi0 : iR i0) : zN l yX5_layers wsX5_layers { frames := 4, cells := 0, slots := 0, locals := 97 } D (zTy cI cZ cM cL) [.ref r, .int (iI i0)] (rfW cI r e1 e2 e3 e4 e5 e6 e7 e8 e9 e10 e11 e12 e13 e14 n L d sz mo th ND US KN AU LE SN KK AT LF PL HE TU MA CU) (fun r9 w => ((cM1 n i0) = 0 ∧ r9 = some (.int (iI (mlay (rv AU LE SN KK AT LF i0)))) ∧ (rQ cI r e1 e2 e3 e4 e5 e6 e7 e8 e9 e10 e11 e12 e13 e14 n L d 0 ND US KN AU LE SN KK AT LF w)) ∨ (¬ (cM1 n i0) = 0 ∧ r9 = some (.int (iI 0)) ∧ (rQ cI r e1 e2 e3 e4 e5 e6 e7 e8 e9 e10 e11 e12 e13 e14 n L d (cM1 n i0) ND US KN AU LE SN KK AT LF w))) 0 0 := by
  refine zN_of (cc := cX5_layers) (maxL := 2) (lv0 := [some (.ref r), some (.int (iI i0))]) (by decide) rfl rfl (Nat.le_of_ble_eq_true rfl) rfl ?_
  intro E Q C hE hR hI0
  obtain ⟨hn, hz, hL, hm⟩ := hg
  refine (show zG E Q 0 0 [(r, .inr (5, [.ref e1, .int (iI (↑n)), .ref e2, .ref e3, .ref e4, .ref e5, .ref e6, .ref e7, .ref e8, .int (iI L), .int d, .ref e9, .ref e10, .ref e11, .ref e12, .ref e13, .int (iI sz), .int (iI mo), .ref e14, .int (iI th)])), (e1, ar cI 8 ND), (e2, ai cI 8 AU), (e3, ai cI 8 LE), (e4, ai cI 8 SN), (e5, ar cI 8 US), (e6, ai cI 80 KK), (e7, ai cI 80 AT), (e8, ai cI 80 LF), (e9, ar cI 6 KN), (e10, ai cI 32 PL), (e11, ai cI 32 HE), (e12, ai cI 32 TU), (e13, ai cI 32 MA), (e14, ai cI 201 CU)] [some (.ref r), some (.int (iI i0))] 0 [] from ?_)
  refine z_aload_n (i := 0) C dX5_layers_0 rfl rfl ?_
  refine z_iload_n (i := 1) C dX5_layers_1 rfl rfl ?_
  refine z_callV (n := 1) (As := [.int (iI i0)]) (st := []) (fr := []) C hE (k_risModel l D cI cZ cM cL r e1 e2 e3 e4 e5 e6 e7 e8 e9 e10 e11 e12 e13 e14 n L d sz mo th ND US KN AU LE SN KK AT LF PL HE TU MA CU i0 hi0 hn) gX5_layers_X5_isModel rfl ⟨rfl, rfl⟩ (by decide +kernel) ⟨Nat.le_of_ble_eq_true rfl, Nat.le_of_ble_eq_true rfl⟩ rfl rfl (by rw [List.append_nil]) 0 rfl rfl rfl (Nat.le_of_ble_eq_true rfl) ⟨Nat.le_of_ble_eq_true rfl, Nat.le_of_ble_eq_true rfl⟩ dX5_layers_2 (fun r w1 hpo => ?_)
  obtain ⟨rfl, rfl⟩ := hpo
  have hb9 := b2r (0 ≤ i0 ∧ i0 < ↑n)
  rw [List.append_nil]
  refine (show zG E Q (0) (0) [(r, .inr (5, [.ref e1, .int (iI (↑n)), .ref e2, .ref e3, .ref e4, .ref e5, .ref e6, .ref e7, .ref e8, .int (iI L), .int d, .ref e9, .ref e10, .ref e11, .ref e12, .ref e13, .int (iI sz), .int (iI mo), .ref e14, .int (iI (cM1 n i0))])), (e1, ar cI 8 ND), (e2, ai cI 8 AU), (e3, ai cI 8 LE), (e4, ai cI 8 SN), (e5, ar cI 8 US), (e6, ai cI 80 KK), (e7, ai cI 80 AT), (e8, ai cI 80 LF), (e9, ar cI 6 KN), (e10, ai cI 32 PL), (e11, ai cI 32 HE), (e12, ai cI 32 TU), (e13, ai cI 32 MA), (e14, ai cI 201 CU)] [some (.ref r), some (.int (iI i0))] 5 [.int (iI (b2 (0 ≤ i0 ∧ i0 < ↑n)))] from ?_)
  refine z_if_eqI (tgt := 16) C dX5_layers_5 (by decide) ⟨by omega, by omega⟩ (fun h1 => ?_) (fun h1 => ?_)
  · refine z_iconst (v := iI 0) C dX5_layers_16 rfl ?_
    have hc2 : cM1 n i0 = 1 := by unfold cM1; rw [if_pos (b20 h1)]
    exact z_iret C hR dX5_layers_17 (Nat.le_of_ble_eq_true rfl) (Nat.le_of_ble_eq_true rfl) (Or.inr ⟨by omega, rfl, sz, mo, PL, HE, TU, MA, CU, rfl⟩)
  · have hx9 := b21 h1
    obtain ⟨hl9, hs9, ht9⟩ := hm i0 (by omega) (by omega)
    refine z_aload_n (i := 0) C dX5_layers_8 rfl rfl ?_
    refine z_iload_n (i := 1) C dX5_layers_9 rfl rfl ?_
    refine z_callV (n := 1) (As := [.int (iI i0)]) (st := []) (fr := []) C hE (k_rlayersOf l D cI cZ cM cL r e1 e2 e3 e4 e5 e6 e7 e8 e9 e10 e11 e12 e13 e14 n L d sz mo (cM1 n i0) ND US KN AU LE SN KK AT LF PL HE TU MA CU i0 ⟨by omega, by omega⟩ hl9 hs9 ht9) gX5_layers_X5_layersOf rfl ⟨rfl, rfl⟩ (by decide +kernel) ⟨Nat.le_of_ble_eq_true rfl, Nat.le_of_ble_eq_true rfl⟩ rfl rfl (by rw [List.append_nil]) 0 rfl rfl rfl (Nat.le_of_ble_eq_true rfl) ⟨Nat.le_of_ble_eq_true rfl, Nat.le_of_ble_eq_true rfl⟩ dX5_layers_10 (fun r w1 hpo => ?_)
    obtain ⟨rfl, P1, H1, T1, M1, rfl⟩ := hpo
    rw [List.append_nil]
    refine (show zG E Q (0) (0) [(r, .inr (5, [.ref e1, .int (iI (↑n)), .ref e2, .ref e3, .ref e4, .ref e5, .ref e6, .ref e7, .ref e8, .int (iI L), .int d, .ref e9, .ref e10, .ref e11, .ref e12, .ref e13, .int (iI (gS (LE i0) (row AT i0) (SN i0).toNat)), .int (iI (mst (LE i0) (row AT i0) (row LF i0) (SN i0).toNat)), .ref e14, .int (iI (cM1 n i0))])), (e1, ar cI 8 ND), (e2, ai cI 8 AU), (e3, ai cI 8 LE), (e4, ai cI 8 SN), (e5, ar cI 8 US), (e6, ai cI 80 KK), (e7, ai cI 80 AT), (e8, ai cI 80 LF), (e9, ar cI 6 KN), (e10, ai cI 32 P1), (e11, ai cI 32 H1), (e12, ai cI 32 T1), (e13, ai cI 32 M1), (e14, ai cI 201 CU)] [some (.ref r), some (.int (iI i0))] 13 [.int (iI (mxC (fun k => cnt (gP (LE i0) (row AT i0) (row LF i0) (SN i0).toNat) k (LE i0).toNat) (gS (LE i0) (row AT i0) (SN i0).toNat).toNat))] from ?_)
    refine z_goto (tgt := 17) C dX5_layers_13 (by decide) ?_
    have hc2 : cM1 n i0 = 0 := by unfold cM1; rw [if_neg (fun q => q (b21 h1))]
    exact z_iret C hR dX5_layers_17 (Nat.le_of_ble_eq_true rfl) (Nat.le_of_ble_eq_true rfl) (Or.inl ⟨hc2, rfl, gS (LE i0) (row AT i0) (SN i0).toNat, mst (LE i0) (row AT i0) (row LF i0) (SN i0).toNat, P1, H1, T1, M1, CU, by rw [hc2]⟩)
set_option maxHeartbeats 1000000 in
set_option maxRecDepth 100000 in
theorem k_rlayersByFollowing (l : Launch) (D : va_G) (cI cZ cM cL : ClassId) (r e1 e2 e3 e4 e5 e6 e7 e8 e9 e10 e11 e12 e13 e14 : Nat) (n : Nat) (L : Int) (d : Int32) (sz mo th : Int) (ND US KN : Int → Int32) (AU LE SN KK AT LF PL HE TU MA CU : Int → Int) (hg : rO n L US LE SN AT LF) (i0 : Int) (hi0 : iR i0) : zN l yX5_layersByFollowing wsX5_layersByFollowing { frames := 4, cells := 0, slots := 0, locals := 97 } D (zTy cI cZ cM cL) [.ref r, .int (iI i0)] (rfW cI r e1 e2 e3 e4 e5 e6 e7 e8 e9 e10 e11 e12 e13 e14 n L d sz mo th ND US KN AU LE SN KK AT LF PL HE TU MA CU) (fun r9 w => ((cM1 n i0) = 0 ∧ r9 = some (.int (iI (mlay (rv AU LE SN KK AT LF i0)))) ∧ (rQ cI r e1 e2 e3 e4 e5 e6 e7 e8 e9 e10 e11 e12 e13 e14 n L d 0 ND US KN AU LE SN KK AT LF w)) ∨ (¬ (cM1 n i0) = 0 ∧ r9 = some (.int (iI 0)) ∧ (rQ cI r e1 e2 e3 e4 e5 e6 e7 e8 e9 e10 e11 e12 e13 e14 n L d (cM1 n i0) ND US KN AU LE SN KK AT LF w))) 0 0 := by
  refine zN_of (cc := cX5_layersByFollowing) (maxL := 2) (lv0 := [some (.ref r), some (.int (iI i0))]) (by decide) rfl rfl (Nat.le_of_ble_eq_true rfl) rfl ?_
  intro E Q C hE hR hI0
  obtain ⟨hn, hz, hL, hm⟩ := hg
  refine (show zG E Q 0 0 [(r, .inr (5, [.ref e1, .int (iI (↑n)), .ref e2, .ref e3, .ref e4, .ref e5, .ref e6, .ref e7, .ref e8, .int (iI L), .int d, .ref e9, .ref e10, .ref e11, .ref e12, .ref e13, .int (iI sz), .int (iI mo), .ref e14, .int (iI th)])), (e1, ar cI 8 ND), (e2, ai cI 8 AU), (e3, ai cI 8 LE), (e4, ai cI 8 SN), (e5, ar cI 8 US), (e6, ai cI 80 KK), (e7, ai cI 80 AT), (e8, ai cI 80 LF), (e9, ar cI 6 KN), (e10, ai cI 32 PL), (e11, ai cI 32 HE), (e12, ai cI 32 TU), (e13, ai cI 32 MA), (e14, ai cI 201 CU)] [some (.ref r), some (.int (iI i0))] 0 [] from ?_)
  refine z_aload_n (i := 0) C dX5_layersByFollowing_0 rfl rfl ?_
  refine z_iload_n (i := 1) C dX5_layersByFollowing_1 rfl rfl ?_
  refine z_callV (n := 1) (As := [.int (iI i0)]) (st := []) (fr := []) C hE (k_risModel l D cI cZ cM cL r e1 e2 e3 e4 e5 e6 e7 e8 e9 e10 e11 e12 e13 e14 n L d sz mo th ND US KN AU LE SN KK AT LF PL HE TU MA CU i0 hi0 hn) gX5_layersByFollowing_X5_isModel rfl ⟨rfl, rfl⟩ (by decide +kernel) ⟨Nat.le_of_ble_eq_true rfl, Nat.le_of_ble_eq_true rfl⟩ rfl rfl (by rw [List.append_nil]) 0 rfl rfl rfl (Nat.le_of_ble_eq_true rfl) ⟨Nat.le_of_ble_eq_true rfl, Nat.le_of_ble_eq_true rfl⟩ dX5_layersByFollowing_2 (fun r w1 hpo => ?_)
  obtain ⟨rfl, rfl⟩ := hpo
  have hb9 := b2r (0 ≤ i0 ∧ i0 < ↑n)
  rw [List.append_nil]
  refine (show zG E Q (0) (0) [(r, .inr (5, [.ref e1, .int (iI (↑n)), .ref e2, .ref e3, .ref e4, .ref e5, .ref e6, .ref e7, .ref e8, .int (iI L), .int d, .ref e9, .ref e10, .ref e11, .ref e12, .ref e13, .int (iI sz), .int (iI mo), .ref e14, .int (iI (cM1 n i0))])), (e1, ar cI 8 ND), (e2, ai cI 8 AU), (e3, ai cI 8 LE), (e4, ai cI 8 SN), (e5, ar cI 8 US), (e6, ai cI 80 KK), (e7, ai cI 80 AT), (e8, ai cI 80 LF), (e9, ar cI 6 KN), (e10, ai cI 32 PL), (e11, ai cI 32 HE), (e12, ai cI 32 TU), (e13, ai cI 32 MA), (e14, ai cI 201 CU)] [some (.ref r), some (.int (iI i0))] 5 [.int (iI (b2 (0 ≤ i0 ∧ i0 < ↑n)))] from ?_)
  refine z_if_eqI (tgt := 16) C dX5_layersByFollowing_5 (by decide) ⟨by omega, by omega⟩ (fun h1 => ?_) (fun h1 => ?_)
  · refine z_iconst (v := iI 0) C dX5_layersByFollowing_16 rfl ?_
    have hc2 : cM1 n i0 = 1 := by unfold cM1; rw [if_pos (b20 h1)]
    exact z_iret C hR dX5_layersByFollowing_17 (Nat.le_of_ble_eq_true rfl) (Nat.le_of_ble_eq_true rfl) (Or.inr ⟨by omega, rfl, sz, mo, PL, HE, TU, MA, CU, rfl⟩)
  · have hx9 := b21 h1
    obtain ⟨hl9, hs9, ht9⟩ := hm i0 (by omega) (by omega)
    refine z_aload_n (i := 0) C dX5_layersByFollowing_8 rfl rfl ?_
    refine z_iload_n (i := 1) C dX5_layersByFollowing_9 rfl rfl ?_
    refine z_callV (n := 1) (As := [.int (iI i0)]) (st := []) (fr := []) C hE (k_rlayersOf l D cI cZ cM cL r e1 e2 e3 e4 e5 e6 e7 e8 e9 e10 e11 e12 e13 e14 n L d sz mo (cM1 n i0) ND US KN AU LE SN KK AT LF PL HE TU MA CU i0 ⟨by omega, by omega⟩ hl9 hs9 ht9) gX5_layersByFollowing_X5_layersOf rfl ⟨rfl, rfl⟩ (by decide +kernel) ⟨Nat.le_of_ble_eq_true rfl, Nat.le_of_ble_eq_true rfl⟩ rfl rfl (by rw [List.append_nil]) 0 rfl rfl rfl (Nat.le_of_ble_eq_true rfl) ⟨Nat.le_of_ble_eq_true rfl, Nat.le_of_ble_eq_true rfl⟩ dX5_layersByFollowing_10 (fun r w1 hpo => ?_)
    obtain ⟨rfl, P1, H1, T1, M1, rfl⟩ := hpo
    rw [List.append_nil]
    refine (show zG E Q (0) (0) [(r, .inr (5, [.ref e1, .int (iI (↑n)), .ref e2, .ref e3, .ref e4, .ref e5, .ref e6, .ref e7, .ref e8, .int (iI L), .int d, .ref e9, .ref e10, .ref e11, .ref e12, .ref e13, .int (iI (gS (LE i0) (row AT i0) (SN i0).toNat)), .int (iI (mst (LE i0) (row AT i0) (row LF i0) (SN i0).toNat)), .ref e14, .int (iI (cM1 n i0))])), (e1, ar cI 8 ND), (e2, ai cI 8 AU), (e3, ai cI 8 LE), (e4, ai cI 8 SN), (e5, ar cI 8 US), (e6, ai cI 80 KK), (e7, ai cI 80 AT), (e8, ai cI 80 LF), (e9, ar cI 6 KN), (e10, ai cI 32 P1), (e11, ai cI 32 H1), (e12, ai cI 32 T1), (e13, ai cI 32 M1), (e14, ai cI 201 CU)] [some (.ref r), some (.int (iI i0))] 13 [.int (iI (mxC (fun k => cnt (gP (LE i0) (row AT i0) (row LF i0) (SN i0).toNat) k (LE i0).toNat) (gS (LE i0) (row AT i0) (SN i0).toNat).toNat))] from ?_)
    refine z_goto (tgt := 17) C dX5_layersByFollowing_13 (by decide) ?_
    have hc2 : cM1 n i0 = 0 := by unfold cM1; rw [if_neg (fun q => q (b21 h1))]
    exact z_iret C hR dX5_layersByFollowing_17 (Nat.le_of_ble_eq_true rfl) (Nat.le_of_ble_eq_true rfl) (Or.inl ⟨hc2, rfl, gS (LE i0) (row AT i0) (SN i0).toNat, mst (LE i0) (row AT i0) (row LF i0) (SN i0).toNat, P1, H1, T1, M1, CU, by rw [hc2]⟩)
set_option maxHeartbeats 1000000 in
set_option maxRecDepth 100000 in
theorem k_rkindsOf (l : Launch) (D : va_G) (cI cZ cM cL : ClassId) (r e1 e2 e3 e4 e5 e6 e7 e8 e9 e10 e11 e12 e13 e14 : Nat) (n : Nat) (L : Int) (d : Int32) (sz mo th : Int) (ND US KN : Int → Int32) (AU LE SN KK AT LF PL HE TU MA CU : Int → Int) (hg : rO n L US LE SN AT LF) (i0 : Int) (hi0 : iR i0) : zN l yX5_kindsOf wsX5_kindsOf { frames := 2, cells := 0, slots := 0, locals := 47 } D (zTy cI cZ cM cL) [.ref r, .int (iI i0)] (rfW cI r e1 e2 e3 e4 e5 e6 e7 e8 e9 e10 e11 e12 e13 e14 n L d sz mo th ND US KN AU LE SN KK AT LF PL HE TU MA CU) (fun r9 w => ((cM1 n i0) = 0 ∧ r9 = some (.int (kcB (fun k : Nat => rv AU LE SN KK AT LF k) (mcB US i0) n)) ∧ (rQ cI r e1 e2 e3 e4 e5 e6 e7 e8 e9 e10 e11 e12 e13 e14 n L d 0 ND US KN AU LE SN KK AT LF w)) ∨ (¬ (cM1 n i0) = 0 ∧ r9 = some (.int (iI 0)) ∧ (rQ cI r e1 e2 e3 e4 e5 e6 e7 e8 e9 e10 e11 e12 e13 e14 n L d (cM1 n i0) ND US KN AU LE SN KK AT LF w))) 0 0 := by
  refine zN_of (cc := cX5_kindsOf) (maxL := 2) (lv0 := [some (.ref r), some (.int (iI i0))]) (by decide) rfl rfl (Nat.le_of_ble_eq_true rfl) rfl ?_
  intro E Q C hE hR hI0
  obtain ⟨hn, hz, hL, hm⟩ := hg
  refine (show zG E Q 0 0 [(r, .inr (5, [.ref e1, .int (iI (↑n)), .ref e2, .ref e3, .ref e4, .ref e5, .ref e6, .ref e7, .ref e8, .int (iI L), .int d, .ref e9, .ref e10, .ref e11, .ref e12, .ref e13, .int (iI sz), .int (iI mo), .ref e14, .int (iI th)])), (e1, ar cI 8 ND), (e2, ai cI 8 AU), (e3, ai cI 8 LE), (e4, ai cI 8 SN), (e5, ar cI 8 US), (e6, ai cI 80 KK), (e7, ai cI 80 AT), (e8, ai cI 80 LF), (e9, ar cI 6 KN), (e10, ai cI 32 PL), (e11, ai cI 32 HE), (e12, ai cI 32 TU), (e13, ai cI 32 MA), (e14, ai cI 201 CU)] [some (.ref r), some (.int (iI i0))] 0 [] from ?_)
  refine z_aload_n (i := 0) C dX5_kindsOf_0 rfl rfl ?_
  refine z_iload_n (i := 1) C dX5_kindsOf_1 rfl rfl ?_
  refine z_callV (n := 1) (As := [.int (iI i0)]) (st := []) (fr := []) C hE (k_risModel l D cI cZ cM cL r e1 e2 e3 e4 e5 e6 e7 e8 e9 e10 e11 e12 e13 e14 n L d sz mo th ND US KN AU LE SN KK AT LF PL HE TU MA CU i0 hi0 hn) gX5_kindsOf_X5_isModel rfl ⟨rfl, rfl⟩ (by decide +kernel) ⟨Nat.le_of_ble_eq_true rfl, Nat.le_of_ble_eq_true rfl⟩ rfl rfl (by rw [List.append_nil]) 0 rfl rfl rfl (Nat.le_of_ble_eq_true rfl) ⟨Nat.le_of_ble_eq_true rfl, Nat.le_of_ble_eq_true rfl⟩ dX5_kindsOf_2 (fun r w1 hpo => ?_)
  obtain ⟨rfl, rfl⟩ := hpo
  have hb9 := b2r (0 ≤ i0 ∧ i0 < ↑n)
  rw [List.append_nil]
  refine (show zG E Q (0) (0) [(r, .inr (5, [.ref e1, .int (iI (↑n)), .ref e2, .ref e3, .ref e4, .ref e5, .ref e6, .ref e7, .ref e8, .int (iI L), .int d, .ref e9, .ref e10, .ref e11, .ref e12, .ref e13, .int (iI sz), .int (iI mo), .ref e14, .int (iI (cM1 n i0))])), (e1, ar cI 8 ND), (e2, ai cI 8 AU), (e3, ai cI 8 LE), (e4, ai cI 8 SN), (e5, ar cI 8 US), (e6, ai cI 80 KK), (e7, ai cI 80 AT), (e8, ai cI 80 LF), (e9, ar cI 6 KN), (e10, ai cI 32 PL), (e11, ai cI 32 HE), (e12, ai cI 32 TU), (e13, ai cI 32 MA), (e14, ai cI 201 CU)] [some (.ref r), some (.int (iI i0))] 5 [.int (iI (b2 (0 ≤ i0 ∧ i0 < ↑n)))] from ?_)
  refine z_if_eqI (tgt := 16) C dX5_kindsOf_5 (by decide) ⟨by omega, by omega⟩ (fun h1 => ?_) (fun h1 => ?_)
  · refine z_iconst (v := iI 0) C dX5_kindsOf_16 rfl ?_
    have hc2 : cM1 n i0 = 1 := by unfold cM1; rw [if_pos (b20 h1)]
    exact z_iret C hR dX5_kindsOf_17 (Nat.le_of_ble_eq_true rfl) (Nat.le_of_ble_eq_true rfl) (Or.inr ⟨by omega, rfl, sz, mo, PL, HE, TU, MA, CU, rfl⟩)
  · have hx9 := b21 h1
    obtain ⟨hl9, hs9, ht9⟩ := hm i0 (by omega) (by omega)
    refine z_aload_n (i := 0) C dX5_kindsOf_8 rfl rfl ?_
    refine z_iload_n (i := 1) C dX5_kindsOf_9 rfl rfl ?_
    refine z_callV (n := 1) (As := [.int (iI i0)]) (st := []) (fr := []) C hE (k_rkindsFor l D cI cZ cM cL r e1 e2 e3 e4 e5 e6 e7 e8 e9 e10 e11 e12 e13 e14 n L d sz mo (cM1 n i0) ND US KN AU LE SN KK AT LF PL HE TU MA CU i0 hn hz (fun i a b => (hm i a b).2.1)) gX5_kindsOf_X5_kindsFor rfl ⟨rfl, rfl⟩ (by decide +kernel) ⟨Nat.le_of_ble_eq_true rfl, Nat.le_of_ble_eq_true rfl⟩ rfl rfl (by rw [List.append_nil]) 0 rfl rfl rfl (Nat.le_of_ble_eq_true rfl) ⟨Nat.le_of_ble_eq_true rfl, Nat.le_of_ble_eq_true rfl⟩ dX5_kindsOf_10 (fun r w1 hpo => ?_)
    obtain ⟨rfl, rfl⟩ := hpo
    rw [List.append_nil]
    refine (show zG E Q (0) (0) [(r, .inr (5, [.ref e1, .int (iI (↑n)), .ref e2, .ref e3, .ref e4, .ref e5, .ref e6, .ref e7, .ref e8, .int (iI L), .int d, .ref e9, .ref e10, .ref e11, .ref e12, .ref e13, .int (iI sz), .int (iI mo), .ref e14, .int (iI (cM1 n i0))])), (e1, ar cI 8 ND), (e2, ai cI 8 AU), (e3, ai cI 8 LE), (e4, ai cI 8 SN), (e5, ar cI 8 US), (e6, ai cI 80 KK), (e7, ai cI 80 AT), (e8, ai cI 80 LF), (e9, ar cI 6 KN), (e10, ai cI 32 PL), (e11, ai cI 32 HE), (e12, ai cI 32 TU), (e13, ai cI 32 MA), (e14, ai cI 201 CU)] [some (.ref r), some (.int (iI i0))] 13 [.int (kcB (fun k : Nat => rv AU LE SN KK AT LF k) (mcB US i0) n)] from ?_)
    refine z_goto (tgt := 17) C dX5_kindsOf_13 (by decide) ?_
    have hc2 : cM1 n i0 = 0 := by unfold cM1; rw [if_neg (fun q => q (b21 h1))]
    exact z_iret C hR dX5_kindsOf_17 (Nat.le_of_ble_eq_true rfl) (Nat.le_of_ble_eq_true rfl) (Or.inl ⟨hc2, rfl, sz, mo, PL, HE, TU, MA, CU, by rw [hc2]⟩)
