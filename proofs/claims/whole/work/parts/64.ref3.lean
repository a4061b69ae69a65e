/-! THE REFERENCE: a step, a model's folds. -/
theorem hi_X5_makes_X5 : ∀ w ∈ wsX50, w ∈ wsX5_makes := by decide +kernel
set_option maxHeartbeats 1000000 in
set_option maxRecDepth 100000 in
theorem k_rmakes (l : Launch) (D : va_G) (cI cZ cM cL : ClassId) (r e1 e2 e3 e4 e5 e6 e7 e8 e9 e10 e11 e12 e13 e14 : Nat) (n : Nat) (L : Int) (d : Int32) (sz mo th : Int) (ND US KN : Int → Int32) (AU LE SN KK AT LF PL HE TU MA CU : Int → Int) (len p lf : Int) (hlen : 1 ≤ len ∧ len ≤ 32) (hp : 1 ≤ p ∧ p < sz) (hsz : sz ≤ 32) (hlf : lf = 0 ∨ lf = 1) (hPL : ∀ q, 0 ≤ q → q < len → 0 ≤ PL q ∧ PL q < sz) (hMA : ∀ k, 0 ≤ k → k < 32 → MA k = cnt PL k len.toNat) (hmo : 0 ≤ mo ∧ mo ≤ 32) : zN l yX5_makes wsX5_makes { frames := 1, cells := 0, slots := 0, locals := 22 } D (zTy cI cZ cM cL) [.ref r, .int (iI len), .int (iI p), .int (iI lf)] (rfW cI r e1 e2 e3 e4 e5 e6 e7 e8 e9 e10 e11 e12 e13 e14 n L d sz mo th ND US KN AU LE SN KK AT LF PL HE TU MA CU) (fun r9 w => r9 = none ∧ ∃ P1 H1 T1 M1 : Int → Int, w = (rfW cI r e1 e2 e3 e4 e5 e6 e7 e8 e9 e10 e11 e12 e13 e14 n L d (max p (sz - p)) (max mo (mxR P1 len.toNat)) th ND US KN AU LE SN KK AT LF P1 H1 T1 M1 CU) ∧ (∀ q : Int, 0 ≤ q → q < len → P1 q = (if gz lf p (PL q) then 2 * p - 1 - PL q else PL q) - lw p lf sz ∧ H1 q = hs lf p sz len PL HE q ∧ T1 q = if gz lf p (PL q) then 1 - TU q else TU q) ∧ ∀ k : Int, 0 ≤ k → k < 32 → M1 k = cnt P1 k len.toNat) 0 0 := by
  refine zN_of (cc := cX5_makes) (maxL := 10) (lv0 := [some (.ref r), some (.int (iI len)), some (.int (iI p)), some (.int (iI lf)), none, none, none, none, none, none]) (by decide) rfl rfl (Nat.le_of_ble_eq_true rfl) rfl ?_
  intro E Q C hE hR hI0
  refine (show zG E Q 0 0 [(r, .inr (5, [.ref e1, .int (iI (↑n)), .ref e2, .ref e3, .ref e4, .ref e5, .ref e6, .ref e7, .ref e8, .int (iI L), .int d, .ref e9, .ref e10, .ref e11, .ref e12, .ref e13, .int (iI sz), .int (iI mo), .ref e14, .int (iI th)])), (e1, ar cI 8 ND), (e2, ai cI 8 AU), (e3, ai cI 8 LE), (e4, ai cI 8 SN), (e5, ar cI 8 US), (e6, ai cI 80 KK), (e7, ai cI 80 AT), (e8, ai cI 80 LF), (e9, ar cI 6 KN), (e10, ai cI 32 PL), (e11, ai cI 32 HE), (e12, ai cI 32 TU), (e13, ai cI 32 MA), (e14, ai cI 201 CU)] [some (.ref r), some (.int (iI len)), some (.int (iI p)), some (.int (iI lf)), none, none, none, none, none, none] 0 [] from ?_)
  have k31 : ∀ low : Int, low = lw p lf sz → zG E Q 0 0 [(r, .inr (5, [.ref e1, .int (iI (↑n)), .ref e2, .ref e3, .ref e4, .ref e5, .ref e6, .ref e7, .ref e8, .int (iI L), .int d, .ref e9, .ref e10, .ref e11, .ref e12, .ref e13, .int (iI sz), .int (iI mo), .ref e14, .int (iI th)])), (e1, ar cI 8 ND), (e2, ai cI 8 AU), (e3, ai cI 8 LE), (e4, ai cI 8 SN), (e5, ar cI 8 US), (e6, ai cI 80 KK), (e7, ai cI 80 AT), (e8, ai cI 80 LF), (e9, ar cI 6 KN), (e10, ai cI 32 PL), (e11, ai cI 32 HE), (e12, ai cI 32 TU), (e13, ai cI 32 MA), (e14, ai cI 201 CU)] [some (.ref r), some (.int (iI len)), some (.int (iI p)), some (.int (iI lf)), none, none, none, none, none, none] 31 [.int (iI low)] := by
    intro low hlow
    have lp : ∀ (z : Nat) (c : Nat) (P1 H1 T1 : Int → Int), c ≤ len.toNat → len.toNat - c < z → mkI len p lf sz low PL HE TU c P1 H1 T1 → zG E Q (0) (0) [(r, .inr (5, [.ref e1, .int (iI (↑n)), .ref e2, .ref e3, .ref e4, .ref e5, .ref e6, .ref e7, .ref e8, .int (iI L), .int d, .ref e9, .ref e10, .ref e11, .ref e12, .ref e13, .int (iI sz), .int (iI mo), .ref e14, .int (iI th)])), (e1, ar cI 8 ND), (e2, ai cI 8 AU), (e3, ai cI 8 LE), (e4, ai cI 8 SN), (e5, ar cI 8 US), (e6, ai cI 80 KK), (e7, ai cI 80 AT), (e8, ai cI 80 LF), (e9, ar cI 6 KN), (e10, ai cI 32 P1), (e11, ai cI 32 H1), (e12, ai cI 32 T1), (e13, ai cI 32 MA), (e14, ai cI 201 CU)] [some (.ref r), some (.int (iI len)), some (.int (iI p)), some (.int (iI lf)), some (.int (iI low)), some (.int (iI ↑c)), none, none, none, none] 36 [] := by
      intro z
      induction z with
      | zero => intro c P1 H1 T1 hj hjn hI9; omega
      | succ z ih =>
        intro c P1 H1 T1 hj hjn hI9
        refine z_iload C dX5_makes_36 rfl ?_
        refine z_iload_n (i := 1) C dX5_makes_38 rfl rfl ?_
        refine z_icmp_geI (tgt := 195) C dX5_makes_39 (by decide) ⟨by omega, by omega⟩ ⟨by omega, by omega⟩ (fun hk => ?_) (fun hk => ?_)
        · refine z_aload_n (i := 0) C dX5_makes_195 rfl rfl ?_
          refine z_iload_n (i := 2) C dX5_makes_196 rfl rfl ?_
          refine z_aload_n (i := 0) C dX5_makes_197 rfl rfl ?_
          refine z_get (ci := 5) C (hi_X5_makes_X5) 0 rfl rfl 16 (by decide) (by decide +kernel) rfl dX5_makes_198 ?_
          refine z_iload_n (i := 2) C dX5_makes_201 rfl rfl ?_
          refine z_isubI (v := sz - p) C dX5_makes_202 (by omega) ?_
          refine z_icmp_leI (tgt := 210) C dX5_makes_203 (by decide) ⟨by omega, by omega⟩ ⟨by omega, by omega⟩ (fun hm => ?_) (fun hm => ?_)
          · refine z_aload_n (i := 0) C dX5_makes_210 rfl rfl ?_
            refine z_get (ci := 5) C (hi_X5_makes_X5) 0 rfl rfl 16 (by decide) (by decide +kernel) rfl dX5_makes_211 ?_
            refine z_iload_n (i := 2) C dX5_makes_214 rfl rfl ?_
            refine z_isubI (v := sz - p) C dX5_makes_215 (by omega) ?_
            refine z_put (ci := 5) (ws' := [(r, .inr (5, [.ref e1, .int (iI (↑n)), .ref e2, .ref e3, .ref e4, .ref e5, .ref e6, .ref e7, .ref e8, .int (iI L), .int d, .ref e9, .ref e10, .ref e11, .ref e12, .ref e13, .int (iI (sz - p)), .int (iI mo), .ref e14, .int (iI th)])), (e1, ar cI 8 ND), (e2, ai cI 8 AU), (e3, ai cI 8 LE), (e4, ai cI 8 SN), (e5, ar cI 8 US), (e6, ai cI 80 KK), (e7, ai cI 80 AT), (e8, ai cI 80 LF), (e9, ar cI 6 KN), (e10, ai cI 32 P1), (e11, ai cI 32 H1), (e12, ai cI 32 T1), (e13, ai cI 32 MA), (e14, ai cI 201 CU)]) C (hi_X5_makes_X5) tyX5_ok nmX5 0 rfl rfl 16 (by decide) (by decide +kernel) rfl (tyX5_ok 16 (by decide)) rfl rfl (Nat.le_of_ble_eq_true rfl) rfl dX5_makes_216 ?_
            refine z_aload_n (i := 0) C dX5_makes_219 rfl rfl ?_
            refine z_iload_n (i := 1) C dX5_makes_220 rfl rfl ?_
            refine z_callV (n := 1) (As := [.int (iI len)]) (st := []) (fr := []) C hE (k_rcounts l D cI cZ cM cL r e1 e2 e3 e4 e5 e6 e7 e8 e9 e10 e11 e12 e13 e14 n L d (sz - p) mo th ND US KN AU LE SN KK AT LF P1 H1 T1 MA CU len ⟨by omega, by omega⟩ (fun q a b => by rw [(hI9.1 q a (by omega)).1, hlow]; have hr9 := mk_rng (lf := lf) hp (hPL q a b) hlf; omega) hmo) gX5_makes_X5_counts rfl ⟨rfl, rfl⟩ (by decide +kernel) ⟨Nat.le_of_ble_eq_true rfl, Nat.le_of_ble_eq_true rfl⟩ rfl rfl (by rw [List.append_nil]) 0 rfl rfl rfl (Nat.le_of_ble_eq_true rfl) ⟨Nat.le_of_ble_eq_true rfl, Nat.le_of_ble_eq_true rfl⟩ dX5_makes_221 (fun r w1 hpo => ?_)
            obtain ⟨rfl, M2, rfl, hM2⟩ := hpo
            rw [List.append_nil]
            refine (show zG E Q (0) (0) [(r, .inr (5, [.ref e1, .int (iI (↑n)), .ref e2, .ref e3, .ref e4, .ref e5, .ref e6, .ref e7, .ref e8, .int (iI L), .int d, .ref e9, .ref e10, .ref e11, .ref e12, .ref e13, .int (iI (sz - p)), .int (iI (max mo (mxR P1 len.toNat))), .ref e14, .int (iI th)])), (e1, ar cI 8 ND), (e2, ai cI 8 AU), (e3, ai cI 8 LE), (e4, ai cI 8 SN), (e5, ar cI 8 US), (e6, ai cI 80 KK), (e7, ai cI 80 AT), (e8, ai cI 80 LF), (e9, ar cI 6 KN), (e10, ai cI 32 P1), (e11, ai cI 32 H1), (e12, ai cI 32 T1), (e13, ai cI 32 M2), (e14, ai cI 201 CU)] [some (.ref r), some (.int (iI len)), some (.int (iI p)), some (.int (iI lf)), some (.int (iI low)), some (.int (iI ↑c)), none, none, none, none] 224 [] from ?_)
            exact z_vret C hR dX5_makes_224 (Nat.le_of_ble_eq_true rfl) (Nat.le_of_ble_eq_true rfl) (⟨rfl, P1, H1, T1, M2, by rw [show max p (sz - p) = sz - p by omega], fun q a b => by rw [← hlow]; exact hI9.1 q a (by omega), hM2⟩)
          · refine z_iload_n (i := 2) C dX5_makes_206 rfl rfl ?_
            refine z_goto (tgt := 216) C dX5_makes_207 (by decide) ?_
            refine z_put (ci := 5) (ws' := [(r, .inr (5, [.ref e1, .int (iI (↑n)), .ref e2, .ref e3, .ref e4, .ref e5, .ref e6, .ref e7, .ref e8, .int (iI L), .int d, .ref e9, .ref e10, .ref e11, .ref e12, .ref e13, .int (iI p), .int (iI mo), .ref e14, .int (iI th)])), (e1, ar cI 8 ND), (e2, ai cI 8 AU), (e3, ai cI 8 LE), (e4, ai cI 8 SN), (e5, ar cI 8 US), (e6, ai cI 80 KK), (e7, ai cI 80 AT), (e8, ai cI 80 LF), (e9, ar cI 6 KN), (e10, ai cI 32 P1), (e11, ai cI 32 H1), (e12, ai cI 32 T1), (e13, ai cI 32 MA), (e14, ai cI 201 CU)]) C (hi_X5_makes_X5) tyX5_ok nmX5 0 rfl rfl 16 (by decide) (by decide +kernel) rfl (tyX5_ok 16 (by decide)) rfl rfl (Nat.le_of_ble_eq_true rfl) rfl dX5_makes_216 ?_
            refine z_aload_n (i := 0) C dX5_makes_219 rfl rfl ?_
            refine z_iload_n (i := 1) C dX5_makes_220 rfl rfl ?_
            refine z_callV (n := 1) (As := [.int (iI len)]) (st := []) (fr := []) C hE (k_rcounts l D cI cZ cM cL r e1 e2 e3 e4 e5 e6 e7 e8 e9 e10 e11 e12 e13 e14 n L d p mo th ND US KN AU LE SN KK AT LF P1 H1 T1 MA CU len ⟨by omega, by omega⟩ (fun q a b => by rw [(hI9.1 q a (by omega)).1, hlow]; have hr9 := mk_rng (lf := lf) hp (hPL q a b) hlf; omega) hmo) gX5_makes_X5_counts rfl ⟨rfl, rfl⟩ (by decide +kernel) ⟨Nat.le_of_ble_eq_true rfl, Nat.le_of_ble_eq_true rfl⟩ rfl rfl (by rw [List.append_nil]) 0 rfl rfl rfl (Nat.le_of_ble_eq_true rfl) ⟨Nat.le_of_ble_eq_true rfl, Nat.le_of_ble_eq_true rfl⟩ dX5_makes_221 (fun r w1 hpo => ?_)
            obtain ⟨rfl, M2, rfl, hM2⟩ := hpo
            rw [List.append_nil]
            refine (show zG E Q (0) (0) [(r, .inr (5, [.ref e1, .int (iI (↑n)), .ref e2, .ref e3, .ref e4, .ref e5, .ref e6, .ref e7, .ref e8, .int (iI L), .int d, .ref e9, .ref e10, .ref e11, .ref e12, .ref e13, .int (iI p), .int (iI (max mo (mxR P1 len.toNat))), .ref e14, .int (iI th)])), (e1, ar cI 8 ND), (e2, ai cI 8 AU), (e3, ai cI 8 LE), (e4, ai cI 8 SN), (e5, ar cI 8 US), (e6, ai cI 80 KK), (e7, ai cI 80 AT), (e8, ai cI 80 LF), (e9, ar cI 6 KN), (e10, ai cI 32 P1), (e11, ai cI 32 H1), (e12, ai cI 32 T1), (e13, ai cI 32 M2), (e14, ai cI 201 CU)] [some (.ref r), some (.int (iI len)), some (.int (iI p)), some (.int (iI lf)), some (.int (iI low)), some (.int (iI ↑c)), none, none, none, none] 224 [] from ?_)
            exact z_vret C hR dX5_makes_224 (Nat.le_of_ble_eq_true rfl) (Nat.le_of_ble_eq_true rfl) (⟨rfl, P1, H1, T1, M2, by rw [show max p (sz - p) = p by omega], fun q a b => by rw [← hlow]; exact hI9.1 q a (by omega), hM2⟩)
        · have hq9 := hPL ↑c (by omega) (by omega)
          obtain ⟨ho1, ho2, ho3⟩ := hI9.2 ↑c (Int.le_refl _)
          have hlr : -64 ≤ low ∧ low ≤ 64 := by rw [hlow]; unfold lw; split <;> omega
          refine z_aload_n (i := 0) C dX5_makes_42 rfl rfl ?_
          refine z_get (ci := 5) C (hi_X5_makes_X5) 0 rfl rfl 12 (by decide) (by decide +kernel) rfl dX5_makes_43 ?_
          refine z_iload C dX5_makes_46 rfl ?_
          refine z_ialoadI 10 (he := rfl) C (zT_of hE (t0 := 0) rfl) (by omega) (by omega) (by decide) dX5_makes_48 ?_
          refine z_top (y := iI (PL ↑c)) (by rw [ho1]) ?_
          refine z_istore (lv' := [some (.ref r), some (.int (iI len)), some (.int (iI p)), some (.int (iI lf)), some (.int (iI low)), some (.int (iI ↑c)), some (.int (iI (PL ↑c))), none, none, none]) C dX5_makes_49 rfl rfl ?_
          refine z_iload_n (i := 3) C dX5_makes_51 rfl rfl ?_
          refine z_if_eqI (tgt := 69) C dX5_makes_52 (by decide) ⟨by omega, by omega⟩ (fun hl => ?_) (fun hl => ?_)
          · refine z_iload C dX5_makes_69 rfl ?_
            refine z_iload_n (i := 2) C dX5_makes_71 rfl rfl ?_
            refine z_icmp_ltI (tgt := 79) C dX5_makes_72 (by decide) ⟨by omega, by omega⟩ ⟨by omega, by omega⟩ (fun hg2 => ?_) (fun hg2 => ?_)
            · refine z_iconst (v := iI 0) C dX5_makes_79 rfl ?_
              refine z_istore (lv' := [some (.ref r), some (.int (iI len)), some (.int (iI p)), some (.int (iI lf)), some (.int (iI low)), some (.int (iI ↑c)), some (.int (iI (PL ↑c))), some (.int (iI 0)), none, none]) C dX5_makes_80 rfl rfl ?_
              refine z_iload C dX5_makes_82 rfl ?_
              refine z_if_eqI (tgt := 98) C dX5_makes_84 (by decide) ⟨by omega, by omega⟩ (fun _ => ?_) (fun h => by exfalso; omega)
              refine z_iload C dX5_makes_98 rfl ?_
              refine z_istore (lv' := [some (.ref r), some (.int (iI len)), some (.int (iI p)), some (.int (iI lf)), some (.int (iI low)), some (.int (iI ↑c)), some (.int (iI (PL ↑c))), some (.int (iI 0)), some (.int (iI (PL ↑c))), none]) C dX5_makes_100 rfl rfl ?_
              refine z_iload C dX5_makes_102 rfl ?_
              refine z_if_eqI (tgt := 177) C dX5_makes_104 (by decide) ⟨by omega, by omega⟩ (fun _ => ?_) (fun h => by exfalso; omega)
              refine z_aload_n (i := 0) C dX5_makes_177 rfl rfl ?_
              refine z_get (ci := 5) C (hi_X5_makes_X5) 0 rfl rfl 12 (by decide) (by decide +kernel) rfl dX5_makes_178 ?_
              refine z_iload C dX5_makes_181 rfl ?_
              refine z_iload C dX5_makes_183 rfl ?_
              refine z_iload C dX5_makes_185 rfl ?_
              refine z_isubI (v := (PL ↑c) - low) C dX5_makes_187 (by omega) ?_
              refine z_iastoreI 10 (he := rfl) (ws' := [(r, .inr (5, [.ref e1, .int (iI (↑n)), .ref e2, .ref e3, .ref e4, .ref e5, .ref e6, .ref e7, .ref e8, .int (iI L), .int d, .ref e9, .ref e10, .ref e11, .ref e12, .ref e13, .int (iI sz), .int (iI mo), .ref e14, .int (iI th)])), (e1, ar cI 8 ND), (e2, ai cI 8 AU), (e3, ai cI 8 LE), (e4, ai cI 8 SN), (e5, ar cI 8 US), (e6, ai cI 80 KK), (e7, ai cI 80 AT), (e8, ai cI 80 LF), (e9, ar cI 6 KN), (e10, ai cI 32 (zup P1 (↑c) ((PL ↑c) - low))), (e11, ai cI 32 H1), (e12, ai cI 32 T1), (e13, ai cI 32 MA), (e14, ai cI 201 CU)]) C (zT_of hE (t0 := 0) rfl) (by omega) (by omega) (by decide) rfl dX5_makes_188 ?_
              refine z_iincI (v := ↑(c + 1)) (lv' := [some (.ref r), some (.int (iI len)), some (.int (iI p)), some (.int (iI lf)), some (.int (iI low)), some (.int (iI (↑(c + 1)))), some (.int (iI (PL ↑c))), some (.int (iI 0)), some (.int (iI (PL ↑c))), none]) C dX5_makes_189 rfl (by omega) rfl ?_
              refine z_goto (tgt := 36) C dX5_makes_192 (by decide) ?_
              refine z_le (r := [some (.ref r), some (.int (iI len)), some (.int (iI p)), some (.int (iI lf)), some (.int (iI low)), some (.int (iI ↑(c + 1))), none, none, none, none]) ⟨Or.inr rfl, Or.inr rfl, Or.inr rfl, Or.inr rfl, Or.inr rfl, Or.inr rfl, Or.inl rfl, Or.inl rfl, Or.inl rfl, Or.inl rfl, trivial⟩ ?_
              exact ih (c + 1) _ _ _ (by omega) (by omega) (mkI_f hI9 (by omega) rfl)
            · refine z_iconst (v := iI 1) C dX5_makes_75 rfl ?_
              refine z_goto (tgt := 80) C dX5_makes_76 (by decide) ?_
              refine z_istore (lv' := [some (.ref r), some (.int (iI len)), some (.int (iI p)), some (.int (iI lf)), some (.int (iI low)), some (.int (iI ↑c)), some (.int (iI (PL ↑c))), some (.int (iI 1)), none, none]) C dX5_makes_80 rfl rfl ?_
              refine z_iload C dX5_makes_82 rfl ?_
              refine z_if_eqI (tgt := 98) C dX5_makes_84 (by decide) ⟨by omega, by omega⟩ (fun h => by exfalso; omega) (fun _ => ?_)
              refine z_iconst (v := iI 2) C dX5_makes_87 rfl ?_
              refine z_iload_n (i := 2) C dX5_makes_88 rfl rfl ?_
              refine z_imulI (v := 2 * p) C dX5_makes_89 (by rfl) ?_
              refine z_iconst (v := iI 1) C dX5_makes_90 rfl ?_
              refine z_isubI (v := (2 * p) - 1) C dX5_makes_91 (by omega) ?_
              refine z_iload C dX5_makes_92 rfl ?_
              refine z_isubI (v := ((2 * p) - 1) - (PL ↑c)) C dX5_makes_94 (by omega) ?_
              refine z_goto (tgt := 100) C dX5_makes_95 (by decide) ?_
              refine z_istore (lv' := [some (.ref r), some (.int (iI len)), some (.int (iI p)), some (.int (iI lf)), some (.int (iI low)), some (.int (iI ↑c)), some (.int (iI (PL ↑c))), some (.int (iI 1)), some (.int (iI (((2 * p) - 1) - (PL ↑c)))), none]) C dX5_makes_100 rfl rfl ?_
              refine z_iload C dX5_makes_102 rfl ?_
              refine z_if_eqI (tgt := 177) C dX5_makes_104 (by decide) ⟨by omega, by omega⟩ (fun h => by exfalso; omega) (fun _ => ?_)
              refine z_iload C dX5_makes_107 rfl ?_
              refine z_if_ltI (tgt := 131) C dX5_makes_109 (by decide) ⟨by omega, by omega⟩ (fun hi1 => ?_) (fun hi1 => ?_)
              · refine z_iconst (v := iI 0) C dX5_makes_131 rfl ?_
                refine z_istore (lv' := [some (.ref r), some (.int (iI len)), some (.int (iI p)), some (.int (iI lf)), some (.int (iI low)), some (.int (iI ↑c)), some (.int (iI (PL ↑c))), some (.int (iI 1)), some (.int (iI (((2 * p) - 1) - (PL ↑c)))), some (.int (iI 0))]) C dX5_makes_132 rfl rfl ?_
                refine z_aload_n (i := 0) C dX5_makes_134 rfl rfl ?_
                refine z_get (ci := 5) C (hi_X5_makes_X5) 0 rfl rfl 13 (by decide) (by decide +kernel) rfl dX5_makes_135 ?_
                refine z_iload C dX5_makes_138 rfl ?_
                refine z_iload C dX5_makes_140 rfl ?_
                refine z_aload_n (i := 0) C dX5_makes_142 rfl rfl ?_
                refine z_get (ci := 5) C (hi_X5_makes_X5) 0 rfl rfl 15 (by decide) (by decide +kernel) rfl dX5_makes_143 ?_
                refine z_iload C dX5_makes_146 rfl ?_
                refine z_ialoadI 13 (he := rfl) C (zT_of hE (t0 := 0) rfl) (by omega) (by omega) (by decide) dX5_makes_148 ?_
                refine z_iaddI (v := 0 + (MA (PL ↑c))) C dX5_makes_149 (by omega) ?_
                refine z_iconst (v := iI 1) C dX5_makes_150 rfl ?_
                refine z_isubI (v := (0 + (MA (PL ↑c))) - 1) C dX5_makes_151 (by omega) ?_
                refine z_aload_n (i := 0) C dX5_makes_152 rfl rfl ?_
                refine z_get (ci := 5) C (hi_X5_makes_X5) 0 rfl rfl 13 (by decide) (by decide +kernel) rfl dX5_makes_153 ?_
                refine z_iload C dX5_makes_156 rfl ?_
                refine z_ialoadI 11 (he := rfl) C (zT_of hE (t0 := 0) rfl) (by omega) (by omega) (by decide) dX5_makes_158 ?_
                refine z_top (y := iI (HE ↑c)) (by rw [ho2]) ?_
                refine z_isubI (v := ((0 + (MA (PL ↑c))) - 1) - (HE ↑c)) C dX5_makes_159 (by omega) ?_
                refine z_iastoreI 11 (he := rfl) (ws' := [(r, .inr (5, [.ref e1, .int (iI (↑n)), .ref e2, .ref e3, .ref e4, .ref e5, .ref e6, .ref e7, .ref e8, .int (iI L), .int d, .ref e9, .ref e10, .ref e11, .ref e12, .ref e13, .int (iI sz), .int (iI mo), .ref e14, .int (iI th)])), (e1, ar cI 8 ND), (e2, ai cI 8 AU), (e3, ai cI 8 LE), (e4, ai cI 8 SN), (e5, ar cI 8 US), (e6, ai cI 80 KK), (e7, ai cI 80 AT), (e8, ai cI 80 LF), (e9, ar cI 6 KN), (e10, ai cI 32 P1), (e11, ai cI 32 (zup H1 (↑c) (((0 + (MA (PL ↑c))) - 1) - (HE ↑c)))), (e12, ai cI 32 T1), (e13, ai cI 32 MA), (e14, ai cI 201 CU)]) C (zT_of hE (t0 := 0) rfl) (by omega) (by omega) (by decide) rfl dX5_makes_160 ?_
                refine z_aload_n (i := 0) C dX5_makes_161 rfl rfl ?_
                refine z_get (ci := 5) C (hi_X5_makes_X5) 0 rfl rfl 14 (by decide) (by decide +kernel) rfl dX5_makes_162 ?_
                refine z_iload C dX5_makes_165 rfl ?_
                refine z_iconst (v := iI 1) C dX5_makes_167 rfl ?_
                refine z_aload_n (i := 0) C dX5_makes_168 rfl rfl ?_
                refine z_get (ci := 5) C (hi_X5_makes_X5) 0 rfl rfl 14 (by decide) (by decide +kernel) rfl dX5_makes_169 ?_
                refine z_iload C dX5_makes_172 rfl ?_
                refine z_ialoadI 12 (he := rfl) C (zT_of hE (t0 := 0) rfl) (by omega) (by omega) (by decide) dX5_makes_174 ?_
                refine z_top (y := iI (TU ↑c)) (by rw [ho3]) ?_
                refine z_isubI (v := 1 - (TU ↑c)) C dX5_makes_175 (by omega) ?_
                refine z_iastoreI 12 (he := rfl) (ws' := [(r, .inr (5, [.ref e1, .int (iI (↑n)), .ref e2, .ref e3, .ref e4, .ref e5, .ref e6, .ref e7, .ref e8, .int (iI L), .int d, .ref e9, .ref e10, .ref e11, .ref e12, .ref e13, .int (iI sz), .int (iI mo), .ref e14, .int (iI th)])), (e1, ar cI 8 ND), (e2, ai cI 8 AU), (e3, ai cI 8 LE), (e4, ai cI 8 SN), (e5, ar cI 8 US), (e6, ai cI 80 KK), (e7, ai cI 80 AT), (e8, ai cI 80 LF), (e9, ar cI 6 KN), (e10, ai cI 32 P1), (e11, ai cI 32 (zup H1 (↑c) (((0 + (MA (PL ↑c))) - 1) - (HE ↑c)))), (e12, ai cI 32 (zup T1 (↑c) (1 - (TU ↑c)))), (e13, ai cI 32 MA), (e14, ai cI 201 CU)]) C (zT_of hE (t0 := 0) rfl) (by omega) (by omega) (by decide) rfl dX5_makes_176 ?_
                refine z_aload_n (i := 0) C dX5_makes_177 rfl rfl ?_
                refine z_get (ci := 5) C (hi_X5_makes_X5) 0 rfl rfl 12 (by decide) (by decide +kernel) rfl dX5_makes_178 ?_
                refine z_iload C dX5_makes_181 rfl ?_
                refine z_iload C dX5_makes_183 rfl ?_
                refine z_iload C dX5_makes_185 rfl ?_
                refine z_isubI (v := (((2 * p) - 1) - (PL ↑c)) - low) C dX5_makes_187 (by omega) ?_
                refine z_iastoreI 10 (he := rfl) (ws' := [(r, .inr (5, [.ref e1, .int (iI (↑n)), .ref e2, .ref e3, .ref e4, .ref e5, .ref e6, .ref e7, .ref e8, .int (iI L), .int d, .ref e9, .ref e10, .ref e11, .ref e12, .ref e13, .int (iI sz), .int (iI mo), .ref e14, .int (iI th)])), (e1, ar cI 8 ND), (e2, ai cI 8 AU), (e3, ai cI 8 LE), (e4, ai cI 8 SN), (e5, ar cI 8 US), (e6, ai cI 80 KK), (e7, ai cI 80 AT), (e8, ai cI 80 LF), (e9, ar cI 6 KN), (e10, ai cI 32 (zup P1 (↑c) ((((2 * p) - 1) - (PL ↑c)) - low))), (e11, ai cI 32 (zup H1 (↑c) (((0 + (MA (PL ↑c))) - 1) - (HE ↑c)))), (e12, ai cI 32 (zup T1 (↑c) (1 - (TU ↑c)))), (e13, ai cI 32 MA), (e14, ai cI 201 CU)]) C (zT_of hE (t0 := 0) rfl) (by omega) (by omega) (by decide) rfl dX5_makes_188 ?_
                refine z_iincI (v := ↑(c + 1)) (lv' := [some (.ref r), some (.int (iI len)), some (.int (iI p)), some (.int (iI lf)), some (.int (iI low)), some (.int (iI (↑(c + 1)))), some (.int (iI (PL ↑c))), some (.int (iI 1)), some (.int (iI (((2 * p) - 1) - (PL ↑c)))), some (.int (iI 0))]) C dX5_makes_189 rfl (by omega) rfl ?_
                refine z_goto (tgt := 36) C dX5_makes_192 (by decide) ?_
                refine z_le (r := [some (.ref r), some (.int (iI len)), some (.int (iI p)), some (.int (iI lf)), some (.int (iI low)), some (.int (iI ↑(c + 1))), none, none, none, none]) ⟨Or.inr rfl, Or.inr rfl, Or.inr rfl, Or.inr rfl, Or.inr rfl, Or.inr rfl, Or.inl rfl, Or.inl rfl, Or.inl rfl, Or.inl rfl, trivial⟩ ?_
                exact ih (c + 1) _ _ _ (by omega) (by omega) (mkI_t hI9 (by omega) rfl (hs_t (by omega) hMA (by omega) hq9 (by rw [if_neg (by omega)])) rfl)
              · refine z_iload C dX5_makes_112 rfl ?_
                refine z_aload_n (i := 0) C dX5_makes_114 rfl rfl ?_
                refine z_get (ci := 5) C (hi_X5_makes_X5) 0 rfl rfl 16 (by decide) (by decide +kernel) rfl dX5_makes_115 ?_
                refine z_icmp_geI (tgt := 131) C dX5_makes_118 (by decide) ⟨by omega, by omega⟩ ⟨by omega, by omega⟩ (fun hi2 => ?_) (fun hi2 => ?_)
                · refine z_iconst (v := iI 0) C dX5_makes_131 rfl ?_
                  refine z_istore (lv' := [some (.ref r), some (.int (iI len)), some (.int (iI p)), some (.int (iI lf)), some (.int (iI low)), some (.int (iI ↑c)), some (.int (iI (PL ↑c))), some (.int (iI 1)), some (.int (iI (((2 * p) - 1) - (PL ↑c)))), some (.int (iI 0))]) C dX5_makes_132 rfl rfl ?_
                  refine z_aload_n (i := 0) C dX5_makes_134 rfl rfl ?_
                  refine z_get (ci := 5) C (hi_X5_makes_X5) 0 rfl rfl 13 (by decide) (by decide +kernel) rfl dX5_makes_135 ?_
                  refine z_iload C dX5_makes_138 rfl ?_
                  refine z_iload C dX5_makes_140 rfl ?_
                  refine z_aload_n (i := 0) C dX5_makes_142 rfl rfl ?_
                  refine z_get (ci := 5) C (hi_X5_makes_X5) 0 rfl rfl 15 (by decide) (by decide +kernel) rfl dX5_makes_143 ?_
                  refine z_iload C dX5_makes_146 rfl ?_
                  refine z_ialoadI 13 (he := rfl) C (zT_of hE (t0 := 0) rfl) (by omega) (by omega) (by decide) dX5_makes_148 ?_
                  refine z_iaddI (v := 0 + (MA (PL ↑c))) C dX5_makes_149 (by omega) ?_
                  refine z_iconst (v := iI 1) C dX5_makes_150 rfl ?_
                  refine z_isubI (v := (0 + (MA (PL ↑c))) - 1) C dX5_makes_151 (by omega) ?_
                  refine z_aload_n (i := 0) C dX5_makes_152 rfl rfl ?_
                  refine z_get (ci := 5) C (hi_X5_makes_X5) 0 rfl rfl 13 (by decide) (by decide +kernel) rfl dX5_makes_153 ?_
                  refine z_iload C dX5_makes_156 rfl ?_
                  refine z_ialoadI 11 (he := rfl) C (zT_of hE (t0 := 0) rfl) (by omega) (by omega) (by decide) dX5_makes_158 ?_
                  refine z_top (y := iI (HE ↑c)) (by rw [ho2]) ?_
                  refine z_isubI (v := ((0 + (MA (PL ↑c))) - 1) - (HE ↑c)) C dX5_makes_159 (by omega) ?_
                  refine z_iastoreI 11 (he := rfl) (ws' := [(r, .inr (5, [.ref e1, .int (iI (↑n)), .ref e2, .ref e3, .ref e4, .ref e5, .ref e6, .ref e7, .ref e8, .int (iI L), .int d, .ref e9, .ref e10, .ref e11, .ref e12, .ref e13, .int (iI sz), .int (iI mo), .ref e14, .int (iI th)])), (e1, ar cI 8 ND), (e2, ai cI 8 AU), (e3, ai cI 8 LE), (e4, ai cI 8 SN), (e5, ar cI 8 US), (e6, ai cI 80 KK), (e7, ai cI 80 AT), (e8, ai cI 80 LF), (e9, ar cI 6 KN), (e10, ai cI 32 P1), (e11, ai cI 32 (zup H1 (↑c) (((0 + (MA (PL ↑c))) - 1) - (HE ↑c)))), (e12, ai cI 32 T1), (e13, ai cI 32 MA), (e14, ai cI 201 CU)]) C (zT_of hE (t0 := 0) rfl) (by omega) (by omega) (by decide) rfl dX5_makes_160 ?_
                  refine z_aload_n (i := 0) C dX5_makes_161 rfl rfl ?_
                  refine z_get (ci := 5) C (hi_X5_makes_X5) 0 rfl rfl 14 (by decide) (by decide +kernel) rfl dX5_makes_162 ?_
                  refine z_iload C dX5_makes_165 rfl ?_
                  refine z_iconst (v := iI 1) C dX5_makes_167 rfl ?_
                  refine z_aload_n (i := 0) C dX5_makes_168 rfl rfl ?_
                  refine z_get (ci := 5) C (hi_X5_makes_X5) 0 rfl rfl 14 (by decide) (by decide +kernel) rfl dX5_makes_169 ?_
                  refine z_iload C dX5_makes_172 rfl ?_
                  refine z_ialoadI 12 (he := rfl) C (zT_of hE (t0 := 0) rfl) (by omega) (by omega) (by decide) dX5_makes_174 ?_
                  refine z_top (y := iI (TU ↑c)) (by rw [ho3]) ?_
                  refine z_isubI (v := 1 - (TU ↑c)) C dX5_makes_175 (by omega) ?_
                  refine z_iastoreI 12 (he := rfl) (ws' := [(r, .inr (5, [.ref e1, .int (iI (↑n)), .ref e2, .ref e3, .ref e4, .ref e5, .ref e6, .ref e7, .ref e8, .int (iI L), .int d, .ref e9, .ref e10, .ref e11, .ref e12, .ref e13, .int (iI sz), .int (iI mo), .ref e14, .int (iI th)])), (e1, ar cI 8 ND), (e2, ai cI 8 AU), (e3, ai cI 8 LE), (e4, ai cI 8 SN), (e5, ar cI 8 US), (e6, ai cI 80 KK), (e7, ai cI 80 AT), (e8, ai cI 80 LF), (e9, ar cI 6 KN), (e10, ai cI 32 P1), (e11, ai cI 32 (zup H1 (↑c) (((0 + (MA (PL ↑c))) - 1) - (HE ↑c)))), (e12, ai cI 32 (zup T1 (↑c) (1 - (TU ↑c)))), (e13, ai cI 32 MA), (e14, ai cI 201 CU)]) C (zT_of hE (t0 := 0) rfl) (by omega) (by omega) (by decide) rfl dX5_makes_176 ?_
                  refine z_aload_n (i := 0) C dX5_makes_177 rfl rfl ?_
                  refine z_get (ci := 5) C (hi_X5_makes_X5) 0 rfl rfl 12 (by decide) (by decide +kernel) rfl dX5_makes_178 ?_
                  refine z_iload C dX5_makes_181 rfl ?_
                  refine z_iload C dX5_makes_183 rfl ?_
                  refine z_iload C dX5_makes_185 rfl ?_
                  refine z_isubI (v := (((2 * p) - 1) - (PL ↑c)) - low) C dX5_makes_187 (by omega) ?_
                  refine z_iastoreI 10 (he := rfl) (ws' := [(r, .inr (5, [.ref e1, .int (iI (↑n)), .ref e2, .ref e3, .ref e4, .ref e5, .ref e6, .ref e7, .ref e8, .int (iI L), .int d, .ref e9, .ref e10, .ref e11, .ref e12, .ref e13, .int (iI sz), .int (iI mo), .ref e14, .int (iI th)])), (e1, ar cI 8 ND), (e2, ai cI 8 AU), (e3, ai cI 8 LE), (e4, ai cI 8 SN), (e5, ar cI 8 US), (e6, ai cI 80 KK), (e7, ai cI 80 AT), (e8, ai cI 80 LF), (e9, ar cI 6 KN), (e10, ai cI 32 (zup P1 (↑c) ((((2 * p) - 1) - (PL ↑c)) - low))), (e11, ai cI 32 (zup H1 (↑c) (((0 + (MA (PL ↑c))) - 1) - (HE ↑c)))), (e12, ai cI 32 (zup T1 (↑c) (1 - (TU ↑c)))), (e13, ai cI 32 MA), (e14, ai cI 201 CU)]) C (zT_of hE (t0 := 0) rfl) (by omega) (by omega) (by decide) rfl dX5_makes_188 ?_
                  refine z_iincI (v := ↑(c + 1)) (lv' := [some (.ref r), some (.int (iI len)), some (.int (iI p)), some (.int (iI lf)), some (.int (iI low)), some (.int (iI (↑(c + 1)))), some (.int (iI (PL ↑c))), some (.int (iI 1)), some (.int (iI (((2 * p) - 1) - (PL ↑c)))), some (.int (iI 0))]) C dX5_makes_189 rfl (by omega) rfl ?_
                  refine z_goto (tgt := 36) C dX5_makes_192 (by decide) ?_
                  refine z_le (r := [some (.ref r), some (.int (iI len)), some (.int (iI p)), some (.int (iI lf)), some (.int (iI low)), some (.int (iI ↑(c + 1))), none, none, none, none]) ⟨Or.inr rfl, Or.inr rfl, Or.inr rfl, Or.inr rfl, Or.inr rfl, Or.inr rfl, Or.inl rfl, Or.inl rfl, Or.inl rfl, Or.inl rfl, trivial⟩ ?_
                  exact ih (c + 1) _ _ _ (by omega) (by omega) (mkI_t hI9 (by omega) rfl (hs_t (by omega) hMA (by omega) hq9 (by rw [if_neg (by omega)])) rfl)
                · refine z_aload_n (i := 0) C dX5_makes_121 rfl rfl ?_
                  refine z_get (ci := 5) C (hi_X5_makes_X5) 0 rfl rfl 15 (by decide) (by decide +kernel) rfl dX5_makes_122 ?_
                  refine z_iload C dX5_makes_125 rfl ?_
                  refine z_ialoadI 13 (he := rfl) C (zT_of hE (t0 := 0) rfl) (by omega) (by omega) (by decide) dX5_makes_127 ?_
                  refine z_goto (tgt := 132) C dX5_makes_128 (by decide) ?_
                  refine z_istore (lv' := [some (.ref r), some (.int (iI len)), some (.int (iI p)), some (.int (iI lf)), some (.int (iI low)), some (.int (iI ↑c)), some (.int (iI (PL ↑c))), some (.int (iI 1)), some (.int (iI (((2 * p) - 1) - (PL ↑c)))), some (.int (iI (MA (((2 * p) - 1) - (PL ↑c)))))]) C dX5_makes_132 rfl rfl ?_
                  refine z_aload_n (i := 0) C dX5_makes_134 rfl rfl ?_
                  refine z_get (ci := 5) C (hi_X5_makes_X5) 0 rfl rfl 13 (by decide) (by decide +kernel) rfl dX5_makes_135 ?_
                  refine z_iload C dX5_makes_138 rfl ?_
                  refine z_iload C dX5_makes_140 rfl ?_
                  refine z_aload_n (i := 0) C dX5_makes_142 rfl rfl ?_
                  refine z_get (ci := 5) C (hi_X5_makes_X5) 0 rfl rfl 15 (by decide) (by decide +kernel) rfl dX5_makes_143 ?_
                  refine z_iload C dX5_makes_146 rfl ?_
                  refine z_ialoadI 13 (he := rfl) C (zT_of hE (t0 := 0) rfl) (by omega) (by omega) (by decide) dX5_makes_148 ?_
                  refine z_iaddI (v := (MA (((2 * p) - 1) - (PL ↑c))) + (MA (PL ↑c))) C dX5_makes_149 (by omega) ?_
                  refine z_iconst (v := iI 1) C dX5_makes_150 rfl ?_
                  refine z_isubI (v := ((MA (((2 * p) - 1) - (PL ↑c))) + (MA (PL ↑c))) - 1) C dX5_makes_151 (by omega) ?_
                  refine z_aload_n (i := 0) C dX5_makes_152 rfl rfl ?_
                  refine z_get (ci := 5) C (hi_X5_makes_X5) 0 rfl rfl 13 (by decide) (by decide +kernel) rfl dX5_makes_153 ?_
                  refine z_iload C dX5_makes_156 rfl ?_
                  refine z_ialoadI 11 (he := rfl) C (zT_of hE (t0 := 0) rfl) (by omega) (by omega) (by decide) dX5_makes_158 ?_
                  refine z_top (y := iI (HE ↑c)) (by rw [ho2]) ?_
                  refine z_isubI (v := (((MA (((2 * p) - 1) - (PL ↑c))) + (MA (PL ↑c))) - 1) - (HE ↑c)) C dX5_makes_159 (by omega) ?_
                  refine z_iastoreI 11 (he := rfl) (ws' := [(r, .inr (5, [.ref e1, .int (iI (↑n)), .ref e2, .ref e3, .ref e4, .ref e5, .ref e6, .ref e7, .ref e8, .int (iI L), .int d, .ref e9, .ref e10, .ref e11, .ref e12, .ref e13, .int (iI sz), .int (iI mo), .ref e14, .int (iI th)])), (e1, ar cI 8 ND), (e2, ai cI 8 AU), (e3, ai cI 8 LE), (e4, ai cI 8 SN), (e5, ar cI 8 US), (e6, ai cI 80 KK), (e7, ai cI 80 AT), (e8, ai cI 80 LF), (e9, ar cI 6 KN), (e10, ai cI 32 P1), (e11, ai cI 32 (zup H1 (↑c) ((((MA (((2 * p) - 1) - (PL ↑c))) + (MA (PL ↑c))) - 1) - (HE ↑c)))), (e12, ai cI 32 T1), (e13, ai cI 32 MA), (e14, ai cI 201 CU)]) C (zT_of hE (t0 := 0) rfl) (by omega) (by omega) (by decide) rfl dX5_makes_160 ?_
                  refine z_aload_n (i := 0) C dX5_makes_161 rfl rfl ?_
                  refine z_get (ci := 5) C (hi_X5_makes_X5) 0 rfl rfl 14 (by decide) (by decide +kernel) rfl dX5_makes_162 ?_
                  refine z_iload C dX5_makes_165 rfl ?_
                  refine z_iconst (v := iI 1) C dX5_makes_167 rfl ?_
                  refine z_aload_n (i := 0) C dX5_makes_168 rfl rfl ?_
                  refine z_get (ci := 5) C (hi_X5_makes_X5) 0 rfl rfl 14 (by decide) (by decide +kernel) rfl dX5_makes_169 ?_
                  refine z_iload C dX5_makes_172 rfl ?_
                  refine z_ialoadI 12 (he := rfl) C (zT_of hE (t0 := 0) rfl) (by omega) (by omega) (by decide) dX5_makes_174 ?_
                  refine z_top (y := iI (TU ↑c)) (by rw [ho3]) ?_
                  refine z_isubI (v := 1 - (TU ↑c)) C dX5_makes_175 (by omega) ?_
                  refine z_iastoreI 12 (he := rfl) (ws' := [(r, .inr (5, [.ref e1, .int (iI (↑n)), .ref e2, .ref e3, .ref e4, .ref e5, .ref e6, .ref e7, .ref e8, .int (iI L), .int d, .ref e9, .ref e10, .ref e11, .ref e12, .ref e13, .int (iI sz), .int (iI mo), .ref e14, .int (iI th)])), (e1, ar cI 8 ND), (e2, ai cI 8 AU), (e3, ai cI 8 LE), (e4, ai cI 8 SN), (e5, ar cI 8 US), (e6, ai cI 80 KK), (e7, ai cI 80 AT), (e8, ai cI 80 LF), (e9, ar cI 6 KN), (e10, ai cI 32 P1), (e11, ai cI 32 (zup H1 (↑c) ((((MA (((2 * p) - 1) - (PL ↑c))) + (MA (PL ↑c))) - 1) - (HE ↑c)))), (e12, ai cI 32 (zup T1 (↑c) (1 - (TU ↑c)))), (e13, ai cI 32 MA), (e14, ai cI 201 CU)]) C (zT_of hE (t0 := 0) rfl) (by omega) (by omega) (by decide) rfl dX5_makes_176 ?_
                  refine z_aload_n (i := 0) C dX5_makes_177 rfl rfl ?_
                  refine z_get (ci := 5) C (hi_X5_makes_X5) 0 rfl rfl 12 (by decide) (by decide +kernel) rfl dX5_makes_178 ?_
                  refine z_iload C dX5_makes_181 rfl ?_
                  refine z_iload C dX5_makes_183 rfl ?_
                  refine z_iload C dX5_makes_185 rfl ?_
                  refine z_isubI (v := (((2 * p) - 1) - (PL ↑c)) - low) C dX5_makes_187 (by omega) ?_
                  refine z_iastoreI 10 (he := rfl) (ws' := [(r, .inr (5, [.ref e1, .int (iI (↑n)), .ref e2, .ref e3, .ref e4, .ref e5, .ref e6, .ref e7, .ref e8, .int (iI L), .int d, .ref e9, .ref e10, .ref e11, .ref e12, .ref e13, .int (iI sz), .int (iI mo), .ref e14, .int (iI th)])), (e1, ar cI 8 ND), (e2, ai cI 8 AU), (e3, ai cI 8 LE), (e4, ai cI 8 SN), (e5, ar cI 8 US), (e6, ai cI 80 KK), (e7, ai cI 80 AT), (e8, ai cI 80 LF), (e9, ar cI 6 KN), (e10, ai cI 32 (zup P1 (↑c) ((((2 * p) - 1) - (PL ↑c)) - low))), (e11, ai cI 32 (zup H1 (↑c) ((((MA (((2 * p) - 1) - (PL ↑c))) + (MA (PL ↑c))) - 1) - (HE ↑c)))), (e12, ai cI 32 (zup T1 (↑c) (1 - (TU ↑c)))), (e13, ai cI 32 MA), (e14, ai cI 201 CU)]) C (zT_of hE (t0 := 0) rfl) (by omega) (by omega) (by decide) rfl dX5_makes_188 ?_
                  refine z_iincI (v := ↑(c + 1)) (lv' := [some (.ref r), some (.int (iI len)), some (.int (iI p)), some (.int (iI lf)), some (.int (iI low)), some (.int (iI (↑(c + 1)))), some (.int (iI (PL ↑c))), some (.int (iI 1)), some (.int (iI (((2 * p) - 1) - (PL ↑c)))), some (.int (iI (MA (((2 * p) - 1) - (PL ↑c)))))]) C dX5_makes_189 rfl (by omega) rfl ?_
                  refine z_goto (tgt := 36) C dX5_makes_192 (by decide) ?_
                  refine z_le (r := [some (.ref r), some (.int (iI len)), some (.int (iI p)), some (.int (iI lf)), some (.int (iI low)), some (.int (iI ↑(c + 1))), none, none, none, none]) ⟨Or.inr rfl, Or.inr rfl, Or.inr rfl, Or.inr rfl, Or.inr rfl, Or.inr rfl, Or.inl rfl, Or.inl rfl, Or.inl rfl, Or.inl rfl, trivial⟩ ?_
                  exact ih (c + 1) _ _ _ (by omega) (by omega) (mkI_t hI9 (by omega) rfl (hs_t (by omega) hMA (by omega) hq9 (by rw [if_pos (by omega)])) rfl)
          · refine z_iload C dX5_makes_55 rfl ?_
            refine z_iload_n (i := 2) C dX5_makes_57 rfl rfl ?_
            refine z_icmp_geI (tgt := 65) C dX5_makes_58 (by decide) ⟨by omega, by omega⟩ ⟨by omega, by omega⟩ (fun hg1 => ?_) (fun hg1 => ?_)
            · refine z_iconst (v := iI 0) C dX5_makes_65 rfl ?_
              refine z_goto (tgt := 80) C dX5_makes_66 (by decide) ?_
              refine z_istore (lv' := [some (.ref r), some (.int (iI len)), some (.int (iI p)), some (.int (iI lf)), some (.int (iI low)), some (.int (iI ↑c)), some (.int (iI (PL ↑c))), some (.int (iI 0)), none, none]) C dX5_makes_80 rfl rfl ?_
              refine z_iload C dX5_makes_82 rfl ?_
              refine z_if_eqI (tgt := 98) C dX5_makes_84 (by decide) ⟨by omega, by omega⟩ (fun _ => ?_) (fun h => by exfalso; omega)
              refine z_iload C dX5_makes_98 rfl ?_
              refine z_istore (lv' := [some (.ref r), some (.int (iI len)), some (.int (iI p)), some (.int (iI lf)), some (.int (iI low)), some (.int (iI ↑c)), some (.int (iI (PL ↑c))), some (.int (iI 0)), some (.int (iI (PL ↑c))), none]) C dX5_makes_100 rfl rfl ?_
              refine z_iload C dX5_makes_102 rfl ?_
              refine z_if_eqI (tgt := 177) C dX5_makes_104 (by decide) ⟨by omega, by omega⟩ (fun _ => ?_) (fun h => by exfalso; omega)
              refine z_aload_n (i := 0) C dX5_makes_177 rfl rfl ?_
              refine z_get (ci := 5) C (hi_X5_makes_X5) 0 rfl rfl 12 (by decide) (by decide +kernel) rfl dX5_makes_178 ?_
              refine z_iload C dX5_makes_181 rfl ?_
              refine z_iload C dX5_makes_183 rfl ?_
              refine z_iload C dX5_makes_185 rfl ?_
              refine z_isubI (v := (PL ↑c) - low) C dX5_makes_187 (by omega) ?_
              refine z_iastoreI 10 (he := rfl) (ws' := [(r, .inr (5, [.ref e1, .int (iI (↑n)), .ref e2, .ref e3, .ref e4, .ref e5, .ref e6, .ref e7, .ref e8, .int (iI L), .int d, .ref e9, .ref e10, .ref e11, .ref e12, .ref e13, .int (iI sz), .int (iI mo), .ref e14, .int (iI th)])), (e1, ar cI 8 ND), (e2, ai cI 8 AU), (e3, ai cI 8 LE), (e4, ai cI 8 SN), (e5, ar cI 8 US), (e6, ai cI 80 KK), (e7, ai cI 80 AT), (e8, ai cI 80 LF), (e9, ar cI 6 KN), (e10, ai cI 32 (zup P1 (↑c) ((PL ↑c) - low))), (e11, ai cI 32 H1), (e12, ai cI 32 T1), (e13, ai cI 32 MA), (e14, ai cI 201 CU)]) C (zT_of hE (t0 := 0) rfl) (by omega) (by omega) (by decide) rfl dX5_makes_188 ?_
              refine z_iincI (v := ↑(c + 1)) (lv' := [some (.ref r), some (.int (iI len)), some (.int (iI p)), some (.int (iI lf)), some (.int (iI low)), some (.int (iI (↑(c + 1)))), some (.int (iI (PL ↑c))), some (.int (iI 0)), some (.int (iI (PL ↑c))), none]) C dX5_makes_189 rfl (by omega) rfl ?_
              refine z_goto (tgt := 36) C dX5_makes_192 (by decide) ?_
              refine z_le (r := [some (.ref r), some (.int (iI len)), some (.int (iI p)), some (.int (iI lf)), some (.int (iI low)), some (.int (iI ↑(c + 1))), none, none, none, none]) ⟨Or.inr rfl, Or.inr rfl, Or.inr rfl, Or.inr rfl, Or.inr rfl, Or.inr rfl, Or.inl rfl, Or.inl rfl, Or.inl rfl, Or.inl rfl, trivial⟩ ?_
              exact ih (c + 1) _ _ _ (by omega) (by omega) (mkI_f hI9 (by omega) rfl)
            · refine z_iconst (v := iI 1) C dX5_makes_61 rfl ?_
              refine z_goto (tgt := 80) C dX5_makes_62 (by decide) ?_
              refine z_istore (lv' := [some (.ref r), some (.int (iI len)), some (.int (iI p)), some (.int (iI lf)), some (.int (iI low)), some (.int (iI ↑c)), some (.int (iI (PL ↑c))), some (.int (iI 1)), none, none]) C dX5_makes_80 rfl rfl ?_
              refine z_iload C dX5_makes_82 rfl ?_
              refine z_if_eqI (tgt := 98) C dX5_makes_84 (by decide) ⟨by omega, by omega⟩ (fun h => by exfalso; omega) (fun _ => ?_)
              refine z_iconst (v := iI 2) C dX5_makes_87 rfl ?_
              refine z_iload_n (i := 2) C dX5_makes_88 rfl rfl ?_
              refine z_imulI (v := 2 * p) C dX5_makes_89 (by rfl) ?_
              refine z_iconst (v := iI 1) C dX5_makes_90 rfl ?_
              refine z_isubI (v := (2 * p) - 1) C dX5_makes_91 (by omega) ?_
              refine z_iload C dX5_makes_92 rfl ?_
              refine z_isubI (v := ((2 * p) - 1) - (PL ↑c)) C dX5_makes_94 (by omega) ?_
              refine z_goto (tgt := 100) C dX5_makes_95 (by decide) ?_
              refine z_istore (lv' := [some (.ref r), some (.int (iI len)), some (.int (iI p)), some (.int (iI lf)), some (.int (iI low)), some (.int (iI ↑c)), some (.int (iI (PL ↑c))), some (.int (iI 1)), some (.int (iI (((2 * p) - 1) - (PL ↑c)))), none]) C dX5_makes_100 rfl rfl ?_
              refine z_iload C dX5_makes_102 rfl ?_
              refine z_if_eqI (tgt := 177) C dX5_makes_104 (by decide) ⟨by omega, by omega⟩ (fun h => by exfalso; omega) (fun _ => ?_)
              refine z_iload C dX5_makes_107 rfl ?_
              refine z_if_ltI (tgt := 131) C dX5_makes_109 (by decide) ⟨by omega, by omega⟩ (fun hi1 => ?_) (fun hi1 => ?_)
              · refine z_iconst (v := iI 0) C dX5_makes_131 rfl ?_
                refine z_istore (lv' := [some (.ref r), some (.int (iI len)), some (.int (iI p)), some (.int (iI lf)), some (.int (iI low)), some (.int (iI ↑c)), some (.int (iI (PL ↑c))), some (.int (iI 1)), some (.int (iI (((2 * p) - 1) - (PL ↑c)))), some (.int (iI 0))]) C dX5_makes_132 rfl rfl ?_
                refine z_aload_n (i := 0) C dX5_makes_134 rfl rfl ?_
                refine z_get (ci := 5) C (hi_X5_makes_X5) 0 rfl rfl 13 (by decide) (by decide +kernel) rfl dX5_makes_135 ?_
                refine z_iload C dX5_makes_138 rfl ?_
                refine z_iload C dX5_makes_140 rfl ?_
                refine z_aload_n (i := 0) C dX5_makes_142 rfl rfl ?_
                refine z_get (ci := 5) C (hi_X5_makes_X5) 0 rfl rfl 15 (by decide) (by decide +kernel) rfl dX5_makes_143 ?_
                refine z_iload C dX5_makes_146 rfl ?_
                refine z_ialoadI 13 (he := rfl) C (zT_of hE (t0 := 0) rfl) (by omega) (by omega) (by decide) dX5_makes_148 ?_
                refine z_iaddI (v := 0 + (MA (PL ↑c))) C dX5_makes_149 (by omega) ?_
                refine z_iconst (v := iI 1) C dX5_makes_150 rfl ?_
                refine z_isubI (v := (0 + (MA (PL ↑c))) - 1) C dX5_makes_151 (by omega) ?_
                refine z_aload_n (i := 0) C dX5_makes_152 rfl rfl ?_
                refine z_get (ci := 5) C (hi_X5_makes_X5) 0 rfl rfl 13 (by decide) (by decide +kernel) rfl dX5_makes_153 ?_
                refine z_iload C dX5_makes_156 rfl ?_
                refine z_ialoadI 11 (he := rfl) C (zT_of hE (t0 := 0) rfl) (by omega) (by omega) (by decide) dX5_makes_158 ?_
                refine z_top (y := iI (HE ↑c)) (by rw [ho2]) ?_
                refine z_isubI (v := ((0 + (MA (PL ↑c))) - 1) - (HE ↑c)) C dX5_makes_159 (by omega) ?_
                refine z_iastoreI 11 (he := rfl) (ws' := [(r, .inr (5, [.ref e1, .int (iI (↑n)), .ref e2, .ref e3, .ref e4, .ref e5, .ref e6, .ref e7, .ref e8, .int (iI L), .int d, .ref e9, .ref e10, .ref e11, .ref e12, .ref e13, .int (iI sz), .int (iI mo), .ref e14, .int (iI th)])), (e1, ar cI 8 ND), (e2, ai cI 8 AU), (e3, ai cI 8 LE), (e4, ai cI 8 SN), (e5, ar cI 8 US), (e6, ai cI 80 KK), (e7, ai cI 80 AT), (e8, ai cI 80 LF), (e9, ar cI 6 KN), (e10, ai cI 32 P1), (e11, ai cI 32 (zup H1 (↑c) (((0 + (MA (PL ↑c))) - 1) - (HE ↑c)))), (e12, ai cI 32 T1), (e13, ai cI 32 MA), (e14, ai cI 201 CU)]) C (zT_of hE (t0 := 0) rfl) (by omega) (by omega) (by decide) rfl dX5_makes_160 ?_
                refine z_aload_n (i := 0) C dX5_makes_161 rfl rfl ?_
                refine z_get (ci := 5) C (hi_X5_makes_X5) 0 rfl rfl 14 (by decide) (by decide +kernel) rfl dX5_makes_162 ?_
                refine z_iload C dX5_makes_165 rfl ?_
                refine z_iconst (v := iI 1) C dX5_makes_167 rfl ?_
                refine z_aload_n (i := 0) C dX5_makes_168 rfl rfl ?_
                refine z_get (ci := 5) C (hi_X5_makes_X5) 0 rfl rfl 14 (by decide) (by decide +kernel) rfl dX5_makes_169 ?_
                refine z_iload C dX5_makes_172 rfl ?_
                refine z_ialoadI 12 (he := rfl) C (zT_of hE (t0 := 0) rfl) (by omega) (by omega) (by decide) dX5_makes_174 ?_
                refine z_top (y := iI (TU ↑c)) (by rw [ho3]) ?_
                refine z_isubI (v := 1 - (TU ↑c)) C dX5_makes_175 (by omega) ?_
                refine z_iastoreI 12 (he := rfl) (ws' := [(r, .inr (5, [.ref e1, .int (iI (↑n)), .ref e2, .ref e3, .ref e4, .ref e5, .ref e6, .ref e7, .ref e8, .int (iI L), .int d, .ref e9, .ref e10, .ref e11, .ref e12, .ref e13, .int (iI sz), .int (iI mo), .ref e14, .int (iI th)])), (e1, ar cI 8 ND), (e2, ai cI 8 AU), (e3, ai cI 8 LE), (e4, ai cI 8 SN), (e5, ar cI 8 US), (e6, ai cI 80 KK), (e7, ai cI 80 AT), (e8, ai cI 80 LF), (e9, ar cI 6 KN), (e10, ai cI 32 P1), (e11, ai cI 32 (zup H1 (↑c) (((0 + (MA (PL ↑c))) - 1) - (HE ↑c)))), (e12, ai cI 32 (zup T1 (↑c) (1 - (TU ↑c)))), (e13, ai cI 32 MA), (e14, ai cI 201 CU)]) C (zT_of hE (t0 := 0) rfl) (by omega) (by omega) (by decide) rfl dX5_makes_176 ?_
                refine z_aload_n (i := 0) C dX5_makes_177 rfl rfl ?_
                refine z_get (ci := 5) C (hi_X5_makes_X5) 0 rfl rfl 12 (by decide) (by decide +kernel) rfl dX5_makes_178 ?_
                refine z_iload C dX5_makes_181 rfl ?_
                refine z_iload C dX5_makes_183 rfl ?_
                refine z_iload C dX5_makes_185 rfl ?_
                refine z_isubI (v := (((2 * p) - 1) - (PL ↑c)) - low) C dX5_makes_187 (by omega) ?_
                refine z_iastoreI 10 (he := rfl) (ws' := [(r, .inr (5, [.ref e1, .int (iI (↑n)), .ref e2, .ref e3, .ref e4, .ref e5, .ref e6, .ref e7, .ref e8, .int (iI L), .int d, .ref e9, .ref e10, .ref e11, .ref e12, .ref e13, .int (iI sz), .int (iI mo), .ref e14, .int (iI th)])), (e1, ar cI 8 ND), (e2, ai cI 8 AU), (e3, ai cI 8 LE), (e4, ai cI 8 SN), (e5, ar cI 8 US), (e6, ai cI 80 KK), (e7, ai cI 80 AT), (e8, ai cI 80 LF), (e9, ar cI 6 KN), (e10, ai cI 32 (zup P1 (↑c) ((((2 * p) - 1) - (PL ↑c)) - low))), (e11, ai cI 32 (zup H1 (↑c) (((0 + (MA (PL ↑c))) - 1) - (HE ↑c)))), (e12, ai cI 32 (zup T1 (↑c) (1 - (TU ↑c)))), (e13, ai cI 32 MA), (e14, ai cI 201 CU)]) C (zT_of hE (t0 := 0) rfl) (by omega) (by omega) (by decide) rfl dX5_makes_188 ?_
                refine z_iincI (v := ↑(c + 1)) (lv' := [some (.ref r), some (.int (iI len)), some (.int (iI p)), some (.int (iI lf)), some (.int (iI low)), some (.int (iI (↑(c + 1)))), some (.int (iI (PL ↑c))), some (.int (iI 1)), some (.int (iI (((2 * p) - 1) - (PL ↑c)))), some (.int (iI 0))]) C dX5_makes_189 rfl (by omega) rfl ?_
                refine z_goto (tgt := 36) C dX5_makes_192 (by decide) ?_
                refine z_le (r := [some (.ref r), some (.int (iI len)), some (.int (iI p)), some (.int (iI lf)), some (.int (iI low)), some (.int (iI ↑(c + 1))), none, none, none, none]) ⟨Or.inr rfl, Or.inr rfl, Or.inr rfl, Or.inr rfl, Or.inr rfl, Or.inr rfl, Or.inl rfl, Or.inl rfl, Or.inl rfl, Or.inl rfl, trivial⟩ ?_
                exact ih (c + 1) _ _ _ (by omega) (by omega) (mkI_t hI9 (by omega) rfl (hs_t (by omega) hMA (by omega) hq9 (by rw [if_neg (by omega)])) rfl)
              · refine z_iload C dX5_makes_112 rfl ?_
                refine z_aload_n (i := 0) C dX5_makes_114 rfl rfl ?_
                refine z_get (ci := 5) C (hi_X5_makes_X5) 0 rfl rfl 16 (by decide) (by decide +kernel) rfl dX5_makes_115 ?_
                refine z_icmp_geI (tgt := 131) C dX5_makes_118 (by decide) ⟨by omega, by omega⟩ ⟨by omega, by omega⟩ (fun hi2 => ?_) (fun hi2 => ?_)
                · refine z_iconst (v := iI 0) C dX5_makes_131 rfl ?_
                  refine z_istore (lv' := [some (.ref r), some (.int (iI len)), some (.int (iI p)), some (.int (iI lf)), some (.int (iI low)), some (.int (iI ↑c)), some (.int (iI (PL ↑c))), some (.int (iI 1)), some (.int (iI (((2 * p) - 1) - (PL ↑c)))), some (.int (iI 0))]) C dX5_makes_132 rfl rfl ?_
                  refine z_aload_n (i := 0) C dX5_makes_134 rfl rfl ?_
                  refine z_get (ci := 5) C (hi_X5_makes_X5) 0 rfl rfl 13 (by decide) (by decide +kernel) rfl dX5_makes_135 ?_
                  refine z_iload C dX5_makes_138 rfl ?_
                  refine z_iload C dX5_makes_140 rfl ?_
                  refine z_aload_n (i := 0) C dX5_makes_142 rfl rfl ?_
                  refine z_get (ci := 5) C (hi_X5_makes_X5) 0 rfl rfl 15 (by decide) (by decide +kernel) rfl dX5_makes_143 ?_
                  refine z_iload C dX5_makes_146 rfl ?_
                  refine z_ialoadI 13 (he := rfl) C (zT_of hE (t0 := 0) rfl) (by omega) (by omega) (by decide) dX5_makes_148 ?_
                  refine z_iaddI (v := 0 + (MA (PL ↑c))) C dX5_makes_149 (by omega) ?_
                  refine z_iconst (v := iI 1) C dX5_makes_150 rfl ?_
                  refine z_isubI (v := (0 + (MA (PL ↑c))) - 1) C dX5_makes_151 (by omega) ?_
                  refine z_aload_n (i := 0) C dX5_makes_152 rfl rfl ?_
                  refine z_get (ci := 5) C (hi_X5_makes_X5) 0 rfl rfl 13 (by decide) (by decide +kernel) rfl dX5_makes_153 ?_
                  refine z_iload C dX5_makes_156 rfl ?_
                  refine z_ialoadI 11 (he := rfl) C (zT_of hE (t0 := 0) rfl) (by omega) (by omega) (by decide) dX5_makes_158 ?_
                  refine z_top (y := iI (HE ↑c)) (by rw [ho2]) ?_
                  refine z_isubI (v := ((0 + (MA (PL ↑c))) - 1) - (HE ↑c)) C dX5_makes_159 (by omega) ?_
                  refine z_iastoreI 11 (he := rfl) (ws' := [(r, .inr (5, [.ref e1, .int (iI (↑n)), .ref e2, .ref e3, .ref e4, .ref e5, .ref e6, .ref e7, .ref e8, .int (iI L), .int d, .ref e9, .ref e10, .ref e11, .ref e12, .ref e13, .int (iI sz), .int (iI mo), .ref e14, .int (iI th)])), (e1, ar cI 8 ND), (e2, ai cI 8 AU), (e3, ai cI 8 LE), (e4, ai cI 8 SN), (e5, ar cI 8 US), (e6, ai cI 80 KK), (e7, ai cI 80 AT), (e8, ai cI 80 LF), (e9, ar cI 6 KN), (e10, ai cI 32 P1), (e11, ai cI 32 (zup H1 (↑c) (((0 + (MA (PL ↑c))) - 1) - (HE ↑c)))), (e12, ai cI 32 T1), (e13, ai cI 32 MA), (e14, ai cI 201 CU)]) C (zT_of hE (t0 := 0) rfl) (by omega) (by omega) (by decide) rfl dX5_makes_160 ?_
                  refine z_aload_n (i := 0) C dX5_makes_161 rfl rfl ?_
                  refine z_get (ci := 5) C (hi_X5_makes_X5) 0 rfl rfl 14 (by decide) (by decide +kernel) rfl dX5_makes_162 ?_
                  refine z_iload C dX5_makes_165 rfl ?_
                  refine z_iconst (v := iI 1) C dX5_makes_167 rfl ?_
                  refine z_aload_n (i := 0) C dX5_makes_168 rfl rfl ?_
                  refine z_get (ci := 5) C (hi_X5_makes_X5) 0 rfl rfl 14 (by decide) (by decide +kernel) rfl dX5_makes_169 ?_
                  refine z_iload C dX5_makes_172 rfl ?_
                  refine z_ialoadI 12 (he := rfl) C (zT_of hE (t0 := 0) rfl) (by omega) (by omega) (by decide) dX5_makes_174 ?_
                  refine z_top (y := iI (TU ↑c)) (by rw [ho3]) ?_
                  refine z_isubI (v := 1 - (TU ↑c)) C dX5_makes_175 (by omega) ?_
                  refine z_iastoreI 12 (he := rfl) (ws' := [(r, .inr (5, [.ref e1, .int (iI (↑n)), .ref e2, .ref e3, .ref e4, .ref e5, .ref e6, .ref e7, .ref e8, .int (iI L), .int d, .ref e9, .ref e10, .ref e11, .ref e12, .ref e13, .int (iI sz), .int (iI mo), .ref e14, .int (iI th)])), (e1, ar cI 8 ND), (e2, ai cI 8 AU), (e3, ai cI 8 LE), (e4, ai cI 8 SN), (e5, ar cI 8 US), (e6, ai cI 80 KK), (e7, ai cI 80 AT), (e8, ai cI 80 LF), (e9, ar cI 6 KN), (e10, ai cI 32 P1), (e11, ai cI 32 (zup H1 (↑c) (((0 + (MA (PL ↑c))) - 1) - (HE ↑c)))), (e12, ai cI 32 (zup T1 (↑c) (1 - (TU ↑c)))), (e13, ai cI 32 MA), (e14, ai cI 201 CU)]) C (zT_of hE (t0 := 0) rfl) (by omega) (by omega) (by decide) rfl dX5_makes_176 ?_
                  refine z_aload_n (i := 0) C dX5_makes_177 rfl rfl ?_
                  refine z_get (ci := 5) C (hi_X5_makes_X5) 0 rfl rfl 12 (by decide) (by decide +kernel) rfl dX5_makes_178 ?_
                  refine z_iload C dX5_makes_181 rfl ?_
                  refine z_iload C dX5_makes_183 rfl ?_
                  refine z_iload C dX5_makes_185 rfl ?_
                  refine z_isubI (v := (((2 * p) - 1) - (PL ↑c)) - low) C dX5_makes_187 (by omega) ?_
                  refine z_iastoreI 10 (he := rfl) (ws' := [(r, .inr (5, [.ref e1, .int (iI (↑n)), .ref e2, .ref e3, .ref e4, .ref e5, .ref e6, .ref e7, .ref e8, .int (iI L), .int d, .ref e9, .ref e10, .ref e11, .ref e12, .ref e13, .int (iI sz), .int (iI mo), .ref e14, .int (iI th)])), (e1, ar cI 8 ND), (e2, ai cI 8 AU), (e3, ai cI 8 LE), (e4, ai cI 8 SN), (e5, ar cI 8 US), (e6, ai cI 80 KK), (e7, ai cI 80 AT), (e8, ai cI 80 LF), (e9, ar cI 6 KN), (e10, ai cI 32 (zup P1 (↑c) ((((2 * p) - 1) - (PL ↑c)) - low))), (e11, ai cI 32 (zup H1 (↑c) (((0 + (MA (PL ↑c))) - 1) - (HE ↑c)))), (e12, ai cI 32 (zup T1 (↑c) (1 - (TU ↑c)))), (e13, ai cI 32 MA), (e14, ai cI 201 CU)]) C (zT_of hE (t0 := 0) rfl) (by omega) (by omega) (by decide) rfl dX5_makes_188 ?_
                  refine z_iincI (v := ↑(c + 1)) (lv' := [some (.ref r), some (.int (iI len)), some (.int (iI p)), some (.int (iI lf)), some (.int (iI low)), some (.int (iI (↑(c + 1)))), some (.int (iI (PL ↑c))), some (.int (iI 1)), some (.int (iI (((2 * p) - 1) - (PL ↑c)))), some (.int (iI 0))]) C dX5_makes_189 rfl (by omega) rfl ?_
                  refine z_goto (tgt := 36) C dX5_makes_192 (by decide) ?_
                  refine z_le (r := [some (.ref r), some (.int (iI len)), some (.int (iI p)), some (.int (iI lf)), some (.int (iI low)), some (.int (iI ↑(c + 1))), none, none, none, none]) ⟨Or.inr rfl, Or.inr rfl, Or.inr rfl, Or.inr rfl, Or.inr rfl, Or.inr rfl, Or.inl rfl, Or.inl rfl, Or.inl rfl, Or.inl rfl, trivial⟩ ?_
                  exact ih (c + 1) _ _ _ (by omega) (by omega) (mkI_t hI9 (by omega) rfl (hs_t (by omega) hMA (by omega) hq9 (by rw [if_neg (by omega)])) rfl)
                · refine z_aload_n (i := 0) C dX5_makes_121 rfl rfl ?_
                  refine z_get (ci := 5) C (hi_X5_makes_X5) 0 rfl rfl 15 (by decide) (by decide +kernel) rfl dX5_makes_122 ?_
                  refine z_iload C dX5_makes_125 rfl ?_
                  refine z_ialoadI 13 (he := rfl) C (zT_of hE (t0 := 0) rfl) (by omega) (by omega) (by decide) dX5_makes_127 ?_
                  refine z_goto (tgt := 132) C dX5_makes_128 (by decide) ?_
                  refine z_istore (lv' := [some (.ref r), some (.int (iI len)), some (.int (iI p)), some (.int (iI lf)), some (.int (iI low)), some (.int (iI ↑c)), some (.int (iI (PL ↑c))), some (.int (iI 1)), some (.int (iI (((2 * p) - 1) - (PL ↑c)))), some (.int (iI (MA (((2 * p) - 1) - (PL ↑c)))))]) C dX5_makes_132 rfl rfl ?_
                  refine z_aload_n (i := 0) C dX5_makes_134 rfl rfl ?_
                  refine z_get (ci := 5) C (hi_X5_makes_X5) 0 rfl rfl 13 (by decide) (by decide +kernel) rfl dX5_makes_135 ?_
                  refine z_iload C dX5_makes_138 rfl ?_
                  refine z_iload C dX5_makes_140 rfl ?_
                  refine z_aload_n (i := 0) C dX5_makes_142 rfl rfl ?_
                  refine z_get (ci := 5) C (hi_X5_makes_X5) 0 rfl rfl 15 (by decide) (by decide +kernel) rfl dX5_makes_143 ?_
                  refine z_iload C dX5_makes_146 rfl ?_
                  refine z_ialoadI 13 (he := rfl) C (zT_of hE (t0 := 0) rfl) (by omega) (by omega) (by decide) dX5_makes_148 ?_
                  refine z_iaddI (v := (MA (((2 * p) - 1) - (PL ↑c))) + (MA (PL ↑c))) C dX5_makes_149 (by omega) ?_
                  refine z_iconst (v := iI 1) C dX5_makes_150 rfl ?_
                  refine z_isubI (v := ((MA (((2 * p) - 1) - (PL ↑c))) + (MA (PL ↑c))) - 1) C dX5_makes_151 (by omega) ?_
                  refine z_aload_n (i := 0) C dX5_makes_152 rfl rfl ?_
                  refine z_get (ci := 5) C (hi_X5_makes_X5) 0 rfl rfl 13 (by decide) (by decide +kernel) rfl dX5_makes_153 ?_
                  refine z_iload C dX5_makes_156 rfl ?_
                  refine z_ialoadI 11 (he := rfl) C (zT_of hE (t0 := 0) rfl) (by omega) (by omega) (by decide) dX5_makes_158 ?_
                  refine z_top (y := iI (HE ↑c)) (by rw [ho2]) ?_
                  refine z_isubI (v := (((MA (((2 * p) - 1) - (PL ↑c))) + (MA (PL ↑c))) - 1) - (HE ↑c)) C dX5_makes_159 (by omega) ?_
                  refine z_iastoreI 11 (he := rfl) (ws' := [(r, .inr (5, [.ref e1, .int (iI (↑n)), .ref e2, .ref e3, .ref e4, .ref e5, .ref e6, .ref e7, .ref e8, .int (iI L), .int d, .ref e9, .ref e10, .ref e11, .ref e12, .ref e13, .int (iI sz), .int (iI mo), .ref e14, .int (iI th)])), (e1, ar cI 8 ND), (e2, ai cI 8 AU), (e3, ai cI 8 LE), (e4, ai cI 8 SN), (e5, ar cI 8 US), (e6, ai cI 80 KK), (e7, ai cI 80 AT), (e8, ai cI 80 LF), (e9, ar cI 6 KN), (e10, ai cI 32 P1), (e11, ai cI 32 (zup H1 (↑c) ((((MA (((2 * p) - 1) - (PL ↑c))) + (MA (PL ↑c))) - 1) - (HE ↑c)))), (e12, ai cI 32 T1), (e13, ai cI 32 MA), (e14, ai cI 201 CU)]) C (zT_of hE (t0 := 0) rfl) (by omega) (by omega) (by decide) rfl dX5_makes_160 ?_
                  refine z_aload_n (i := 0) C dX5_makes_161 rfl rfl ?_
                  refine z_get (ci := 5) C (hi_X5_makes_X5) 0 rfl rfl 14 (by decide) (by decide +kernel) rfl dX5_makes_162 ?_
                  refine z_iload C dX5_makes_165 rfl ?_
                  refine z_iconst (v := iI 1) C dX5_makes_167 rfl ?_
                  refine z_aload_n (i := 0) C dX5_makes_168 rfl rfl ?_
                  refine z_get (ci := 5) C (hi_X5_makes_X5) 0 rfl rfl 14 (by decide) (by decide +kernel) rfl dX5_makes_169 ?_
                  refine z_iload C dX5_makes_172 rfl ?_
                  refine z_ialoadI 12 (he := rfl) C (zT_of hE (t0 := 0) rfl) (by omega) (by omega) (by decide) dX5_makes_174 ?_
                  refine z_top (y := iI (TU ↑c)) (by rw [ho3]) ?_
                  refine z_isubI (v := 1 - (TU ↑c)) C dX5_makes_175 (by omega) ?_
                  refine z_iastoreI 12 (he := rfl) (ws' := [(r, .inr (5, [.ref e1, .int (iI (↑n)), .ref e2, .ref e3, .ref e4, .ref e5, .ref e6, .ref e7, .ref e8, .int (iI L), .int d, .ref e9, .ref e10, .ref e11, .ref e12, .ref e13, .int (iI sz), .int (iI mo), .ref e14, .int (iI th)])), (e1, ar cI 8 ND), (e2, ai cI 8 AU), (e3, ai cI 8 LE), (e4, ai cI 8 SN), (e5, ar cI 8 US), (e6, ai cI 80 KK), (e7, ai cI 80 AT), (e8, ai cI 80 LF), (e9, ar cI 6 KN), (e10, ai cI 32 P1), (e11, ai cI 32 (zup H1 (↑c) ((((MA (((2 * p) - 1) - (PL ↑c))) + (MA (PL ↑c))) - 1) - (HE ↑c)))), (e12, ai cI 32 (zup T1 (↑c) (1 - (TU ↑c)))), (e13, ai cI 32 MA), (e14, ai cI 201 CU)]) C (zT_of hE (t0 := 0) rfl) (by omega) (by omega) (by decide) rfl dX5_makes_176 ?_
                  refine z_aload_n (i := 0) C dX5_makes_177 rfl rfl ?_
                  refine z_get (ci := 5) C (hi_X5_makes_X5) 0 rfl rfl 12 (by decide) (by decide +kernel) rfl dX5_makes_178 ?_
                  refine z_iload C dX5_makes_181 rfl ?_
                  refine z_iload C dX5_makes_183 rfl ?_
                  refine z_iload C dX5_makes_185 rfl ?_
                  refine z_isubI (v := (((2 * p) - 1) - (PL ↑c)) - low) C dX5_makes_187 (by omega) ?_
                  refine z_iastoreI 10 (he := rfl) (ws' := [(r, .inr (5, [.ref e1, .int (iI (↑n)), .ref e2, .ref e3, .ref e4, .ref e5, .ref e6, .ref e7, .ref e8, .int (iI L), .int d, .ref e9, .ref e10, .ref e11, .ref e12, .ref e13, .int (iI sz), .int (iI mo), .ref e14, .int (iI th)])), (e1, ar cI 8 ND), (e2, ai cI 8 AU), (e3, ai cI 8 LE), (e4, ai cI 8 SN), (e5, ar cI 8 US), (e6, ai cI 80 KK), (e7, ai cI 80 AT), (e8, ai cI 80 LF), (e9, ar cI 6 KN), (e10, ai cI 32 (zup P1 (↑c) ((((2 * p) - 1) - (PL ↑c)) - low))), (e11, ai cI 32 (zup H1 (↑c) ((((MA (((2 * p) - 1) - (PL ↑c))) + (MA (PL ↑c))) - 1) - (HE ↑c)))), (e12, ai cI 32 (zup T1 (↑c) (1 - (TU ↑c)))), (e13, ai cI 32 MA), (e14, ai cI 201 CU)]) C (zT_of hE (t0 := 0) rfl) (by omega) (by omega) (by decide) rfl dX5_makes_188 ?_
                  refine z_iincI (v := ↑(c + 1)) (lv' := [some (.ref r), some (.int (iI len)), some (.int (iI p)), some (.int (iI lf)), some (.int (iI low)), some (.int (iI (↑(c + 1)))), some (.int (iI (PL ↑c))), some (.int (iI 1)), some (.int (iI (((2 * p) - 1) - (PL ↑c)))), some (.int (iI (MA (((2 * p) - 1) - (PL ↑c)))))]) C dX5_makes_189 rfl (by omega) rfl ?_
                  refine z_goto (tgt := 36) C dX5_makes_192 (by decide) ?_
                  refine z_le (r := [some (.ref r), some (.int (iI len)), some (.int (iI p)), some (.int (iI lf)), some (.int (iI low)), some (.int (iI ↑(c + 1))), none, none, none, none]) ⟨Or.inr rfl, Or.inr rfl, Or.inr rfl, Or.inr rfl, Or.inr rfl, Or.inr rfl, Or.inl rfl, Or.inl rfl, Or.inl rfl, Or.inl rfl, trivial⟩ ?_
                  exact ih (c + 1) _ _ _ (by omega) (by omega) (mkI_t hI9 (by omega) rfl (hs_t (by omega) hMA (by omega) hq9 (by rw [if_pos (by omega)])) rfl)
    refine z_istore (lv' := [some (.ref r), some (.int (iI len)), some (.int (iI p)), some (.int (iI lf)), some (.int (iI low)), none, none, none, none, none]) C dX5_makes_31 rfl rfl ?_
    refine z_iconst (v := iI 0) C dX5_makes_33 rfl ?_
    refine z_istore (lv' := [some (.ref r), some (.int (iI len)), some (.int (iI p)), some (.int (iI lf)), some (.int (iI low)), some (.int (iI 0)), none, none, none, none]) C dX5_makes_34 rfl rfl ?_
    exact lp (len.toNat + 1) 0 PL HE TU (by omega) (by omega) (mkI_0 _ _ _ _ _ _ _ _)
  refine z_iload_n (i := 3) C dX5_makes_0 rfl rfl ?_
  refine z_if_eqI (tgt := 8) C dX5_makes_1 (by decide) ⟨by omega, by omega⟩ (fun hl => ?_) (fun hl => ?_)
  · refine z_iconst (v := iI 2) C dX5_makes_8 rfl ?_
    refine z_iload_n (i := 2) C dX5_makes_9 rfl rfl ?_
    refine z_imulI (v := 2 * p) C dX5_makes_10 (by rfl) ?_
    refine z_aload_n (i := 0) C dX5_makes_11 rfl rfl ?_
    refine z_get (ci := 5) C (hi_X5_makes_X5) 0 rfl rfl 16 (by decide) (by decide +kernel) rfl dX5_makes_12 ?_
    refine z_isubI (v := (2 * p) - sz) C dX5_makes_15 (by omega) ?_
    refine z_if_geI (tgt := 30) C dX5_makes_16 (by decide) ⟨by omega, by omega⟩ (fun hs => ?_) (fun hs => ?_)
    · refine z_iconst (v := iI 0) C dX5_makes_30 rfl ?_
      exact k31 _ (by unfold lw; first | (rw [if_pos (by omega)]; omega) | rw [if_neg (by omega)])
    · refine z_iconst (v := iI 2) C dX5_makes_19 rfl ?_
      refine z_iload_n (i := 2) C dX5_makes_20 rfl rfl ?_
      refine z_imulI (v := 2 * p) C dX5_makes_21 (by rfl) ?_
      refine z_aload_n (i := 0) C dX5_makes_22 rfl rfl ?_
      refine z_get (ci := 5) C (hi_X5_makes_X5) 0 rfl rfl 16 (by decide) (by decide +kernel) rfl dX5_makes_23 ?_
      refine z_isubI (v := (2 * p) - sz) C dX5_makes_26 (by omega) ?_
      refine z_goto (tgt := 31) C dX5_makes_27 (by decide) ?_
      exact k31 _ (by unfold lw; first | (rw [if_pos (by omega)]; omega) | rw [if_neg (by omega)])
  · refine z_iload_n (i := 2) C dX5_makes_4 rfl rfl ?_
    refine z_goto (tgt := 31) C dX5_makes_5 (by decide) ?_
    exact k31 _ (by unfold lw; first | (rw [if_pos (by omega)]; omega) | rw [if_neg (by omega)])
theorem hi_X5_folds_X5 : ∀ w ∈ wsX50, w ∈ wsX5_folds := by decide +kernel
set_option maxHeartbeats 1000000 in
set_option maxRecDepth 100000 in
theorem k_rfolds (l : Launch) (D : va_G) (cI cZ cM cL : ClassId) (r e1 e2 e3 e4 e5 e6 e7 e8 e9 e10 e11 e12 e13 e14 : Nat) (n : Nat) (L : Int) (d : Int32) (sz mo th : Int) (ND US KN : Int → Int32) (AU LE SN KK AT LF PL HE TU MA CU : Int → Int) (i0 : Int) (hi0 : 0 ≤ i0 ∧ i0 < 8) (hlen : 2 ≤ LE i0 ∧ LE i0 ≤ 32) (hsn : 0 ≤ SN i0 ∧ SN i0 ≤ 10) (hst : stV (LE i0) (SN i0) (row AT i0) (row LF i0)) : zN l yX5_folds wsX5_folds { frames := 2, cells := 0, slots := 0, locals := 51 } D (zTy cI cZ cM cL) [.ref r, .int (iI i0)] (rfW cI r e1 e2 e3 e4 e5 e6 e7 e8 e9 e10 e11 e12 e13 e14 n L d sz mo th ND US KN AU LE SN KK AT LF PL HE TU MA CU) (fun r9 w => r9 = none ∧ ∃ (P1 H1 T1 M1 : Int → Int), w = (rfW cI r e1 e2 e3 e4 e5 e6 e7 e8 e9 e10 e11 e12 e13 e14 n L d (gS (LE i0) (row AT i0) (SN i0).toNat) (mst (LE i0) (row AT i0) (row LF i0) (SN i0).toNat) th ND US KN AU LE SN KK AT LF P1 H1 T1 M1 CU) ∧ (∀ q : Int, 0 ≤ q → q < LE i0 → P1 q = gP (LE i0) (row AT i0) (row LF i0) (SN i0).toNat q ∧ H1 q = gH (LE i0) (row AT i0) (row LF i0) (SN i0).toNat q ∧ T1 q = gT (LE i0) (row AT i0) (row LF i0) (SN i0).toNat q) ∧ (∀ k : Int, 0 ≤ k → k < 32 → M1 k = cnt (gP (LE i0) (row AT i0) (row LF i0) (SN i0).toNat) k (LE i0).toNat)) 0 0 := by
  refine zN_of (cc := cX5_folds) (maxL := 4) (lv0 := [some (.ref r), some (.int (iI i0)), none, none]) (by decide) rfl rfl (Nat.le_of_ble_eq_true rfl) rfl ?_
  intro E Q C hE hR hI0
  refine (show zG E Q 0 0 [(r, .inr (5, [.ref e1, .int (iI (↑n)), .ref e2, .ref e3, .ref e4, .ref e5, .ref e6, .ref e7, .ref e8, .int (iI L), .int d, .ref e9, .ref e10, .ref e11, .ref e12, .ref e13, .int (iI sz), .int (iI mo), .ref e14, .int (iI th)])), (e1, ar cI 8 ND), (e2, ai cI 8 AU), (e3, ai cI 8 LE), (e4, ai cI 8 SN), (e5, ar cI 8 US), (e6, ai cI 80 KK), (e7, ai cI 80 AT), (e8, ai cI 80 LF), (e9, ar cI 6 KN), (e10, ai cI 32 PL), (e11, ai cI 32 HE), (e12, ai cI 32 TU), (e13, ai cI 32 MA), (e14, ai cI 201 CU)] [some (.ref r), some (.int (iI i0)), none, none] 0 [] from ?_)
  have lq : ∀ (z : Nat) (j : Nat) (sz1 m1 : Int) (P1 H1 T1 M1 : Int → Int), j ≤ (SN i0).toNat → (SN i0).toNat - j < z → sz1 = gS (LE i0) (row AT i0) j → m1 = mst (LE i0) (row AT i0) (row LF i0) j → (∀ q : Int, 0 ≤ q → q < LE i0 → P1 q = gP (LE i0) (row AT i0) (row LF i0) j q ∧ H1 q = gH (LE i0) (row AT i0) (row LF i0) j q ∧ T1 q = gT (LE i0) (row AT i0) (row LF i0) j q) → (∀ k : Int, 0 ≤ k → k < 32 → M1 k = cnt (gP (LE i0) (row AT i0) (row LF i0) j) k (LE i0).toNat) → zG E Q (0) (0) [(r, .inr (5, [.ref e1, .int (iI (↑n)), .ref e2, .ref e3, .ref e4, .ref e5, .ref e6, .ref e7, .ref e8, .int (iI L), .int d, .ref e9, .ref e10, .ref e11, .ref e12, .ref e13, .int (iI sz1), .int (iI m1), .ref e14, .int (iI th)])), (e1, ar cI 8 ND), (e2, ai cI 8 AU), (e3, ai cI 8 LE), (e4, ai cI 8 SN), (e5, ar cI 8 US), (e6, ai cI 80 KK), (e7, ai cI 80 AT), (e8, ai cI 80 LF), (e9, ar cI 6 KN), (e10, ai cI 32 P1), (e11, ai cI 32 H1), (e12, ai cI 32 T1), (e13, ai cI 32 M1), (e14, ai cI 201 CU)] [some (.ref r), some (.int (iI i0)), some (.int (iI (LE i0))), some (.int (iI ↑j))] 58 [] := by
    intro z
    induction z with
    | zero => intro j sz1 m1 P1 H1 T1 M1 hj hjn hsz1 hm1 hA hM; omega
    | succ z ih =>
      intro j sz1 m1 P1 H1 T1 M1 hj hjn hsz1 hm1 hA hM
      refine z_iload_n (i := 3) C dX5_folds_58 rfl rfl ?_
      refine z_aload_n (i := 0) C dX5_folds_59 rfl rfl ?_
      refine z_get (ci := 5) C (hi_X5_folds_X5) 0 rfl rfl 4 (by decide) (by decide +kernel) rfl dX5_folds_60 ?_
      refine z_iload_n (i := 1) C dX5_folds_63 rfl rfl ?_
      refine z_ialoadI 4 (he := rfl) C (zT_of hE (t0 := 0) rfl) (by omega) (by omega) (by decide) dX5_folds_64 ?_
      refine z_icmp_geI (tgt := 110) C dX5_folds_65 (by decide) ⟨by omega, by omega⟩ ⟨by omega, by omega⟩ (fun hk => ?_) (fun hk => ?_)
      · exact z_vret C hR dX5_folds_110 (Nat.le_of_ble_eq_true rfl) (Nat.le_of_ble_eq_true rfl) (⟨rfl, P1, H1, T1, M1, by rw [hsz1, hm1, show (SN i0).toNat = j by omega], by rw [show (SN i0).toNat = j by omega]; exact hA, by rw [show (SN i0).toNat = j by omega]; exact hM⟩)
      · have hg9 := stV_gS hst (by omega) j (by omega)
        obtain ⟨hv1, hv2⟩ := hst j (by omega)
        have hv3 : 1 ≤ AT (10 * i0 + ↑j) ∧ AT (10 * i0 + ↑j) < sz1 := by rw [hsz1]; exact hv1
        have hv4 : LF (10 * i0 + ↑j) = 0 ∨ LF (10 * i0 + ↑j) = 1 := hv2
        have hm9 := mst_r (len := LE i0) (P := row AT i0) (F := row LF i0) (by omega) j
        refine z_aload_n (i := 0) C dX5_folds_68 rfl rfl ?_
        refine z_iload_n (i := 2) C dX5_folds_69 rfl rfl ?_
        refine z_aload_n (i := 0) C dX5_folds_70 rfl rfl ?_
        refine z_get (ci := 5) C (hi_X5_folds_X5) 0 rfl rfl 7 (by decide) (by decide +kernel) rfl dX5_folds_71 ?_
        refine z_bipush (v := iI 10) C dX5_folds_74 (by decide) ?_
        refine z_iload_n (i := 1) C dX5_folds_76 rfl rfl ?_
        refine z_imulI (v := 10 * i0) C dX5_folds_77 (by rfl) ?_
        refine z_iload_n (i := 3) C dX5_folds_78 rfl rfl ?_
        refine z_iaddI (v := (10 * i0) + (↑j)) C dX5_folds_79 (by omega) ?_
        refine z_ialoadI 7 (he := rfl) C (zT_of hE (t0 := 0) rfl) (by omega) (by omega) (by decide) dX5_folds_80 ?_
        refine z_aload_n (i := 0) C dX5_folds_81 rfl rfl ?_
        refine z_get (ci := 5) C (hi_X5_folds_X5) 0 rfl rfl 8 (by decide) (by decide +kernel) rfl dX5_folds_82 ?_
        refine z_bipush (v := iI 10) C dX5_folds_85 (by decide) ?_
        refine z_iload_n (i := 1) C dX5_folds_87 rfl rfl ?_
        refine z_imulI (v := 10 * i0) C dX5_folds_88 (by rfl) ?_
        refine z_iload_n (i := 3) C dX5_folds_89 rfl rfl ?_
        refine z_iaddI (v := (10 * i0) + (↑j)) C dX5_folds_90 (by omega) ?_
        refine z_ialoadI 8 (he := rfl) C (zT_of hE (t0 := 0) rfl) (by omega) (by omega) (by decide) dX5_folds_91 ?_
        refine z_iconst (v := iI 1) C dX5_folds_92 rfl ?_
        refine z_icmp_neI (tgt := 100) C dX5_folds_93 (by decide) ⟨by omega, by omega⟩ ⟨by omega, by omega⟩ (fun hv => ?_) (fun hv => ?_)
        · refine z_iconst (v := iI 0) C dX5_folds_100 rfl ?_
          refine z_top (y := iI (LF (10 * i0 + ↑j))) (by rw [show LF (10 * i0 + ↑j) = 0 by omega]) ?_
          refine z_callV (n := 3) (As := [.int (iI (LE i0)), .int (iI (AT ((10 * i0) + (↑j)))), .int (iI (LF (10 * i0 + ↑j)))]) (st := []) (fr := []) C hE (k_rmakes l D cI cZ cM cL r e1 e2 e3 e4 e5 e6 e7 e8 e9 e10 e11 e12 e13 e14 n L d sz1 m1 th ND US KN AU LE SN KK AT LF P1 H1 T1 M1 CU (LE i0) (AT (10 * i0 + ↑j)) (LF (10 * i0 + ↑j)) ⟨by omega, by omega⟩ hv3 (by omega) hv4 (fun q a b => by rw [(hA q a b).1, hsz1]; exact stV_gP hst (by omega) a b j (by omega)) (fun k a b => by rw [hM k a b]; exact cnt_c _ (fun q c e => ((hA q c (by omega)).1).symm)) (by omega)) gX5_folds_X5_makes rfl ⟨rfl, rfl⟩ (by decide +kernel) ⟨Nat.le_of_ble_eq_true rfl, Nat.le_of_ble_eq_true rfl⟩ rfl rfl (by rw [List.append_nil]) 0 rfl rfl rfl (Nat.le_of_ble_eq_true rfl) ⟨Nat.le_of_ble_eq_true rfl, Nat.le_of_ble_eq_true rfl⟩ dX5_folds_101 (fun r w1 hpo => ?_)
          obtain ⟨rfl, P2, H2, T2, M2, rfl, hA2, hM2⟩ := hpo
          have hA3 : ∀ q : Int, 0 ≤ q → q < LE i0 → P2 q = gP (LE i0) (row AT i0) (row LF i0) (j + 1) q ∧ H2 q = gH (LE i0) (row AT i0) (row LF i0) (j + 1) q ∧ T2 q = gT (LE i0) (row AT i0) (row LF i0) (j + 1) q := by
            intro q a b
            obtain ⟨x1, x2, x3⟩ := hA2 q a b
            obtain ⟨y1, y2, y3⟩ := hA q a b
            refine ⟨?_, ?_, ?_⟩
            · rw [x1, y1, hsz1]; rfl
            · rw [x2, hs_c (B := gP (LE i0) (row AT i0) (row LF i0) j) (H := gH (LE i0) (row AT i0) (row LF i0) j) (fun q a b => (hA q a b).1) a b y2, hsz1]; rfl
            · rw [x3, y1, y3]; rfl
          rw [List.append_nil]
          refine (show zG E Q (0) (0) [(r, .inr (5, [.ref e1, .int (iI (↑n)), .ref e2, .ref e3, .ref e4, .ref e5, .ref e6, .ref e7, .ref e8, .int (iI L), .int d, .ref e9, .ref e10, .ref e11, .ref e12, .ref e13, .int (iI (max (AT (10 * i0 + ↑j)) (sz1 - AT (10 * i0 + ↑j)))), .int (iI (max m1 (mxR P2 (LE i0).toNat))), .ref e14, .int (iI th)])), (e1, ar cI 8 ND), (e2, ai cI 8 AU), (e3, ai cI 8 LE), (e4, ai cI 8 SN), (e5, ar cI 8 US), (e6, ai cI 80 KK), (e7, ai cI 80 AT), (e8, ai cI 80 LF), (e9, ar cI 6 KN), (e10, ai cI 32 P2), (e11, ai cI 32 H2), (e12, ai cI 32 T2), (e13, ai cI 32 M2), (e14, ai cI 201 CU)] [some (.ref r), some (.int (iI i0)), some (.int (iI (LE i0))), some (.int (iI ↑j))] 104 [] from ?_)
          refine z_iincI (v := ↑(j + 1)) (lv' := [some (.ref r), some (.int (iI i0)), some (.int (iI (LE i0))), some (.int (iI (↑(j + 1))))]) C dX5_folds_104 rfl (by omega) rfl ?_
          refine z_goto (tgt := 58) C dX5_folds_107 (by decide) ?_
          exact ih (j + 1) _ _ P2 H2 T2 M2 (by omega) (by omega) (by rw [hsz1]; rfl) (by rw [hm1, mxR_c (B := gP (LE i0) (row AT i0) (row LF i0) (j + 1)) _ (fun q a b => (hA3 q a (by omega)).1)]; rfl) hA3 (fun k a b => by rw [hM2 k a b]; exact cnt_c _ (fun q c e => (hA3 q c (by omega)).1))
        · refine z_iconst (v := iI 1) C dX5_folds_96 rfl ?_
          refine z_top (y := iI (LF (10 * i0 + ↑j))) (by rw [hv]) ?_
          refine z_goto (tgt := 101) C dX5_folds_97 (by decide) ?_
          refine z_callV (n := 3) (As := [.int (iI (LE i0)), .int (iI (AT ((10 * i0) + (↑j)))), .int (iI (LF (10 * i0 + ↑j)))]) (st := []) (fr := []) C hE (k_rmakes l D cI cZ cM cL r e1 e2 e3 e4 e5 e6 e7 e8 e9 e10 e11 e12 e13 e14 n L d sz1 m1 th ND US KN AU LE SN KK AT LF P1 H1 T1 M1 CU (LE i0) (AT (10 * i0 + ↑j)) (LF (10 * i0 + ↑j)) ⟨by omega, by omega⟩ hv3 (by omega) hv4 (fun q a b => by rw [(hA q a b).1, hsz1]; exact stV_gP hst (by omega) a b j (by omega)) (fun k a b => by rw [hM k a b]; exact cnt_c _ (fun q c e => ((hA q c (by omega)).1).symm)) (by omega)) gX5_folds_X5_makes rfl ⟨rfl, rfl⟩ (by decide +kernel) ⟨Nat.le_of_ble_eq_true rfl, Nat.le_of_ble_eq_true rfl⟩ rfl rfl (by rw [List.append_nil]) 0 rfl rfl rfl (Nat.le_of_ble_eq_true rfl) ⟨Nat.le_of_ble_eq_true rfl, Nat.le_of_ble_eq_true rfl⟩ dX5_folds_101 (fun r w1 hpo => ?_)
          obtain ⟨rfl, P2, H2, T2, M2, rfl, hA2, hM2⟩ := hpo
          have hA3 : ∀ q : Int, 0 ≤ q → q < LE i0 → P2 q = gP (LE i0) (row AT i0) (row LF i0) (j + 1) q ∧ H2 q = gH (LE i0) (row AT i0) (row LF i0) (j + 1) q ∧ T2 q = gT (LE i0) (row AT i0) (row LF i0) (j + 1) q := by
            intro q a b
            obtain ⟨x1, x2, x3⟩ := hA2 q a b
            obtain ⟨y1, y2, y3⟩ := hA q a b
            refine ⟨?_, ?_, ?_⟩
            · rw [x1, y1, hsz1]; rfl
            · rw [x2, hs_c (B := gP (LE i0) (row AT i0) (row LF i0) j) (H := gH (LE i0) (row AT i0) (row LF i0) j) (fun q a b => (hA q a b).1) a b y2, hsz1]; rfl
            · rw [x3, y1, y3]; rfl
          rw [List.append_nil]
          refine (show zG E Q (0) (0) [(r, .inr (5, [.ref e1, .int (iI (↑n)), .ref e2, .ref e3, .ref e4, .ref e5, .ref e6, .ref e7, .ref e8, .int (iI L), .int d, .ref e9, .ref e10, .ref e11, .ref e12, .ref e13, .int (iI (max (AT (10 * i0 + ↑j)) (sz1 - AT (10 * i0 + ↑j)))), .int (iI (max m1 (mxR P2 (LE i0).toNat))), .ref e14, .int (iI th)])), (e1, ar cI 8 ND), (e2, ai cI 8 AU), (e3, ai cI 8 LE), (e4, ai cI 8 SN), (e5, ar cI 8 US), (e6, ai cI 80 KK), (e7, ai cI 80 AT), (e8, ai cI 80 LF), (e9, ar cI 6 KN), (e10, ai cI 32 P2), (e11, ai cI 32 H2), (e12, ai cI 32 T2), (e13, ai cI 32 M2), (e14, ai cI 201 CU)] [some (.ref r), some (.int (iI i0)), some (.int (iI (LE i0))), some (.int (iI ↑j))] 104 [] from ?_)
          refine z_iincI (v := ↑(j + 1)) (lv' := [some (.ref r), some (.int (iI i0)), some (.int (iI (LE i0))), some (.int (iI (↑(j + 1))))]) C dX5_folds_104 rfl (by omega) rfl ?_
          refine z_goto (tgt := 58) C dX5_folds_107 (by decide) ?_
          exact ih (j + 1) _ _ P2 H2 T2 M2 (by omega) (by omega) (by rw [hsz1]; rfl) (by rw [hm1, mxR_c (B := gP (LE i0) (row AT i0) (row LF i0) (j + 1)) _ (fun q a b => (hA3 q a (by omega)).1)]; rfl) hA3 (fun k a b => by rw [hM2 k a b]; exact cnt_c _ (fun q c e => (hA3 q c (by omega)).1))
  have lp : ∀ (z : Nat) (c : Nat) (P1 H1 T1 : Int → Int), c ≤ (LE i0).toNat → (LE i0).toNat - c < z → (∀ q : Int, 0 ≤ q → q < (c : Int) → P1 q = q) → (∀ q : Int, 0 ≤ q → q < (c : Int) → H1 q = 0) → (∀ q : Int, 0 ≤ q → q < (c : Int) → T1 q = 0) → zG E Q (0) (0) [(r, .inr (5, [.ref e1, .int (iI (↑n)), .ref e2, .ref e3, .ref e4, .ref e5, .ref e6, .ref e7, .ref e8, .int (iI L), .int d, .ref e9, .ref e10, .ref e11, .ref e12, .ref e13, .int (iI sz), .int (iI mo), .ref e14, .int (iI th)])), (e1, ar cI 8 ND), (e2, ai cI 8 AU), (e3, ai cI 8 LE), (e4, ai cI 8 SN), (e5, ar cI 8 US), (e6, ai cI 80 KK), (e7, ai cI 80 AT), (e8, ai cI 80 LF), (e9, ar cI 6 KN), (e10, ai cI 32 P1), (e11, ai cI 32 H1), (e12, ai cI 32 T1), (e13, ai cI 32 MA), (e14, ai cI 201 CU)] [some (.ref r), some (.int (iI i0)), some (.int (iI (LE i0))), some (.int (iI ↑c))] 9 [] := by
    intro z
    induction z with
    | zero => intro c P1 H1 T1 hj hjn h1 h2 h3; omega
    | succ z ih =>
      intro c P1 H1 T1 hj hjn h1 h2 h3
      refine z_iload_n (i := 3) C dX5_folds_9 rfl rfl ?_
      refine z_iload_n (i := 2) C dX5_folds_10 rfl rfl ?_
      refine z_icmp_geI (tgt := 41) C dX5_folds_11 (by decide) ⟨by omega, by omega⟩ ⟨by omega, by omega⟩ (fun hk => ?_) (fun hk => ?_)
      · refine z_aload_n (i := 0) C dX5_folds_41 rfl rfl ?_
        refine z_iload_n (i := 2) C dX5_folds_42 rfl rfl ?_
        refine z_put (ci := 5) (ws' := [(r, .inr (5, [.ref e1, .int (iI (↑n)), .ref e2, .ref e3, .ref e4, .ref e5, .ref e6, .ref e7, .ref e8, .int (iI L), .int d, .ref e9, .ref e10, .ref e11, .ref e12, .ref e13, .int (iI (LE i0)), .int (iI mo), .ref e14, .int (iI th)])), (e1, ar cI 8 ND), (e2, ai cI 8 AU), (e3, ai cI 8 LE), (e4, ai cI 8 SN), (e5, ar cI 8 US), (e6, ai cI 80 KK), (e7, ai cI 80 AT), (e8, ai cI 80 LF), (e9, ar cI 6 KN), (e10, ai cI 32 P1), (e11, ai cI 32 H1), (e12, ai cI 32 T1), (e13, ai cI 32 MA), (e14, ai cI 201 CU)]) C (hi_X5_folds_X5) tyX5_ok nmX5 0 rfl rfl 16 (by decide) (by decide +kernel) rfl (tyX5_ok 16 (by decide)) rfl rfl (Nat.le_of_ble_eq_true rfl) rfl dX5_folds_43 ?_
        refine z_aload_n (i := 0) C dX5_folds_46 rfl rfl ?_
        refine z_iconst (v := iI 0) C dX5_folds_47 rfl ?_
        refine z_put (ci := 5) (ws' := [(r, .inr (5, [.ref e1, .int (iI (↑n)), .ref e2, .ref e3, .ref e4, .ref e5, .ref e6, .ref e7, .ref e8, .int (iI L), .int d, .ref e9, .ref e10, .ref e11, .ref e12, .ref e13, .int (iI (LE i0)), .int (iI 0), .ref e14, .int (iI th)])), (e1, ar cI 8 ND), (e2, ai cI 8 AU), (e3, ai cI 8 LE), (e4, ai cI 8 SN), (e5, ar cI 8 US), (e6, ai cI 80 KK), (e7, ai cI 80 AT), (e8, ai cI 80 LF), (e9, ar cI 6 KN), (e10, ai cI 32 P1), (e11, ai cI 32 H1), (e12, ai cI 32 T1), (e13, ai cI 32 MA), (e14, ai cI 201 CU)]) C (hi_X5_folds_X5) tyX5_ok nmX5 0 rfl rfl 17 (by decide) (by decide +kernel) rfl (tyX5_ok 17 (by decide)) rfl rfl (Nat.le_of_ble_eq_true rfl) rfl dX5_folds_48 ?_
        refine z_aload_n (i := 0) C dX5_folds_51 rfl rfl ?_
        refine z_iload_n (i := 2) C dX5_folds_52 rfl rfl ?_
        refine z_callV (n := 1) (As := [.int (iI (LE i0))]) (st := []) (fr := []) C hE (k_rcounts l D cI cZ cM cL r e1 e2 e3 e4 e5 e6 e7 e8 e9 e10 e11 e12 e13 e14 n L d (LE i0) 0 th ND US KN AU LE SN KK AT LF P1 H1 T1 MA CU (LE i0) ⟨by omega, by omega⟩ (fun q a b => by rw [h1 q a (by omega)]; show 0 ≤ q ∧ q < 32; omega) ⟨by omega, by omega⟩) gX5_folds_X5_counts rfl ⟨rfl, rfl⟩ (by decide +kernel) ⟨Nat.le_of_ble_eq_true rfl, Nat.le_of_ble_eq_true rfl⟩ rfl rfl (by rw [List.append_nil]) 0 rfl rfl rfl (Nat.le_of_ble_eq_true rfl) ⟨Nat.le_of_ble_eq_true rfl, Nat.le_of_ble_eq_true rfl⟩ dX5_folds_53 (fun r w1 hpo => ?_)
        obtain ⟨rfl, M2, rfl, hM2⟩ := hpo
        rw [List.append_nil]
        refine (show zG E Q (0) (0) [(r, .inr (5, [.ref e1, .int (iI (↑n)), .ref e2, .ref e3, .ref e4, .ref e5, .ref e6, .ref e7, .ref e8, .int (iI L), .int d, .ref e9, .ref e10, .ref e11, .ref e12, .ref e13, .int (iI (LE i0)), .int (iI (max 0 (mxR P1 (LE i0).toNat))), .ref e14, .int (iI th)])), (e1, ar cI 8 ND), (e2, ai cI 8 AU), (e3, ai cI 8 LE), (e4, ai cI 8 SN), (e5, ar cI 8 US), (e6, ai cI 80 KK), (e7, ai cI 80 AT), (e8, ai cI 80 LF), (e9, ar cI 6 KN), (e10, ai cI 32 P1), (e11, ai cI 32 H1), (e12, ai cI 32 T1), (e13, ai cI 32 M2), (e14, ai cI 201 CU)] [some (.ref r), some (.int (iI i0)), some (.int (iI (LE i0))), some (.int (iI ↑c))] 56 [] from ?_)
        refine z_iconst (v := iI 0) C dX5_folds_56 rfl ?_
        refine z_istore_n (i := 3) (lv' := [some (.ref r), some (.int (iI i0)), some (.int (iI (LE i0))), some (.int (iI 0))]) C dX5_folds_57 rfl rfl rfl ?_
        exact lq ((SN i0).toNat + 1) 0 _ _ P1 H1 T1 M2 (by omega) (by omega) rfl (by show max 0 (mxR P1 (LE i0).toNat) = max 0 (mxR (gP (LE i0) (row AT i0) (row LF i0) 0) (LE i0).toNat); rw [mxR_c (B := gP (LE i0) (row AT i0) (row LF i0) 0) _ (fun q a b => h1 q a (by omega))]) (fun q a b => ⟨h1 q a (by omega), h2 q a (by omega), h3 q a (by omega)⟩) (fun k a b => by rw [hM2 k a b]; exact cnt_c _ (fun q a b => h1 q a (by omega)))
      · refine z_aload_n (i := 0) C dX5_folds_14 rfl rfl ?_
        refine z_get (ci := 5) C (hi_X5_folds_X5) 0 rfl rfl 12 (by decide) (by decide +kernel) rfl dX5_folds_15 ?_
        refine z_iload_n (i := 3) C dX5_folds_18 rfl rfl ?_
        refine z_iload_n (i := 3) C dX5_folds_19 rfl rfl ?_
        refine z_iastoreI 10 (he := rfl) (ws' := [(r, .inr (5, [.ref e1, .int (iI (↑n)), .ref e2, .ref e3, .ref e4, .ref e5, .ref e6, .ref e7, .ref e8, .int (iI L), .int d, .ref e9, .ref e10, .ref e11, .ref e12, .ref e13, .int (iI sz), .int (iI mo), .ref e14, .int (iI th)])), (e1, ar cI 8 ND), (e2, ai cI 8 AU), (e3, ai cI 8 LE), (e4, ai cI 8 SN), (e5, ar cI 8 US), (e6, ai cI 80 KK), (e7, ai cI 80 AT), (e8, ai cI 80 LF), (e9, ar cI 6 KN), (e10, ai cI 32 (zup P1 (↑c) (↑c))), (e11, ai cI 32 H1), (e12, ai cI 32 T1), (e13, ai cI 32 MA), (e14, ai cI 201 CU)]) C (zT_of hE (t0 := 0) rfl) (by omega) (by omega) (by decide) rfl dX5_folds_20 ?_
        refine z_aload_n (i := 0) C dX5_folds_21 rfl rfl ?_
        refine z_get (ci := 5) C (hi_X5_folds_X5) 0 rfl rfl 13 (by decide) (by decide +kernel) rfl dX5_folds_22 ?_
        refine z_iload_n (i := 3) C dX5_folds_25 rfl rfl ?_
        refine z_iconst (v := iI 0) C dX5_folds_26 rfl ?_
        refine z_iastoreI 11 (he := rfl) (ws' := [(r, .inr (5, [.ref e1, .int (iI (↑n)), .ref e2, .ref e3, .ref e4, .ref e5, .ref e6, .ref e7, .ref e8, .int (iI L), .int d, .ref e9, .ref e10, .ref e11, .ref e12, .ref e13, .int (iI sz), .int (iI mo), .ref e14, .int (iI th)])), (e1, ar cI 8 ND), (e2, ai cI 8 AU), (e3, ai cI 8 LE), (e4, ai cI 8 SN), (e5, ar cI 8 US), (e6, ai cI 80 KK), (e7, ai cI 80 AT), (e8, ai cI 80 LF), (e9, ar cI 6 KN), (e10, ai cI 32 (zup P1 (↑c) (↑c))), (e11, ai cI 32 (zup H1 (↑c) 0)), (e12, ai cI 32 T1), (e13, ai cI 32 MA), (e14, ai cI 201 CU)]) C (zT_of hE (t0 := 0) rfl) (by omega) (by omega) (by decide) rfl dX5_folds_27 ?_
        refine z_aload_n (i := 0) C dX5_folds_28 rfl rfl ?_
        refine z_get (ci := 5) C (hi_X5_folds_X5) 0 rfl rfl 14 (by decide) (by decide +kernel) rfl dX5_folds_29 ?_
        refine z_iload_n (i := 3) C dX5_folds_32 rfl rfl ?_
        refine z_iconst (v := iI 0) C dX5_folds_33 rfl ?_
        refine z_iastoreI 12 (he := rfl) (ws' := [(r, .inr (5, [.ref e1, .int (iI (↑n)), .ref e2, .ref e3, .ref e4, .ref e5, .ref e6, .ref e7, .ref e8, .int (iI L), .int d, .ref e9, .ref e10, .ref e11, .ref e12, .ref e13, .int (iI sz), .int (iI mo), .ref e14, .int (iI th)])), (e1, ar cI 8 ND), (e2, ai cI 8 AU), (e3, ai cI 8 LE), (e4, ai cI 8 SN), (e5, ar cI 8 US), (e6, ai cI 80 KK), (e7, ai cI 80 AT), (e8, ai cI 80 LF), (e9, ar cI 6 KN), (e10, ai cI 32 (zup P1 (↑c) (↑c))), (e11, ai cI 32 (zup H1 (↑c) 0)), (e12, ai cI 32 (zup T1 (↑c) 0)), (e13, ai cI 32 MA), (e14, ai cI 201 CU)]) C (zT_of hE (t0 := 0) rfl) (by omega) (by omega) (by decide) rfl dX5_folds_34 ?_
        refine z_iincI (v := ↑(c + 1)) (lv' := [some (.ref r), some (.int (iI i0)), some (.int (iI (LE i0))), some (.int (iI (↑(c + 1))))]) C dX5_folds_35 rfl (by omega) rfl ?_
        refine z_goto (tgt := 9) C dX5_folds_38 (by decide) ?_
        exact ih (c + 1) _ _ _ (by omega) (by omega) (zup_lo (v := fun q => q) h1 rfl) (zup_lo (v := fun _ => 0) h2 rfl) (zup_lo (v := fun _ => 0) h3 rfl)
  refine z_aload_n (i := 0) C dX5_folds_0 rfl rfl ?_
  refine z_get (ci := 5) C (hi_X5_folds_X5) 0 rfl rfl 3 (by decide) (by decide +kernel) rfl dX5_folds_1 ?_
  refine z_iload_n (i := 1) C dX5_folds_4 rfl rfl ?_
  refine z_ialoadI 3 (he := rfl) C (zT_of hE (t0 := 0) rfl) (by omega) (by omega) (by decide) dX5_folds_5 ?_
  refine z_istore_n (i := 2) (lv' := [some (.ref r), some (.int (iI i0)), some (.int (iI (LE i0))), none]) C dX5_folds_6 rfl rfl rfl ?_
  refine z_iconst (v := iI 0) C dX5_folds_7 rfl ?_
  refine z_istore_n (i := 3) (lv' := [some (.ref r), some (.int (iI i0)), some (.int (iI (LE i0))), some (.int (iI 0))]) C dX5_folds_8 rfl rfl rfl ?_
  exact lp ((LE i0).toNat + 1) 0 PL HE TU (by omega) (by omega) (fun q a b => by omega) (fun q a b => by omega) (fun q a b => by omega)
