/-! CLASS AND REFERENCE, call by call. -/
set_option maxHeartbeats 1000000 in
set_option maxRecDepth 100000 in
theorem pair_setNeeds (l : Launch) (hl : l.stackTraces = false) (D : va_G) (cI cZ cM cL : ClassId) (h r o : Nat) (k0 : Int) (G R : va_W) (hrel : REL cI cZ cM h r k0 G R) (f : Int → Int64) (x1 : Int32) (x2 : Int32) : ∃ PH PF : Option Value → va_W → Prop, zN l yL_setNeeds wsL_setNeeds { frames := 8, cells := 2, slots := 12, locals := 134 } D (zTy cI cZ cM cL) [.ref h, .int x1, .int x2, .ref o] ([(o, lr cL 1 f)] ++ G) PH 2 12 ∧ zN l yX5_setNeeds wsX5_setNeeds { frames := 1, cells := 0, slots := 0, locals := 24 } D (zTy cI cZ cM cL) [.ref r, .int x1, .int x2] R PF 0 0 ∧ zEnd cI cZ cM cL h r o false PH PF := by
  obtain ⟨nd, kn, gm, us, fo, fh, mi, fw, wt, n, ND, KN, US, μ, x, t, s0, FH, L, d, A, B, e1, e2, e3, e4, e5, e6, e7, e8, e9, e10, e11, e12, e13, e14, sz, mo, AU, LE, SN, KK, AT, LF, PL, HE, TU, MA, CU, rfl, rfl, hx⟩ := hrel
  obtain ⟨z1, hz1, rfl⟩ : ∃ z : Int, iR z ∧ x1 = iI z := ⟨_, iI_rng x1, iI_of x1⟩
  obtain ⟨z2, hz2, rfl⟩ : ∃ z : Int, iR z ∧ x2 = iI z := ⟨_, iI_rng x2, iI_of x2⟩
  refine ⟨_, _, h_setNeeds l D cI cZ cM cL h o _ _ rfl f (cSN ND z1 z2) (by unfold cSN; repeat' (first | omega | split)) (iI z1) (iI z2) _ (fun r9 w9 hp => ?_) (k_setNeeds l hl D cI cZ cM cL h nd kn gm us fo fh mi fw wt n ND KN US μ x t s0 FH L d A B hx.1 z1 z2 hz1 hz2), k_rsetNeeds l D cI cZ cM cL r e1 e2 e3 e4 e5 e6 e7 e8 e9 e10 e11 e12 e13 e14 n L d sz mo k0 ND US KN AU LE SN KK AT LF PL HE TU MA CU hx.rO z1 z2 hz1 hz2, fun r1 w1 hp1 => ?_⟩
  · obtain ⟨-, hp2, -⟩ := hp; exact ⟨_, hp2⟩
  · rcases hp1 with ⟨x9, G1, rfl, rfl, hpG⟩ | ⟨rfl, hc, rfl⟩
    · obtain ⟨hc, hv9, rfl⟩ := hpG
      have hv9 := Value.int.inj (Option.some.inj hv9)
      refine ⟨0, _, _, rfl, rfl, fun r2 w2 hp2 => ?_⟩
      rcases hp2 with ⟨hc2, rfl, sz1, mo1, PL1, HE1, TU1, MA1, CU1, rfl⟩ | ⟨hc2, -, -⟩
      · refine ⟨_, rfl, ⟨by omega, by omega⟩, fun _ => by rw [zup_self, hv9], nd, kn, gm, us, fo, fh, mi, fw, wt, n, zup ND z1 (iI z2), KN, US, μ, x, t, s0, FH, L, d, A, B, e1, e2, e3, e4, e5, e6, e7, e8, e9, e10, e11, e12, e13, e14, sz1, mo1, AU, LE, SN, KK, AT, LF, PL1, HE1, TU1, MA1, CU1, rfl, rfl, hx.nd (byt_z (cSN_0 hc).2.1 (by have := (cSN_0 hc).2.2; omega))⟩
      · exact absurd ((SN_eq hx.2.1 z1 z2).trans hc) hc2
    · refine ⟨cSN ND z1 z2, f, _, rfl, rfl, fun r2 w2 hp2 => ?_⟩
      rcases hp2 with ⟨hc2, -, -⟩ | ⟨hc2, rfl, sz1, mo1, PL1, HE1, TU1, MA1, CU1, rfl⟩
      · exact absurd ((SN_eq hx.2.1 z1 z2).symm.trans hc2) hc
      · exact ⟨_, rfl, ⟨by unfold cSN; repeat' (first | omega | split), by unfold cSN; repeat' (first | omega | split)⟩, fun e => absurd e hc, nd, kn, gm, us, fo, fh, mi, fw, wt, n, ND, KN, US, μ, x, t, s0, FH, L, d, A, B, e1, e2, e3, e4, e5, e6, e7, e8, e9, e10, e11, e12, e13, e14, sz1, mo1, AU, LE, SN, KK, AT, LF, PL1, HE1, TU1, MA1, CU1, rfl, by rw [SN_eq hx.2.1 z1 z2], hx⟩
set_option maxHeartbeats 1000000 in
set_option maxRecDepth 100000 in
theorem pair_addModel (l : Launch) (hl : l.stackTraces = false) (D : va_G) (cI cZ cM cL : ClassId) (h r o : Nat) (k0 : Int) (G R : va_W) (hrel : REL cI cZ cM h r k0 G R) (f : Int → Int64) (x1 : Int32) (x2 : Int32) : ∃ PH PF : Option Value → va_W → Prop, zN l yL_addModel wsL_addModel { frames := 8, cells := 11, slots := 185, locals := 133 } D (zTy cI cZ cM cL) [.ref h, .int x1, .int x2, .ref o] ([(o, lr cL 1 f)] ++ G) PH 11 185 ∧ zN l yX5_addModel wsX5_addModel { frames := 1, cells := 0, slots := 0, locals := 22 } D (zTy cI cZ cM cL) [.ref r, .int x1, .int x2] R PF 0 0 ∧ zEnd cI cZ cM cL h r o false PH PF := by
  obtain ⟨nd, kn, gm, us, fo, fh, mi, fw, wt, n, ND, KN, US, μ, x, t, s0, FH, L, d, A, B, e1, e2, e3, e4, e5, e6, e7, e8, e9, e10, e11, e12, e13, e14, sz, mo, AU, LE, SN, KK, AT, LF, PL, HE, TU, MA, CU, rfl, rfl, hx⟩ := hrel
  obtain ⟨z1, hz1, rfl⟩ : ∃ z : Int, iR z ∧ x1 = iI z := ⟨_, iI_rng x1, iI_of x1⟩
  obtain ⟨z2, hz2, rfl⟩ : ∃ z : Int, iR z ∧ x2 = iI z := ⟨_, iI_rng x2, iI_of x2⟩
  refine ⟨_, _, h_addModel l D cI cZ cM cL h o _ _ rfl f (cAM n z1 z2)  (iI z1) (iI z2) _ (fun r9 w9 hp => ?_) (k_addModel l hl D cI cZ cM cL h nd kn gm us fo fh mi fw wt n ND KN US μ x t s0 FH L d A B hx.1 z1 z2 hz1 hz2), k_raddModel l D cI cZ cM cL r e1 e2 e3 e4 e5 e6 e7 e8 e9 e10 e11 e12 e13 e14 n L d sz mo k0 ND US KN AU LE SN KK AT LF PL HE TU MA CU hx.rO z1 z2 hz1 hz2, fun r1 w1 hp1 => ?_⟩
  · obtain ⟨-, hp2, -⟩ := hp; exact ⟨_, hp2⟩
  · rcases hp1 with ⟨x9, G1, rfl, rfl, hpG⟩ | ⟨rfl, hc, rfl⟩
    · obtain ⟨hc, hv9, ⟨u9, rfl, a1, a2, a3, a4⟩⟩ := hpG
      have hv9 := Value.int.inj (Option.some.inj hv9)
      refine ⟨0, _, _, rfl, rfl, fun r2 w2 hp2 => ?_⟩
      rcases hp2 with ⟨hc2, rfl, sz1, mo1, PL1, HE1, TU1, MA1, CU1, rfl⟩ | ⟨hc2, -, -⟩
      · refine ⟨_, rfl, ⟨by omega, by omega⟩, fun _ => by rw [zup_self, hv9], nd, kn, gm, us, fo, fh, mi, fw, wt, n + 1, ND, KN, US, va_up μ n u9, x, t, s0, FH, L, d, A, B, e1, e2, e3, e4, e5, e6, e7, e8, e9, e10, e11, e12, e13, e14, sz1, mo1, zup AU n z1, zup LE n z2, SN, KK, AT, LF, PL1, HE1, TU1, MA1, CU1, rfl, rfl, hx.add (cAM_0 hc) a1 a2 a3 a4⟩
      · exact absurd (hc) hc2
    · refine ⟨cAM n z1 z2, f, _, rfl, rfl, fun r2 w2 hp2 => ?_⟩
      rcases hp2 with ⟨hc2, -, -⟩ | ⟨hc2, rfl, sz1, mo1, PL1, HE1, TU1, MA1, CU1, rfl⟩
      · exact absurd (hc2) hc
      · exact ⟨_, rfl, ⟨by unfold cAM; repeat' (first | omega | split), by unfold cAM; repeat' (first | omega | split)⟩, fun e => absurd e hc, nd, kn, gm, us, fo, fh, mi, fw, wt, n, ND, KN, US, μ, x, t, s0, FH, L, d, A, B, e1, e2, e3, e4, e5, e6, e7, e8, e9, e10, e11, e12, e13, e14, sz1, mo1, AU, LE, SN, KK, AT, LF, PL1, HE1, TU1, MA1, CU1, rfl, rfl, hx⟩
set_option maxHeartbeats 1000000 in
set_option maxRecDepth 100000 in
theorem pair_fold (l : Launch) (hl : l.stackTraces = false) (D : va_G) (cI cZ cM cL : ClassId) (h r o : Nat) (k0 : Int) (G R : va_W) (hrel : REL cI cZ cM h r k0 G R) (f : Int → Int64) (x1 : Int32) (x2 : Int32) (x3 : Int32) (f0 : Int) (hf0 : f0 = 0 ∨ f0 = 1) : ∃ PH PF : Option Value → va_W → Prop, zN l yL_fold wsL_fold { frames := 9, cells := 4, slots := 24, locals := 183 } D (zTy cI cZ cM cL) [.ref h, .int x1, .int x2, .int x3, .int (iI f0), .ref o] ([(o, lr cL 1 f)] ++ G) PH 4 24 ∧ zN l yX5_fold wsX5_fold { frames := 3, cells := 0, slots := 0, locals := 74 } D (zTy cI cZ cM cL) [.ref r, .int x1, .int x2, .int x3, .int (iI f0)] R PF 0 0 ∧ zEnd cI cZ cM cL h r o false PH PF := by
  obtain ⟨nd, kn, gm, us, fo, fh, mi, fw, wt, n, ND, KN, US, μ, x, t, s0, FH, L, d, A, B, e1, e2, e3, e4, e5, e6, e7, e8, e9, e10, e11, e12, e13, e14, sz, mo, AU, LE, SN, KK, AT, LF, PL, HE, TU, MA, CU, rfl, rfl, hx⟩ := hrel
  obtain ⟨z1, hz1, rfl⟩ : ∃ z : Int, iR z ∧ x1 = iI z := ⟨_, iI_rng x1, iI_of x1⟩
  obtain ⟨z2, hz2, rfl⟩ : ∃ z : Int, iR z ∧ x2 = iI z := ⟨_, iI_rng x2, iI_of x2⟩
  obtain ⟨z3, hz3, rfl⟩ : ∃ z : Int, iR z ∧ x3 = iI z := ⟨_, iI_rng x3, iI_of x3⟩
  refine ⟨_, _, h_fold l D cI cZ cM cL h o _ _ rfl f (cFO n ND (μ z1.toNat) z1 z2 z3)  (iI z1) (iI z2) (iI z3) (iI f0) _ (fun r9 w9 hp => ?_) (k_fold l hl D cI cZ cM cL h nd kn gm us fo fh mi fw wt n ND KN US μ x t s0 FH L d A B hx.1 z1 hz1 z2 z3 f0 hz2 hz3 hf0), k_rfold l D cI cZ cM cL r e1 e2 e3 e4 e5 e6 e7 e8 e9 e10 e11 e12 e13 e14 n L d sz mo k0 ND US KN AU LE SN KK AT LF PL HE TU MA CU hx.rO z1 z2 z3 f0 hz1 hz2 hz3 hf0, fun r1 w1 hp1 => ?_⟩
  · obtain ⟨-, hp2, -⟩ := hp; exact ⟨_, hp2⟩
  · rcases hp1 with ⟨x9, G1, rfl, rfl, hpG⟩ | ⟨rfl, hc, rfl⟩
    · obtain ⟨hc, hv9, ⟨u9, rfl, a1, a2, a3, a4, a5, a6, a7⟩⟩ := hpG
      have hv9 := Value.int.inj (Option.some.inj hv9)
      refine ⟨0, _, _, rfl, rfl, fun r2 w2 hp2 => ?_⟩
      rcases hp2 with ⟨hc2, rfl, sz1, mo1, PL1, HE1, TU1, MA1, CU1, rfl⟩ | ⟨hc2, -, -⟩
      · refine ⟨_, rfl, ⟨by omega, by omega⟩, fun _ => by rw [zup_self, hv9, (hx.at (cFO_0 hc).1.1 (cFO_0 hc).1.2).1.S], nd, kn, gm, us, fo, fh, mi, fw, wt, n, ND, KN, US, va_up μ z1.toNat u9, x, t, s0, FH, L, d, A, B, e1, e2, e3, e4, e5, e6, e7, e8, e9, e10, e11, e12, e13, e14, sz1, mo1, AU, LE, zup SN z1 (SN z1 + 1), zup KK (10 * z1 + SN z1) z2, zup AT (10 * z1 + SN z1) z3, zup LF (10 * z1 + SN z1) f0, PL1, HE1, TU1, MA1, CU1, rfl, rfl, hx.fold (cFO_0 hc).1.1 (cFO_0 hc).1.2 (cFO_0 hc).2 a1 a2 a3 a4 a5 a6 a7⟩
      · exact absurd ((cFO_e hx z1 z2 z3).trans hc) hc2
    · refine ⟨cFO n ND (μ z1.toNat) z1 z2 z3, f, _, rfl, rfl, fun r2 w2 hp2 => ?_⟩
      rcases hp2 with ⟨hc2, -, -⟩ | ⟨hc2, rfl, sz1, mo1, PL1, HE1, TU1, MA1, CU1, rfl⟩
      · exact absurd ((cFO_e hx z1 z2 z3).symm.trans hc2) hc
      · exact ⟨_, rfl, ⟨by unfold cFO; repeat' (first | omega | split), by unfold cFO; repeat' (first | omega | split)⟩, fun e => absurd e hc, nd, kn, gm, us, fo, fh, mi, fw, wt, n, ND, KN, US, μ, x, t, s0, FH, L, d, A, B, e1, e2, e3, e4, e5, e6, e7, e8, e9, e10, e11, e12, e13, e14, sz1, mo1, AU, LE, SN, KK, AT, LF, PL1, HE1, TU1, MA1, CU1, rfl, by rw [cFO_e hx z1 z2 z3], hx⟩
set_option maxHeartbeats 1000000 in
set_option maxRecDepth 100000 in
theorem pair_unfold (l : Launch) (hl : l.stackTraces = false) (D : va_G) (cI cZ cM cL : ClassId) (h r o : Nat) (k0 : Int) (G R : va_W) (hrel : REL cI cZ cM h r k0 G R) (f : Int → Int64) (x1 : Int32) : ∃ PH PF : Option Value → va_W → Prop, zN l yL_unfold wsL_unfold { frames := 9, cells := 3, slots := 18, locals := 178 } D (zTy cI cZ cM cL) [.ref h, .int x1, .ref o] ([(o, lr cL 1 f)] ++ G) PH 3 18 ∧ zN l yX5_unfold wsX5_unfold { frames := 2, cells := 0, slots := 0, locals := 43 } D (zTy cI cZ cM cL) [.ref r, .int x1] R PF 0 0 ∧ zEnd cI cZ cM cL h r o false PH PF := by
  obtain ⟨nd, kn, gm, us, fo, fh, mi, fw, wt, n, ND, KN, US, μ, x, t, s0, FH, L, d, A, B, e1, e2, e3, e4, e5, e6, e7, e8, e9, e10, e11, e12, e13, e14, sz, mo, AU, LE, SN, KK, AT, LF, PL, HE, TU, MA, CU, rfl, rfl, hx⟩ := hrel
  obtain ⟨z1, hz1, rfl⟩ : ∃ z : Int, iR z ∧ x1 = iI z := ⟨_, iI_rng x1, iI_of x1⟩
  refine ⟨_, _, h_unfold l D cI cZ cM cL h o _ _ rfl f (cUN n (μ z1.toNat) z1) (by unfold cUN; repeat' (first | omega | split)) (iI z1) _ (fun r9 w9 hp => ?_) (k_unfold l hl D cI cZ cM cL h nd kn gm us fo fh mi fw wt n ND KN US μ x t s0 FH L d A B hx.1 z1 hz1), k_runfold l D cI cZ cM cL r e1 e2 e3 e4 e5 e6 e7 e8 e9 e10 e11 e12 e13 e14 n L d sz mo k0 ND US KN AU LE SN KK AT LF PL HE TU MA CU hx.rO z1 hz1, fun r1 w1 hp1 => ?_⟩
  · obtain ⟨-, hp2, -⟩ := hp; exact ⟨_, hp2⟩
  · rcases hp1 with ⟨x9, G1, rfl, rfl, hpG⟩ | ⟨rfl, hc, rfl⟩
    · obtain ⟨hc, hv9, ⟨u9, rfl, a1, a2, a3, a4, a5, a6, a7⟩⟩ := hpG
      have hv9 := Value.int.inj (Option.some.inj hv9)
      have hK9 : mK (μ z1.toNat) (msn (μ z1.toNat) - 1) = KK (10 * z1 + (SN z1 - 1)) := by
        obtain ⟨s1, s2, s3⟩ := hx.sn (cUN_0 hc).1.1 (cUN_0 hc).1.2
        have s4 := (cUN_0 hc).2
        have s5 := ((hx.at (cUN_0 hc).1.1 (cUN_0 hc).1.2).1.2.2.2 (msn (μ z1.toNat) - 1) (by omega) (by omega)).1
        rw [s5, s1]
        rfl
      refine ⟨0, _, _, rfl, rfl, fun r2 w2 hp2 => ?_⟩
      rcases hp2 with ⟨hc2, rfl, sz1, mo1, PL1, HE1, TU1, MA1, CU1, rfl⟩ | ⟨hc2, -, -⟩
      · refine ⟨_, rfl, ⟨by omega, by omega⟩, fun _ => by rw [zup_self, hv9, hK9], nd, kn, gm, us, fo, fh, mi, fw, wt, n, ND, KN, US, va_up μ z1.toNat u9, x, t, s0, FH, L, d, A, B, e1, e2, e3, e4, e5, e6, e7, e8, e9, e10, e11, e12, e13, e14, sz1, mo1, AU, LE, zup SN z1 (SN z1 - 1), KK, AT, LF, PL1, HE1, TU1, MA1, CU1, rfl, rfl, hx.unfold (cUN_0 hc).1.1 (cUN_0 hc).1.2 a1 a2 a3 a4 a5 a6 a7⟩
      · exact absurd ((cUN_e hx z1).trans hc) hc2
    · refine ⟨cUN n (μ z1.toNat) z1, f, _, rfl, rfl, fun r2 w2 hp2 => ?_⟩
      rcases hp2 with ⟨hc2, -, -⟩ | ⟨hc2, rfl, sz1, mo1, PL1, HE1, TU1, MA1, CU1, rfl⟩
      · exact absurd ((cUN_e hx z1).symm.trans hc2) hc
      · exact ⟨_, rfl, ⟨by unfold cUN; repeat' (first | omega | split), by unfold cUN; repeat' (first | omega | split)⟩, fun e => absurd e hc, nd, kn, gm, us, fo, fh, mi, fw, wt, n, ND, KN, US, μ, x, t, s0, FH, L, d, A, B, e1, e2, e3, e4, e5, e6, e7, e8, e9, e10, e11, e12, e13, e14, sz1, mo1, AU, LE, SN, KK, AT, LF, PL1, HE1, TU1, MA1, CU1, rfl, by rw [cUN_e hx z1], hx⟩
set_option maxHeartbeats 1000000 in
set_option maxRecDepth 100000 in
theorem pair_use (l : Launch) (hl : l.stackTraces = false) (D : va_G) (cI cZ cM cL : ClassId) (h r o : Nat) (k0 : Int) (G R : va_W) (hrel : REL cI cZ cM h r k0 G R) (f : Int → Int64) (x1 : Int32) (x2 : Int32) : ∃ PH PF : Option Value → va_W → Prop, zN l yL_use wsL_use { frames := 8, cells := 3, slots := 18, locals := 134 } D (zTy cI cZ cM cL) [.ref h, .int x1, .int x2, .ref o] ([(o, lr cL 1 f)] ++ G) PH 3 18 ∧ zN l yX5_use wsX5_use { frames := 1, cells := 0, slots := 0, locals := 24 } D (zTy cI cZ cM cL) [.ref r, .int x1, .int x2] R PF 0 0 ∧ zEnd cI cZ cM cL h r o true PH PF := by
  obtain ⟨nd, kn, gm, us, fo, fh, mi, fw, wt, n, ND, KN, US, μ, x, t, s0, FH, L, d, A, B, e1, e2, e3, e4, e5, e6, e7, e8, e9, e10, e11, e12, e13, e14, sz, mo, AU, LE, SN, KK, AT, LF, PL, HE, TU, MA, CU, rfl, rfl, hx⟩ := hrel
  obtain ⟨z1, hz1, rfl⟩ : ∃ z : Int, iR z ∧ x1 = iI z := ⟨_, iI_rng x1, iI_of x1⟩
  obtain ⟨z2, hz2, rfl⟩ : ∃ z : Int, iR z ∧ x2 = iI z := ⟨_, iI_rng x2, iI_of x2⟩
  refine ⟨_, _, h_use l D cI cZ cM cL h o _ _ rfl f (cUS n US z1 z2) (by unfold cUS; repeat' (first | omega | split)) (iI z1) (iI z2) _ (fun r9 w9 hp => ?_) (k_use l hl D cI cZ cM cL h nd kn gm us fo fh mi fw wt n ND KN US μ x t s0 FH L d A B hx.1 z1 z2 hz1 hz2), k_ruse l D cI cZ cM cL r e1 e2 e3 e4 e5 e6 e7 e8 e9 e10 e11 e12 e13 e14 n L d sz mo k0 ND US KN AU LE SN KK AT LF PL HE TU MA CU hx.rO z1 z2 hz1 hz2, fun r1 w1 hp1 => ?_⟩
  · obtain ⟨-, hp2, -⟩ := hp; exact ⟨_, hp2⟩
  · rcases hp1 with ⟨x9, G1, rfl, rfl, hpG⟩ | ⟨rfl, hc, rfl⟩
    · obtain ⟨hc, hv9, rfl⟩ := hpG
      have hv9 := Value.int.inj (Option.some.inj hv9)
      refine ⟨0, _, _, rfl, rfl, fun r2 w2 hp2 => ?_⟩
      rcases hp2 with ⟨hc2, rfl, sz1, mo1, PL1, HE1, TU1, MA1, CU1, rfl⟩ | ⟨hc2, -, -⟩
      · refine ⟨_, rfl, ⟨by omega, by omega⟩, fun _ => by rw [zup_self, hv9], nd, kn, gm, us, fo, fh, mi, fw, wt, n, ND, KN, zup US z1 (US z1 ||| (iI 1 <<< (iI z2 &&& 31))), μ, x, t, s0, FH, L, d, A, B, e1, e2, e3, e4, e5, e6, e7, e8, e9, e10, e11, e12, e13, e14, sz1, mo1, AU, LE, SN, KK, AT, LF, PL1, HE1, TU1, MA1, CU1, rfl, rfl, hx.use (cUS_0 hc).2⟩
      · exact absurd (hc) hc2
    · refine ⟨cUS n US z1 z2, f, _, rfl, rfl, fun r2 w2 hp2 => ?_⟩
      rcases hp2 with ⟨hc2, -, -⟩ | ⟨hc2, rfl, sz1, mo1, PL1, HE1, TU1, MA1, CU1, rfl⟩
      · exact absurd (hc2) hc
      · exact ⟨_, rfl, ⟨by unfold cUS; repeat' (first | omega | split), by unfold cUS; repeat' (first | omega | split)⟩, fun e => absurd e hc, nd, kn, gm, us, fo, fh, mi, fw, wt, n, ND, KN, US, μ, x, t, s0, FH, L, d, A, B, e1, e2, e3, e4, e5, e6, e7, e8, e9, e10, e11, e12, e13, e14, sz1, mo1, AU, LE, SN, KK, AT, LF, PL1, HE1, TU1, MA1, CU1, rfl, rfl, hx⟩
set_option maxHeartbeats 1000000 in
set_option maxRecDepth 100000 in
theorem pair_setRoll (l : Launch) (hl : l.stackTraces = false) (D : va_G) (cI cZ cM cL : ClassId) (h r o : Nat) (k0 : Int) (G R : va_W) (hrel : REL cI cZ cM h r k0 G R) (f : Int → Int64) (x1 : Int32) (x2 : Int32) : ∃ PH PF : Option Value → va_W → Prop, zN l yL_setRoll wsL_setRoll { frames := 7, cells := 1, slots := 6, locals := 113 } D (zTy cI cZ cM cL) [.ref h, .int x1, .int x2, .ref o] ([(o, lr cL 1 f)] ++ G) PH 1 6 ∧ zN l yX5_setRoll wsX5_setRoll { frames := 1, cells := 0, slots := 0, locals := 22 } D (zTy cI cZ cM cL) [.ref r, .int x1, .int x2] R PF 0 0 ∧ zEnd cI cZ cM cL h r o false PH PF := by
  obtain ⟨nd, kn, gm, us, fo, fh, mi, fw, wt, n, ND, KN, US, μ, x, t, s0, FH, L, d, A, B, e1, e2, e3, e4, e5, e6, e7, e8, e9, e10, e11, e12, e13, e14, sz, mo, AU, LE, SN, KK, AT, LF, PL, HE, TU, MA, CU, rfl, rfl, hx⟩ := hrel
  obtain ⟨z1, hz1, rfl⟩ : ∃ z : Int, iR z ∧ x1 = iI z := ⟨_, iI_rng x1, iI_of x1⟩
  obtain ⟨z2, hz2, rfl⟩ : ∃ z : Int, iR z ∧ x2 = iI z := ⟨_, iI_rng x2, iI_of x2⟩
  refine ⟨_, _, h_setRoll l D cI cZ cM cL h o _ _ rfl f (cSR z1 z2) (by unfold cSR; repeat' (first | omega | split)) (by unfold cSR; repeat' (first | omega | split)) (iI z1) (iI z2) _ (fun r9 w9 hp => ?_) (k_setRoll l hl D cI cZ cM cL h nd kn gm us fo fh mi fw wt n ND KN US μ x t s0 FH L d A B hx.1 z1 z2 hz1 hz2), k_rsetRoll l D cI cZ cM cL r e1 e2 e3 e4 e5 e6 e7 e8 e9 e10 e11 e12 e13 e14 n L d sz mo k0 ND US KN AU LE SN KK AT LF PL HE TU MA CU hx.rO z1 z2 hz1 hz2, fun r1 w1 hp1 => ?_⟩
  · obtain ⟨-, hp2, -⟩ := hp; exact ⟨_, hp2⟩
  · rcases hp1 with ⟨x9, G1, rfl, rfl, hpG⟩ | ⟨rfl, hc, rfl⟩
    · obtain ⟨hc, hv9, rfl⟩ := hpG
      have hv9 := Value.int.inj (Option.some.inj hv9)
      refine ⟨0, _, _, rfl, rfl, fun r2 w2 hp2 => ?_⟩
      rcases hp2 with ⟨hc2, rfl, sz1, mo1, PL1, HE1, TU1, MA1, CU1, rfl⟩ | ⟨hc2, -, -⟩
      · refine ⟨_, rfl, ⟨by omega, by omega⟩, fun _ => by rw [zup_self, hv9], nd, kn, gm, us, fo, fh, mi, fw, wt, n, ND, KN, US, μ, x, t, s0, FH, z1, iI z2, A, B, e1, e2, e3, e4, e5, e6, e7, e8, e9, e10, e11, e12, e13, e14, sz1, mo1, AU, LE, SN, KK, AT, LF, PL1, HE1, TU1, MA1, CU1, rfl, rfl, hx.roll (cSR_0 hc).1 (cSR_0 hc).2⟩
      · exact absurd (hc) hc2
    · refine ⟨cSR z1 z2, f, _, rfl, rfl, fun r2 w2 hp2 => ?_⟩
      rcases hp2 with ⟨hc2, -, -⟩ | ⟨hc2, rfl, sz1, mo1, PL1, HE1, TU1, MA1, CU1, rfl⟩
      · exact absurd (hc2) hc
      · exact ⟨_, rfl, ⟨by unfold cSR; repeat' (first | omega | split), by unfold cSR; repeat' (first | omega | split)⟩, fun e => absurd e hc, nd, kn, gm, us, fo, fh, mi, fw, wt, n, ND, KN, US, μ, x, t, s0, FH, L, d, A, B, e1, e2, e3, e4, e5, e6, e7, e8, e9, e10, e11, e12, e13, e14, sz1, mo1, AU, LE, SN, KK, AT, LF, PL1, HE1, TU1, MA1, CU1, rfl, rfl, hx⟩
set_option maxHeartbeats 1000000 in
set_option maxRecDepth 100000 in
theorem pair_teach (l : Launch) (hl : l.stackTraces = false) (D : va_G) (cI cZ cM cL : ClassId) (h r o : Nat) (k0 : Int) (G R : va_W) (hrel : REL cI cZ cM h r k0 G R) (f : Int → Int64) (x1 : Int32) (x2 : Int32) : ∃ PH PF : Option Value → va_W → Prop, zN l yL_teach wsL_teach { frames := 8, cells := 3, slots := 18, locals := 133 } D (zTy cI cZ cM cL) [.ref h, .int x1, .int x2, .ref o] ([(o, lr cL 1 f)] ++ G) PH 3 18 ∧ zN l yX5_teach wsX5_teach { frames := 1, cells := 0, slots := 0, locals := 22 } D (zTy cI cZ cM cL) [.ref r, .int x1, .int x2] R PF 0 0 ∧ zEnd cI cZ cM cL h r o false PH PF := by
  obtain ⟨nd, kn, gm, us, fo, fh, mi, fw, wt, n, ND, KN, US, μ, x, t, s0, FH, L, d, A, B, e1, e2, e3, e4, e5, e6, e7, e8, e9, e10, e11, e12, e13, e14, sz, mo, AU, LE, SN, KK, AT, LF, PL, HE, TU, MA, CU, rfl, rfl, hx⟩ := hrel
  obtain ⟨z1, hz1, rfl⟩ : ∃ z : Int, iR z ∧ x1 = iI z := ⟨_, iI_rng x1, iI_of x1⟩
  obtain ⟨z2, hz2, rfl⟩ : ∃ z : Int, iR z ∧ x2 = iI z := ⟨_, iI_rng x2, iI_of x2⟩
  refine ⟨_, _, h_teach l D cI cZ cM cL h o _ _ rfl f (cTE ND KN z1 z2) (by unfold cTE; repeat' (first | omega | split)) (iI z1) (iI z2) _ (fun r9 w9 hp => ?_) (k_teach l hl D cI cZ cM cL h nd kn gm us fo fh mi fw wt n ND KN US μ x t s0 FH L d A B hx.1 z1 z2 hz1 hz2), k_rteach l D cI cZ cM cL r e1 e2 e3 e4 e5 e6 e7 e8 e9 e10 e11 e12 e13 e14 n L d sz mo k0 ND US KN AU LE SN KK AT LF PL HE TU MA CU hx.rO z1 z2 hz1 hz2, fun r1 w1 hp1 => ?_⟩
  · obtain ⟨-, hp2, -⟩ := hp; exact ⟨_, hp2⟩
  · rcases hp1 with ⟨x9, G1, rfl, rfl, hpG⟩ | ⟨rfl, hc, rfl⟩
    · obtain ⟨hc, hv9, rfl⟩ := hpG
      have hv9 := Value.int.inj (Option.some.inj hv9)
      have hB9 : byt (KN z1 ||| (iI 1 <<< (iI z2 &&& 31))) := byt_or (hx.2.2.1 z1 (cTE_0 hc).1.1 (cTE_0 hc).1.2) (byt_1 (cTE_0 hc).2.1 (cTE_0 hc).2.2)
      refine ⟨0, _, _, rfl, rfl, fun r2 w2 hp2 => ?_⟩
      rcases hp2 with ⟨hc2, rfl, sz1, mo1, PL1, HE1, TU1, MA1, CU1, rfl⟩ | ⟨hc2, -, -⟩
      · refine ⟨_, rfl, ⟨by omega, by omega⟩, fun _ => by rw [zup_self, hv9, byt_bc hB9], nd, kn, gm, us, fo, fh, mi, fw, wt, n, ND, zup KN z1 (KN z1 ||| (iI 1 <<< (iI z2 &&& 31))), US, μ, x, t, s0, FH, L, d, A, B, e1, e2, e3, e4, e5, e6, e7, e8, e9, e10, e11, e12, e13, e14, sz1, mo1, AU, LE, SN, KK, AT, LF, PL1, HE1, TU1, MA1, CU1, rfl, rfl, hx.kn hB9⟩
      · exact absurd (hc) hc2
    · refine ⟨cTE ND KN z1 z2, f, _, rfl, rfl, fun r2 w2 hp2 => ?_⟩
      rcases hp2 with ⟨hc2, -, -⟩ | ⟨hc2, rfl, sz1, mo1, PL1, HE1, TU1, MA1, CU1, rfl⟩
      · exact absurd (hc2) hc
      · exact ⟨_, rfl, ⟨by unfold cTE; repeat' (first | omega | split), by unfold cTE; repeat' (first | omega | split)⟩, fun e => absurd e hc, nd, kn, gm, us, fo, fh, mi, fw, wt, n, ND, KN, US, μ, x, t, s0, FH, L, d, A, B, e1, e2, e3, e4, e5, e6, e7, e8, e9, e10, e11, e12, e13, e14, sz1, mo1, AU, LE, SN, KK, AT, LF, PL1, HE1, TU1, MA1, CU1, rfl, rfl, hx⟩
set_option maxHeartbeats 1000000 in
set_option maxRecDepth 100000 in
theorem pair_steps (l : Launch) (hl : l.stackTraces = false) (D : va_G) (cI cZ cM cL : ClassId) (h r o : Nat) (k0 : Int) (G R : va_W) (hrel : REL cI cZ cM h r k0 G R) (f : Int → Int64) (x1 : Int32) : ∃ PH PF : Option Value → va_W → Prop, zN l yL_steps wsL_steps { frames := 9, cells := 2, slots := 12, locals := 154 } D (zTy cI cZ cM cL) [.ref h, .int x1, .ref o] ([(o, lr cL 1 f)] ++ G) PH 2 12 ∧ zN l yX5_steps wsX5_steps { frames := 2, cells := 0, slots := 0, locals := 43 } D (zTy cI cZ cM cL) [.ref r, .int x1] R PF 0 0 ∧ zEnd cI cZ cM cL h r o false PH PF := by
  obtain ⟨nd, kn, gm, us, fo, fh, mi, fw, wt, n, ND, KN, US, μ, x, t, s0, FH, L, d, A, B, e1, e2, e3, e4, e5, e6, e7, e8, e9, e10, e11, e12, e13, e14, sz, mo, AU, LE, SN, KK, AT, LF, PL, HE, TU, MA, CU, rfl, rfl, hx⟩ := hrel
  obtain ⟨z1, hz1, rfl⟩ : ∃ z : Int, iR z ∧ x1 = iI z := ⟨_, iI_rng x1, iI_of x1⟩
  refine ⟨_, _, h_steps l D cI cZ cM cL h o _ _ rfl f (cM1 n z1) (by unfold cM1; repeat' (first | omega | split)) (by unfold cM1; repeat' (first | omega | split)) (iI z1) _ (fun r9 w9 hp => ?_) (k_steps l hl D cI cZ cM cL h nd kn gm us fo fh mi fw wt n ND KN US μ x t s0 FH L d A B hx.1 z1 hz1), k_rsteps l D cI cZ cM cL r e1 e2 e3 e4 e5 e6 e7 e8 e9 e10 e11 e12 e13 e14 n L d sz mo k0 ND US KN AU LE SN KK AT LF PL HE TU MA CU hx.rO z1 hz1, fun r1 w1 hp1 => ?_⟩
  · obtain ⟨-, hp2, -⟩ := hp; exact ⟨_, hp2⟩
  · rcases hp1 with ⟨x9, G1, rfl, rfl, hpG⟩ | ⟨rfl, hc, rfl⟩
    · obtain ⟨hc, hv9, rfl⟩ := hpG
      have hv9 := Value.int.inj (Option.some.inj hv9)
      refine ⟨0, _, _, rfl, rfl, fun r2 w2 hp2 => ?_⟩
      rcases hp2 with ⟨hc2, rfl, sz1, mo1, PL1, HE1, TU1, MA1, CU1, rfl⟩ | ⟨hc2, -, -⟩
      · refine ⟨_, rfl, ⟨by omega, by omega⟩, fun _ => by rw [zup_self, hv9, (hx.sn (cM1_0 hc).1 (cM1_0 hc).2).1], nd, kn, gm, us, fo, fh, mi, fw, wt, n, ND, KN, US, μ, x, t, s0, FH, L, d, A, B, e1, e2, e3, e4, e5, e6, e7, e8, e9, e10, e11, e12, e13, e14, sz1, mo1, AU, LE, SN, KK, AT, LF, PL1, HE1, TU1, MA1, CU1, rfl, rfl, hx⟩
      · exact absurd (hc) hc2
    · refine ⟨cM1 n z1, f, _, rfl, rfl, fun r2 w2 hp2 => ?_⟩
      rcases hp2 with ⟨hc2, -, -⟩ | ⟨hc2, rfl, sz1, mo1, PL1, HE1, TU1, MA1, CU1, rfl⟩
      · exact absurd (hc2) hc
      · exact ⟨_, rfl, ⟨by unfold cM1; repeat' (first | omega | split), by unfold cM1; repeat' (first | omega | split)⟩, fun e => absurd e hc, nd, kn, gm, us, fo, fh, mi, fw, wt, n, ND, KN, US, μ, x, t, s0, FH, L, d, A, B, e1, e2, e3, e4, e5, e6, e7, e8, e9, e10, e11, e12, e13, e14, sz1, mo1, AU, LE, SN, KK, AT, LF, PL1, HE1, TU1, MA1, CU1, rfl, rfl, hx⟩
set_option maxHeartbeats 1000000 in
set_option maxRecDepth 100000 in
theorem pair_places (l : Launch) (hl : l.stackTraces = false) (D : va_G) (cI cZ cM cL : ClassId) (h r o : Nat) (k0 : Int) (G R : va_W) (hrel : REL cI cZ cM h r k0 G R) (f : Int → Int64) (x1 : Int32) : ∃ PH PF : Option Value → va_W → Prop, zN l yL_places wsL_places { frames := 9, cells := 2, slots := 12, locals := 154 } D (zTy cI cZ cM cL) [.ref h, .int x1, .ref o] ([(o, lr cL 1 f)] ++ G) PH 2 12 ∧ zN l yX5_places wsX5_places { frames := 3, cells := 0, slots := 0, locals := 74 } D (zTy cI cZ cM cL) [.ref r, .int x1] R PF 0 0 ∧ zEnd cI cZ cM cL h r o false PH PF := by
  obtain ⟨nd, kn, gm, us, fo, fh, mi, fw, wt, n, ND, KN, US, μ, x, t, s0, FH, L, d, A, B, e1, e2, e3, e4, e5, e6, e7, e8, e9, e10, e11, e12, e13, e14, sz, mo, AU, LE, SN, KK, AT, LF, PL, HE, TU, MA, CU, rfl, rfl, hx⟩ := hrel
  obtain ⟨z1, hz1, rfl⟩ : ∃ z : Int, iR z ∧ x1 = iI z := ⟨_, iI_rng x1, iI_of x1⟩
  refine ⟨_, _, h_places l D cI cZ cM cL h o _ _ rfl f (cM1 n z1) (by unfold cM1; repeat' (first | omega | split)) (by unfold cM1; repeat' (first | omega | split)) (iI z1) _ (fun r9 w9 hp => ?_) (k_places l hl D cI cZ cM cL h nd kn gm us fo fh mi fw wt n ND KN US μ x t s0 FH L d A B hx.1 z1 hz1), k_rplaces l D cI cZ cM cL r e1 e2 e3 e4 e5 e6 e7 e8 e9 e10 e11 e12 e13 e14 n L d sz mo k0 ND US KN AU LE SN KK AT LF PL HE TU MA CU hx.rO z1 hz1, fun r1 w1 hp1 => ?_⟩
  · obtain ⟨-, hp2, -⟩ := hp; exact ⟨_, hp2⟩
  · rcases hp1 with ⟨x9, G1, rfl, rfl, hpG⟩ | ⟨rfl, hc, rfl⟩
    · obtain ⟨hc, hv9, rfl⟩ := hpG
      have hv9 := Value.int.inj (Option.some.inj hv9)
      refine ⟨0, _, _, rfl, rfl, fun r2 w2 hp2 => ?_⟩
      rcases hp2 with ⟨hc2, rfl, sz1, mo1, PL1, HE1, TU1, MA1, CU1, rfl⟩ | ⟨hc2, -, -⟩
      · refine ⟨_, rfl, ⟨by omega, by omega⟩, fun _ => by rw [zup_self, hv9, (hx.at (cM1_0 hc).1 (cM1_0 hc).2).1.S], nd, kn, gm, us, fo, fh, mi, fw, wt, n, ND, KN, US, μ, x, t, s0, FH, L, d, A, B, e1, e2, e3, e4, e5, e6, e7, e8, e9, e10, e11, e12, e13, e14, sz1, mo1, AU, LE, SN, KK, AT, LF, PL1, HE1, TU1, MA1, CU1, rfl, rfl, hx⟩
      · exact absurd (hc) hc2
    · refine ⟨cM1 n z1, f, _, rfl, rfl, fun r2 w2 hp2 => ?_⟩
      rcases hp2 with ⟨hc2, -, -⟩ | ⟨hc2, rfl, sz1, mo1, PL1, HE1, TU1, MA1, CU1, rfl⟩
      · exact absurd (hc2) hc
      · exact ⟨_, rfl, ⟨by unfold cM1; repeat' (first | omega | split), by unfold cM1; repeat' (first | omega | split)⟩, fun e => absurd e hc, nd, kn, gm, us, fo, fh, mi, fw, wt, n, ND, KN, US, μ, x, t, s0, FH, L, d, A, B, e1, e2, e3, e4, e5, e6, e7, e8, e9, e10, e11, e12, e13, e14, sz1, mo1, AU, LE, SN, KK, AT, LF, PL1, HE1, TU1, MA1, CU1, rfl, rfl, hx⟩
set_option maxHeartbeats 1000000 in
set_option maxRecDepth 100000 in
theorem pair_layers (l : Launch) (hl : l.stackTraces = false) (D : va_G) (cI cZ cM cL : ClassId) (h r o : Nat) (k0 : Int) (G R : va_W) (hrel : REL cI cZ cM h r k0 G R) (f : Int → Int64) (x1 : Int32) : ∃ PH PF : Option Value → va_W → Prop, zN l yL_layers wsL_layers { frames := 9, cells := 2, slots := 12, locals := 154 } D (zTy cI cZ cM cL) [.ref h, .int x1, .ref o] ([(o, lr cL 1 f)] ++ G) PH 2 12 ∧ zN l yX5_layers wsX5_layers { frames := 4, cells := 0, slots := 0, locals := 97 } D (zTy cI cZ cM cL) [.ref r, .int x1] R PF 0 0 ∧ zEnd cI cZ cM cL h r o false PH PF := by
  obtain ⟨nd, kn, gm, us, fo, fh, mi, fw, wt, n, ND, KN, US, μ, x, t, s0, FH, L, d, A, B, e1, e2, e3, e4, e5, e6, e7, e8, e9, e10, e11, e12, e13, e14, sz, mo, AU, LE, SN, KK, AT, LF, PL, HE, TU, MA, CU, rfl, rfl, hx⟩ := hrel
  obtain ⟨z1, hz1, rfl⟩ : ∃ z : Int, iR z ∧ x1 = iI z := ⟨_, iI_rng x1, iI_of x1⟩
  refine ⟨_, _, h_layers l D cI cZ cM cL h o _ _ rfl f (cM1 n z1) (by unfold cM1; repeat' (first | omega | split)) (by unfold cM1; repeat' (first | omega | split)) (iI z1) _ (fun r9 w9 hp => ?_) (k_layers l hl D cI cZ cM cL h nd kn gm us fo fh mi fw wt n ND KN US μ x t s0 FH L d A B hx.1 z1 hz1), k_rlayers l D cI cZ cM cL r e1 e2 e3 e4 e5 e6 e7 e8 e9 e10 e11 e12 e13 e14 n L d sz mo k0 ND US KN AU LE SN KK AT LF PL HE TU MA CU hx.rO z1 hz1, fun r1 w1 hp1 => ?_⟩
  · obtain ⟨-, hp2, -⟩ := hp; exact ⟨_, hp2⟩
  · rcases hp1 with ⟨x9, G1, rfl, rfl, hpG⟩ | ⟨rfl, hc, rfl⟩
    · obtain ⟨hc, hv9, rfl⟩ := hpG
      have hv9 := Value.int.inj (Option.some.inj hv9)
      refine ⟨0, _, _, rfl, rfl, fun r2 w2 hp2 => ?_⟩
      rcases hp2 with ⟨hc2, rfl, sz1, mo1, PL1, HE1, TU1, MA1, CU1, rfl⟩ | ⟨hc2, -, -⟩
      · refine ⟨_, rfl, ⟨by omega, by omega⟩, fun _ => by rw [zup_self, hv9, (hx.at (cM1_0 hc).1 (cM1_0 hc).2).1.lay], nd, kn, gm, us, fo, fh, mi, fw, wt, n, ND, KN, US, μ, x, t, s0, FH, L, d, A, B, e1, e2, e3, e4, e5, e6, e7, e8, e9, e10, e11, e12, e13, e14, sz1, mo1, AU, LE, SN, KK, AT, LF, PL1, HE1, TU1, MA1, CU1, rfl, rfl, hx⟩
      · exact absurd (hc) hc2
    · refine ⟨cM1 n z1, f, _, rfl, rfl, fun r2 w2 hp2 => ?_⟩
      rcases hp2 with ⟨hc2, -, -⟩ | ⟨hc2, rfl, sz1, mo1, PL1, HE1, TU1, MA1, CU1, rfl⟩
      · exact absurd (hc2) hc
      · exact ⟨_, rfl, ⟨by unfold cM1; repeat' (first | omega | split), by unfold cM1; repeat' (first | omega | split)⟩, fun e => absurd e hc, nd, kn, gm, us, fo, fh, mi, fw, wt, n, ND, KN, US, μ, x, t, s0, FH, L, d, A, B, e1, e2, e3, e4, e5, e6, e7, e8, e9, e10, e11, e12, e13, e14, sz1, mo1, AU, LE, SN, KK, AT, LF, PL1, HE1, TU1, MA1, CU1, rfl, rfl, hx⟩
set_option maxHeartbeats 1000000 in
set_option maxRecDepth 100000 in
theorem pair_layersByFollowing (l : Launch) (hl : l.stackTraces = false) (D : va_G) (cI cZ cM cL : ClassId) (h r o : Nat) (k0 : Int) (G R : va_W) (hrel : REL cI cZ cM h r k0 G R) (f : Int → Int64) (x1 : Int32) : ∃ PH PF : Option Value → va_W → Prop, zN l yL_layersByFollowing wsL_layersByFollowing { frames := 9, cells := 2, slots := 12, locals := 158 } D (zTy cI cZ cM cL) [.ref h, .int x1, .ref o] ([(o, lr cL 1 f)] ++ G) PH 2 12 ∧ zN l yX5_layersByFollowing wsX5_layersByFollowing { frames := 4, cells := 0, slots := 0, locals := 97 } D (zTy cI cZ cM cL) [.ref r, .int x1] R PF 0 0 ∧ zEnd cI cZ cM cL h r o false PH PF := by
  obtain ⟨nd, kn, gm, us, fo, fh, mi, fw, wt, n, ND, KN, US, μ, x, t, s0, FH, L, d, A, B, e1, e2, e3, e4, e5, e6, e7, e8, e9, e10, e11, e12, e13, e14, sz, mo, AU, LE, SN, KK, AT, LF, PL, HE, TU, MA, CU, rfl, rfl, hx⟩ := hrel
  obtain ⟨z1, hz1, rfl⟩ : ∃ z : Int, iR z ∧ x1 = iI z := ⟨_, iI_rng x1, iI_of x1⟩
  refine ⟨_, _, h_layersByFollowing l D cI cZ cM cL h o _ _ rfl f (cM1 n z1) (by unfold cM1; repeat' (first | omega | split)) (by unfold cM1; repeat' (first | omega | split)) (iI z1) _ (fun r9 w9 hp => ?_) (k_layersByFollowing l hl D cI cZ cM cL h nd kn gm us fo fh mi fw wt n ND KN US μ x t s0 FH L d A B hx.1 z1 hz1), k_rlayersByFollowing l D cI cZ cM cL r e1 e2 e3 e4 e5 e6 e7 e8 e9 e10 e11 e12 e13 e14 n L d sz mo k0 ND US KN AU LE SN KK AT LF PL HE TU MA CU hx.rO z1 hz1, fun r1 w1 hp1 => ?_⟩
  · obtain ⟨-, hp2, -⟩ := hp; exact ⟨_, hp2⟩
  · rcases hp1 with ⟨x9, G1, rfl, rfl, hpG⟩ | ⟨rfl, hc, rfl⟩
    · obtain ⟨hc, hv9, ⟨x1, t1, s1, FH1, rfl⟩⟩ := hpG
      have hv9 := Value.int.inj (Option.some.inj hv9)
      refine ⟨0, _, _, rfl, rfl, fun r2 w2 hp2 => ?_⟩
      rcases hp2 with ⟨hc2, rfl, sz1, mo1, PL1, HE1, TU1, MA1, CU1, rfl⟩ | ⟨hc2, -, -⟩
      · refine ⟨_, rfl, ⟨by omega, by omega⟩, fun _ => by rw [zup_self, hv9, mdO_lay (hx.at (cM1_0 hc).1 (cM1_0 hc).2).2, (hx.at (cM1_0 hc).1 (cM1_0 hc).2).1.lay], nd, kn, gm, us, fo, fh, mi, fw, wt, n, ND, KN, US, μ, x1, t1, s1, FH1, L, d, A, B, e1, e2, e3, e4, e5, e6, e7, e8, e9, e10, e11, e12, e13, e14, sz1, mo1, AU, LE, SN, KK, AT, LF, PL1, HE1, TU1, MA1, CU1, rfl, rfl, hx⟩
      · exact absurd (hc) hc2
    · refine ⟨cM1 n z1, f, _, rfl, rfl, fun r2 w2 hp2 => ?_⟩
      rcases hp2 with ⟨hc2, -, -⟩ | ⟨hc2, rfl, sz1, mo1, PL1, HE1, TU1, MA1, CU1, rfl⟩
      · exact absurd (hc2) hc
      · exact ⟨_, rfl, ⟨by unfold cM1; repeat' (first | omega | split), by unfold cM1; repeat' (first | omega | split)⟩, fun e => absurd e hc, nd, kn, gm, us, fo, fh, mi, fw, wt, n, ND, KN, US, μ, x, t, s0, FH, L, d, A, B, e1, e2, e3, e4, e5, e6, e7, e8, e9, e10, e11, e12, e13, e14, sz1, mo1, AU, LE, SN, KK, AT, LF, PL1, HE1, TU1, MA1, CU1, rfl, rfl, hx⟩
set_option maxHeartbeats 1000000 in
set_option maxRecDepth 100000 in
theorem pair_kindsOf (l : Launch) (hl : l.stackTraces = false) (D : va_G) (cI cZ cM cL : ClassId) (h r o : Nat) (k0 : Int) (G R : va_W) (hrel : REL cI cZ cM h r k0 G R) (f : Int → Int64) (x1 : Int32) : ∃ PH PF : Option Value → va_W → Prop, zN l yL_kindsOf wsL_kindsOf { frames := 10, cells := 17, slots := 102, locals := 178 } D (zTy cI cZ cM cL) [.ref h, .int x1, .ref o] ([(o, lr cL 1 f)] ++ G) PH 17 102 ∧ zN l yX5_kindsOf wsX5_kindsOf { frames := 2, cells := 0, slots := 0, locals := 47 } D (zTy cI cZ cM cL) [.ref r, .int x1] R PF 0 0 ∧ zEnd cI cZ cM cL h r o false PH PF := by
  obtain ⟨nd, kn, gm, us, fo, fh, mi, fw, wt, n, ND, KN, US, μ, x, t, s0, FH, L, d, A, B, e1, e2, e3, e4, e5, e6, e7, e8, e9, e10, e11, e12, e13, e14, sz, mo, AU, LE, SN, KK, AT, LF, PL, HE, TU, MA, CU, rfl, rfl, hx⟩ := hrel
  obtain ⟨z1, hz1, rfl⟩ : ∃ z : Int, iR z ∧ x1 = iI z := ⟨_, iI_rng x1, iI_of x1⟩
  refine ⟨_, _, h_kindsOf l D cI cZ cM cL h o _ _ rfl f (cM1 n z1) (by unfold cM1; repeat' (first | omega | split)) (by unfold cM1; repeat' (first | omega | split)) (iI z1) _ (fun r9 w9 hp => ?_) (k_kindsOf l hl D cI cZ cM cL h nd kn gm us fo fh mi fw wt n ND KN US μ x t s0 FH L d A B hx.1 z1 hz1), k_rkindsOf l D cI cZ cM cL r e1 e2 e3 e4 e5 e6 e7 e8 e9 e10 e11 e12 e13 e14 n L d sz mo k0 ND US KN AU LE SN KK AT LF PL HE TU MA CU hx.rO z1 hz1, fun r1 w1 hp1 => ?_⟩
  · obtain ⟨-, hp2, -⟩ := hp; exact ⟨_, hp2⟩
  · rcases hp1 with ⟨x9, G1, rfl, rfl, hpG⟩ | ⟨rfl, hc, rfl⟩
    · obtain ⟨hc, hv9, rfl⟩ := hpG
      have hv9 := Value.int.inj (Option.some.inj hv9)
      refine ⟨0, _, _, rfl, rfl, fun r2 w2 hp2 => ?_⟩
      rcases hp2 with ⟨hc2, rfl, sz1, mo1, PL1, HE1, TU1, MA1, CU1, rfl⟩ | ⟨hc2, -, -⟩
      · refine ⟨_, rfl, ⟨by omega, by omega⟩, fun _ => by rw [zup_self, hv9, (hx.kc _).1], nd, kn, gm, us, fo, fh, mi, fw, wt, n, ND, KN, US, μ, x, t, s0, FH, L, d, A, B, e1, e2, e3, e4, e5, e6, e7, e8, e9, e10, e11, e12, e13, e14, sz1, mo1, AU, LE, SN, KK, AT, LF, PL1, HE1, TU1, MA1, CU1, rfl, rfl, hx⟩
      · exact absurd (hc) hc2
    · refine ⟨cM1 n z1, f, _, rfl, rfl, fun r2 w2 hp2 => ?_⟩
      rcases hp2 with ⟨hc2, -, -⟩ | ⟨hc2, rfl, sz1, mo1, PL1, HE1, TU1, MA1, CU1, rfl⟩
      · exact absurd (hc2) hc
      · exact ⟨_, rfl, ⟨by unfold cM1; repeat' (first | omega | split), by unfold cM1; repeat' (first | omega | split)⟩, fun e => absurd e hc, nd, kn, gm, us, fo, fh, mi, fw, wt, n, ND, KN, US, μ, x, t, s0, FH, L, d, A, B, e1, e2, e3, e4, e5, e6, e7, e8, e9, e10, e11, e12, e13, e14, sz1, mo1, AU, LE, SN, KK, AT, LF, PL1, HE1, TU1, MA1, CU1, rfl, rfl, hx⟩
set_option maxHeartbeats 1000000 in
set_option maxRecDepth 100000 in
theorem pair_placeOf (l : Launch) (hl : l.stackTraces = false) (D : va_G) (cI cZ cM cL : ClassId) (h r o : Nat) (k0 : Int) (G R : va_W) (hrel : REL cI cZ cM h r k0 G R) (f : Int → Int64) (x1 : Int32) (x2 : Int32) : ∃ PH PF : Option Value → va_W → Prop, zN l yL_placeOf wsL_placeOf { frames := 9, cells := 3, slots := 18, locals := 156 } D (zTy cI cZ cM cL) [.ref h, .int x1, .int x2, .ref o] ([(o, lr cL 1 f)] ++ G) PH 3 18 ∧ zN l yX5_placeOf wsX5_placeOf { frames := 3, cells := 0, slots := 0, locals := 74 } D (zTy cI cZ cM cL) [.ref r, .int x1, .int x2] R PF 0 0 ∧ zEnd cI cZ cM cL h r o false PH PF := by
  obtain ⟨nd, kn, gm, us, fo, fh, mi, fw, wt, n, ND, KN, US, μ, x, t, s0, FH, L, d, A, B, e1, e2, e3, e4, e5, e6, e7, e8, e9, e10, e11, e12, e13, e14, sz, mo, AU, LE, SN, KK, AT, LF, PL, HE, TU, MA, CU, rfl, rfl, hx⟩ := hrel
  obtain ⟨z1, hz1, rfl⟩ : ∃ z : Int, iR z ∧ x1 = iI z := ⟨_, iI_rng x1, iI_of x1⟩
  obtain ⟨z2, hz2, rfl⟩ : ∃ z : Int, iR z ∧ x2 = iI z := ⟨_, iI_rng x2, iI_of x2⟩
  refine ⟨_, _, h_placeOf l D cI cZ cM cL h o _ _ rfl f (cPO n (μ z1.toNat) z1 z2) (by unfold cPO; repeat' (first | omega | split)) (by unfold cPO; repeat' (first | omega | split)) (iI z1) (iI z2) _ (fun r9 w9 hp => ?_) (k_placeOf l hl D cI cZ cM cL h nd kn gm us fo fh mi fw wt n ND KN US μ x t s0 FH L d A B hx.1 z1 hz1 z2 hz2), k_rplaceOf l D cI cZ cM cL r e1 e2 e3 e4 e5 e6 e7 e8 e9 e10 e11 e12 e13 e14 n L d sz mo k0 ND US KN AU LE SN KK AT LF PL HE TU MA CU hx.rO z1 z2 hz1 hz2, fun r1 w1 hp1 => ?_⟩
  · obtain ⟨-, hp2, -⟩ := hp; exact ⟨_, hp2⟩
  · rcases hp1 with ⟨x9, G1, rfl, rfl, hpG⟩ | ⟨rfl, hc, rfl⟩
    · obtain ⟨hc, hv9, ⟨x1, t1, s1, rfl⟩⟩ := hpG
      have hv9 := Value.int.inj (Option.some.inj hv9)
      refine ⟨0, _, _, rfl, rfl, fun r2 w2 hp2 => ?_⟩
      rcases hp2 with ⟨hc2, rfl, sz1, mo1, PL1, HE1, TU1, MA1, CU1, rfl⟩ | ⟨hc2, -, -⟩
      · refine ⟨_, rfl, ⟨by omega, by omega⟩, fun _ => by rw [zup_self, hv9, (hx.at (cPO_0 hc).1 (cPO_0 hc).2).1.P], nd, kn, gm, us, fo, fh, mi, fw, wt, n, ND, KN, US, μ, x1, t1, s1, FH, L, d, A, B, e1, e2, e3, e4, e5, e6, e7, e8, e9, e10, e11, e12, e13, e14, sz1, mo1, AU, LE, SN, KK, AT, LF, PL1, HE1, TU1, MA1, CU1, rfl, rfl, hx⟩
      · exact absurd ((cPO_e hx z1 z2).trans hc) hc2
    · refine ⟨cPO n (μ z1.toNat) z1 z2, f, _, rfl, rfl, fun r2 w2 hp2 => ?_⟩
      rcases hp2 with ⟨hc2, -, -⟩ | ⟨hc2, rfl, sz1, mo1, PL1, HE1, TU1, MA1, CU1, rfl⟩
      · exact absurd ((cPO_e hx z1 z2).symm.trans hc2) hc
      · exact ⟨_, rfl, ⟨by unfold cPO; repeat' (first | omega | split), by unfold cPO; repeat' (first | omega | split)⟩, fun e => absurd e hc, nd, kn, gm, us, fo, fh, mi, fw, wt, n, ND, KN, US, μ, x, t, s0, FH, L, d, A, B, e1, e2, e3, e4, e5, e6, e7, e8, e9, e10, e11, e12, e13, e14, sz1, mo1, AU, LE, SN, KK, AT, LF, PL1, HE1, TU1, MA1, CU1, rfl, by rw [cPO_e hx z1 z2], hx⟩
set_option maxHeartbeats 1000000 in
set_option maxRecDepth 100000 in
theorem pair_isTurned (l : Launch) (hl : l.stackTraces = false) (D : va_G) (cI cZ cM cL : ClassId) (h r o : Nat) (k0 : Int) (G R : va_W) (hrel : REL cI cZ cM h r k0 G R) (f : Int → Int64) (x1 : Int32) (x2 : Int32) : ∃ PH PF : Option Value → va_W → Prop, zN l yL_isTurned wsL_isTurned { frames := 9, cells := 3, slots := 18, locals := 156 } D (zTy cI cZ cM cL) [.ref h, .int x1, .int x2, .ref o] ([(o, lr cL 1 f)] ++ G) PH 3 18 ∧ zN l yX5_isTurned wsX5_isTurned { frames := 3, cells := 0, slots := 0, locals := 74 } D (zTy cI cZ cM cL) [.ref r, .int x1, .int x2] R PF 0 0 ∧ zEnd cI cZ cM cL h r o true PH PF := by
  obtain ⟨nd, kn, gm, us, fo, fh, mi, fw, wt, n, ND, KN, US, μ, x, t, s0, FH, L, d, A, B, e1, e2, e3, e4, e5, e6, e7, e8, e9, e10, e11, e12, e13, e14, sz, mo, AU, LE, SN, KK, AT, LF, PL, HE, TU, MA, CU, rfl, rfl, hx⟩ := hrel
  obtain ⟨z1, hz1, rfl⟩ : ∃ z : Int, iR z ∧ x1 = iI z := ⟨_, iI_rng x1, iI_of x1⟩
  obtain ⟨z2, hz2, rfl⟩ : ∃ z : Int, iR z ∧ x2 = iI z := ⟨_, iI_rng x2, iI_of x2⟩
  refine ⟨_, _, h_isTurned l D cI cZ cM cL h o _ _ rfl f (cPO n (μ z1.toNat) z1 z2) (by unfold cPO; repeat' (first | omega | split)) (by unfold cPO; repeat' (first | omega | split)) (iI z1) (iI z2) _ (fun r9 w9 hp => ?_) (k_isTurned l hl D cI cZ cM cL h nd kn gm us fo fh mi fw wt n ND KN US μ x t s0 FH L d A B hx.1 z1 hz1 z2 hz2), k_risTurned l D cI cZ cM cL r e1 e2 e3 e4 e5 e6 e7 e8 e9 e10 e11 e12 e13 e14 n L d sz mo k0 ND US KN AU LE SN KK AT LF PL HE TU MA CU hx.rO z1 z2 hz1 hz2, fun r1 w1 hp1 => ?_⟩
  · obtain ⟨-, hp2, -⟩ := hp; exact ⟨_, hp2⟩
  · rcases hp1 with ⟨x9, G1, rfl, rfl, hpG⟩ | ⟨rfl, hc, rfl⟩
    · obtain ⟨hc, hv9, ⟨x1, t1, s1, rfl⟩⟩ := hpG
      have hv9 := Value.int.inj (Option.some.inj hv9)
      refine ⟨0, _, _, rfl, rfl, fun r2 w2 hp2 => ?_⟩
      rcases hp2 with ⟨hc2, rfl, sz1, mo1, PL1, HE1, TU1, MA1, CU1, rfl⟩ | ⟨hc2, -, -⟩
      · refine ⟨_, rfl, ⟨by omega, by omega⟩, fun _ => by rw [zup_self, hv9, (hx.at (cPO_0 hc).1 (cPO_0 hc).2).1.T], nd, kn, gm, us, fo, fh, mi, fw, wt, n, ND, KN, US, μ, x1, t1, s1, FH, L, d, A, B, e1, e2, e3, e4, e5, e6, e7, e8, e9, e10, e11, e12, e13, e14, sz1, mo1, AU, LE, SN, KK, AT, LF, PL1, HE1, TU1, MA1, CU1, rfl, rfl, hx⟩
      · exact absurd ((cPO_e hx z1 z2).trans hc) hc2
    · refine ⟨cPO n (μ z1.toNat) z1 z2, f, _, rfl, rfl, fun r2 w2 hp2 => ?_⟩
      rcases hp2 with ⟨hc2, -, -⟩ | ⟨hc2, rfl, sz1, mo1, PL1, HE1, TU1, MA1, CU1, rfl⟩
      · exact absurd ((cPO_e hx z1 z2).symm.trans hc2) hc
      · exact ⟨_, rfl, ⟨by unfold cPO; repeat' (first | omega | split), by unfold cPO; repeat' (first | omega | split)⟩, fun e => absurd e hc, nd, kn, gm, us, fo, fh, mi, fw, wt, n, ND, KN, US, μ, x, t, s0, FH, L, d, A, B, e1, e2, e3, e4, e5, e6, e7, e8, e9, e10, e11, e12, e13, e14, sz1, mo1, AU, LE, SN, KK, AT, LF, PL1, HE1, TU1, MA1, CU1, rfl, by rw [cPO_e hx z1 z2], hx⟩
set_option maxHeartbeats 1000000 in
set_option maxRecDepth 100000 in
theorem pair_bears (l : Launch) (hl : l.stackTraces = false) (D : va_G) (cI cZ cM cL : ClassId) (h r o : Nat) (k0 : Int) (G R : va_W) (hrel : REL cI cZ cM h r k0 G R) (f : Int → Int64) (x1 : Int32) (x2 : Int32) : ∃ PH PF : Option Value → va_W → Prop, zN l yL_bears wsL_bears { frames := 9, cells := 3, slots := 18, locals := 157 } D (zTy cI cZ cM cL) [.ref h, .int x1, .int x2, .ref o] ([(o, lr cL 1 f)] ++ G) PH 3 18 ∧ zN l yX5_bears wsX5_bears { frames := 3, cells := 0, slots := 0, locals := 74 } D (zTy cI cZ cM cL) [.ref r, .int x1, .int x2] R PF 0 0 ∧ zEnd cI cZ cM cL h r o true PH PF := by
  obtain ⟨nd, kn, gm, us, fo, fh, mi, fw, wt, n, ND, KN, US, μ, x, t, s0, FH, L, d, A, B, e1, e2, e3, e4, e5, e6, e7, e8, e9, e10, e11, e12, e13, e14, sz, mo, AU, LE, SN, KK, AT, LF, PL, HE, TU, MA, CU, rfl, rfl, hx⟩ := hrel
  obtain ⟨z1, hz1, rfl⟩ : ∃ z : Int, iR z ∧ x1 = iI z := ⟨_, iI_rng x1, iI_of x1⟩
  obtain ⟨z2, hz2, rfl⟩ : ∃ z : Int, iR z ∧ x2 = iI z := ⟨_, iI_rng x2, iI_of x2⟩
  refine ⟨_, _, h_bears l D cI cZ cM cL h o _ _ rfl f (cBE n z1 z2) (by unfold cBE; repeat' (first | omega | split)) (iI z1) (iI z2) _ (fun r9 w9 hp => ?_) (k_bears l hl D cI cZ cM cL h nd kn gm us fo fh mi fw wt n ND KN US μ x t s0 FH L d A B hx.1 z1 hz1 z2 hz2), k_rbears l D cI cZ cM cL r e1 e2 e3 e4 e5 e6 e7 e8 e9 e10 e11 e12 e13 e14 n L d sz mo k0 ND US KN AU LE SN KK AT LF PL HE TU MA CU hx.rO z1 z2 hz1 hz2, fun r1 w1 hp1 => ?_⟩
  · obtain ⟨-, hp2, -⟩ := hp; exact ⟨_, hp2⟩
  · rcases hp1 with ⟨x9, G1, rfl, rfl, hpG⟩ | ⟨rfl, hc, rfl⟩
    · obtain ⟨hc, hv9, rfl⟩ := hpG
      have hv9 := Value.int.inj (Option.some.inj hv9)
      refine ⟨0, _, _, rfl, rfl, fun r2 w2 hp2 => ?_⟩
      rcases hp2 with ⟨hc2, rfl, sz1, mo1, PL1, HE1, TU1, MA1, CU1, rfl⟩ | ⟨hc2, -, -⟩
      · refine ⟨_, rfl, ⟨by omega, by omega⟩, fun _ => by rw [zup_self, hv9, bears_e hx (cBE_0 hc).1 (cBE_0 hc).2], nd, kn, gm, us, fo, fh, mi, fw, wt, n, ND, KN, US, μ, x, t, s0, FH, L, d, A, B, e1, e2, e3, e4, e5, e6, e7, e8, e9, e10, e11, e12, e13, e14, sz1, mo1, AU, LE, SN, KK, AT, LF, PL1, HE1, TU1, MA1, CU1, rfl, rfl, hx⟩
      · exact absurd (hc) hc2
    · refine ⟨cBE n z1 z2, f, _, rfl, rfl, fun r2 w2 hp2 => ?_⟩
      rcases hp2 with ⟨hc2, -, -⟩ | ⟨hc2, rfl, sz1, mo1, PL1, HE1, TU1, MA1, CU1, rfl⟩
      · exact absurd (hc2) hc
      · exact ⟨_, rfl, ⟨by unfold cBE; repeat' (first | omega | split), by unfold cBE; repeat' (first | omega | split)⟩, fun e => absurd e hc, nd, kn, gm, us, fo, fh, mi, fw, wt, n, ND, KN, US, μ, x, t, s0, FH, L, d, A, B, e1, e2, e3, e4, e5, e6, e7, e8, e9, e10, e11, e12, e13, e14, sz1, mo1, AU, LE, SN, KK, AT, LF, PL1, HE1, TU1, MA1, CU1, rfl, rfl, hx⟩
set_option maxHeartbeats 1000000 in
set_option maxRecDepth 100000 in
theorem pair_mayFold (l : Launch) (hl : l.stackTraces = false) (D : va_G) (cI cZ cM cL : ClassId) (h r o : Nat) (k0 : Int) (G R : va_W) (hrel : REL cI cZ cM h r k0 G R) (f : Int → Int64) (x1 : Int32) (x2 : Int32) : ∃ PH PF : Option Value → va_W → Prop, zN l yL_mayFold wsL_mayFold { frames := 10, cells := 18, slots := 108, locals := 179 } D (zTy cI cZ cM cL) [.ref h, .int x1, .int x2, .ref o] ([(o, lr cL 1 f)] ++ G) PH 18 108 ∧ zN l yX5_mayFold wsX5_mayFold { frames := 2, cells := 0, slots := 0, locals := 47 } D (zTy cI cZ cM cL) [.ref r, .int x1, .int x2] R PF 0 0 ∧ zEnd cI cZ cM cL h r o true PH PF := by
  obtain ⟨nd, kn, gm, us, fo, fh, mi, fw, wt, n, ND, KN, US, μ, x, t, s0, FH, L, d, A, B, e1, e2, e3, e4, e5, e6, e7, e8, e9, e10, e11, e12, e13, e14, sz, mo, AU, LE, SN, KK, AT, LF, PL, HE, TU, MA, CU, rfl, rfl, hx⟩ := hrel
  obtain ⟨z1, hz1, rfl⟩ : ∃ z : Int, iR z ∧ x1 = iI z := ⟨_, iI_rng x1, iI_of x1⟩
  obtain ⟨z2, hz2, rfl⟩ : ∃ z : Int, iR z ∧ x2 = iI z := ⟨_, iI_rng x2, iI_of x2⟩
  refine ⟨_, _, h_mayFold l D cI cZ cM cL h o _ _ rfl f (cEX n z1 z2) (by unfold cEX; repeat' (first | omega | split)) (by unfold cEX; repeat' (first | omega | split)) (iI z1) (iI z2) _ (fun r9 w9 hp => ?_) (k_mayFold l hl D cI cZ cM cL h nd kn gm us fo fh mi fw wt n ND KN US μ x t s0 FH L d A B hx.1 z1 z2 hz1 hz2), k_rmayFold l D cI cZ cM cL r e1 e2 e3 e4 e5 e6 e7 e8 e9 e10 e11 e12 e13 e14 n L d sz mo k0 ND US KN AU LE SN KK AT LF PL HE TU MA CU hx.rO z1 z2 hz1 hz2, fun r1 w1 hp1 => ?_⟩
  · obtain ⟨-, hp2, -⟩ := hp; exact ⟨_, hp2⟩
  · rcases hp1 with ⟨x9, G1, rfl, rfl, hpG⟩ | ⟨rfl, hc, rfl⟩
    · obtain ⟨hc, hv9, rfl⟩ := hpG
      have hv9 := Value.int.inj (Option.some.inj hv9)
      refine ⟨0, _, _, rfl, rfl, fun r2 w2 hp2 => ?_⟩
      rcases hp2 with ⟨hc2, rfl, sz1, mo1, PL1, HE1, TU1, MA1, CU1, rfl⟩ | ⟨hc2, -, -⟩
      · refine ⟨_, rfl, ⟨by omega, by omega⟩, fun _ => by rw [zup_self, hv9, (hx.kc _).1], nd, kn, gm, us, fo, fh, mi, fw, wt, n, ND, KN, US, μ, x, t, s0, FH, L, d, A, B, e1, e2, e3, e4, e5, e6, e7, e8, e9, e10, e11, e12, e13, e14, sz1, mo1, AU, LE, SN, KK, AT, LF, PL1, HE1, TU1, MA1, CU1, rfl, rfl, hx⟩
      · exact absurd (hc) hc2
    · refine ⟨cEX n z1 z2, f, _, rfl, rfl, fun r2 w2 hp2 => ?_⟩
      rcases hp2 with ⟨hc2, -, -⟩ | ⟨hc2, rfl, sz1, mo1, PL1, HE1, TU1, MA1, CU1, rfl⟩
      · exact absurd (hc2) hc
      · exact ⟨_, rfl, ⟨by unfold cEX; repeat' (first | omega | split), by unfold cEX; repeat' (first | omega | split)⟩, fun e => absurd e hc, nd, kn, gm, us, fo, fh, mi, fw, wt, n, ND, KN, US, μ, x, t, s0, FH, L, d, A, B, e1, e2, e3, e4, e5, e6, e7, e8, e9, e10, e11, e12, e13, e14, sz1, mo1, AU, LE, SN, KK, AT, LF, PL1, HE1, TU1, MA1, CU1, rfl, rfl, hx⟩
set_option maxHeartbeats 1000000 in
set_option maxRecDepth 100000 in
theorem pair_lessons (l : Launch) (hl : l.stackTraces = false) (D : va_G) (cI cZ cM cL : ClassId) (h r o : Nat) (k0 : Int) (G R : va_W) (hrel : REL cI cZ cM h r k0 G R) (f : Int → Int64) (x1 : Int32) (x2 : Int32) : ∃ PH PF : Option Value → va_W → Prop, zN l yL_lessons wsL_lessons { frames := 10, cells := 18, slots := 108, locals := 180 } D (zTy cI cZ cM cL) [.ref h, .int x1, .int x2, .ref o] ([(o, lr cL 1 f)] ++ G) PH 18 108 ∧ zN l yX5_lessons wsX5_lessons { frames := 2, cells := 0, slots := 0, locals := 47 } D (zTy cI cZ cM cL) [.ref r, .int x1, .int x2] R PF 0 0 ∧ zEnd cI cZ cM cL h r o false PH PF := by
  obtain ⟨nd, kn, gm, us, fo, fh, mi, fw, wt, n, ND, KN, US, μ, x, t, s0, FH, L, d, A, B, e1, e2, e3, e4, e5, e6, e7, e8, e9, e10, e11, e12, e13, e14, sz, mo, AU, LE, SN, KK, AT, LF, PL, HE, TU, MA, CU, rfl, rfl, hx⟩ := hrel
  obtain ⟨z1, hz1, rfl⟩ : ∃ z : Int, iR z ∧ x1 = iI z := ⟨_, iI_rng x1, iI_of x1⟩
  obtain ⟨z2, hz2, rfl⟩ : ∃ z : Int, iR z ∧ x2 = iI z := ⟨_, iI_rng x2, iI_of x2⟩
  refine ⟨_, _, h_lessons l D cI cZ cM cL h o _ _ rfl f (cEX n z1 z2) (by unfold cEX; repeat' (first | omega | split)) (by unfold cEX; repeat' (first | omega | split)) (iI z1) (iI z2) _ (fun r9 w9 hp => ?_) (k_lessons l hl D cI cZ cM cL h nd kn gm us fo fh mi fw wt n ND KN US μ x t s0 FH L d A B hx.1 z1 z2 hz1 hz2), k_rlessons l D cI cZ cM cL r e1 e2 e3 e4 e5 e6 e7 e8 e9 e10 e11 e12 e13 e14 n L d sz mo k0 ND US KN AU LE SN KK AT LF PL HE TU MA CU hx.rO z1 z2 hz1 hz2, fun r1 w1 hp1 => ?_⟩
  · obtain ⟨-, hp2, -⟩ := hp; exact ⟨_, hp2⟩
  · rcases hp1 with ⟨x9, G1, rfl, rfl, hpG⟩ | ⟨rfl, hc, rfl⟩
    · obtain ⟨hc, hv9, rfl⟩ := hpG
      have hv9 := Value.int.inj (Option.some.inj hv9)
      refine ⟨0, _, _, rfl, rfl, fun r2 w2 hp2 => ?_⟩
      rcases hp2 with ⟨hc2, rfl, sz1, mo1, PL1, HE1, TU1, MA1, CU1, rfl⟩ | ⟨hc2, -, -⟩
      · refine ⟨_, rfl, ⟨by omega, by omega⟩, fun _ => by rw [zup_self, hv9, (hx.kc _).1, ls_eq hx.2.1 (hx.kc _).2], nd, kn, gm, us, fo, fh, mi, fw, wt, n, ND, KN, US, μ, x, t, s0, FH, L, d, A, B, e1, e2, e3, e4, e5, e6, e7, e8, e9, e10, e11, e12, e13, e14, sz1, mo1, AU, LE, SN, KK, AT, LF, PL1, HE1, TU1, MA1, CU1, rfl, rfl, hx⟩
      · exact absurd (hc) hc2
    · refine ⟨cEX n z1 z2, f, _, rfl, rfl, fun r2 w2 hp2 => ?_⟩
      rcases hp2 with ⟨hc2, -, -⟩ | ⟨hc2, rfl, sz1, mo1, PL1, HE1, TU1, MA1, CU1, rfl⟩
      · exact absurd (hc2) hc
      · exact ⟨_, rfl, ⟨by unfold cEX; repeat' (first | omega | split), by unfold cEX; repeat' (first | omega | split)⟩, fun e => absurd e hc, nd, kn, gm, us, fo, fh, mi, fw, wt, n, ND, KN, US, μ, x, t, s0, FH, L, d, A, B, e1, e2, e3, e4, e5, e6, e7, e8, e9, e10, e11, e12, e13, e14, sz1, mo1, AU, LE, SN, KK, AT, LF, PL1, HE1, TU1, MA1, CU1, rfl, rfl, hx⟩
set_option maxHeartbeats 1000000 in
set_option maxRecDepth 100000 in
theorem pair_credit (l : Launch) (hl : l.stackTraces = false) (D : va_G) (cI cZ cM cL : ClassId) (h r o : Nat) (k0 : Int) (G R : va_W) (hrel : REL cI cZ cM h r k0 G R) (f : Int → Int64) (x1 : Int32) : ∃ PH PF : Option Value → va_W → Prop, zN l yL_credit wsL_credit { frames := 10, cells := 17, slots := 102, locals := 180 } D (zTy cI cZ cM cL) [.ref h, .int x1, .ref o] ([(o, lr cL 1 f)] ++ G) PH 17 102 ∧ zN l yX5_credit wsX5_credit { frames := 1, cells := 0, slots := 0, locals := 24 } D (zTy cI cZ cM cL) [.ref r, .int x1] R PF 0 0 ∧ zEnd cI cZ cM cL h r o false PH PF := by
  obtain ⟨nd, kn, gm, us, fo, fh, mi, fw, wt, n, ND, KN, US, μ, x, t, s0, FH, L, d, A, B, e1, e2, e3, e4, e5, e6, e7, e8, e9, e10, e11, e12, e13, e14, sz, mo, AU, LE, SN, KK, AT, LF, PL, HE, TU, MA, CU, rfl, rfl, hx⟩ := hrel
  obtain ⟨z1, hz1, rfl⟩ : ∃ z : Int, iR z ∧ x1 = iI z := ⟨_, iI_rng x1, iI_of x1⟩
  refine ⟨_, _, h_credit l D cI cZ cM cL h o _ _ rfl f (cCR z1) (by unfold cCR; repeat' (first | omega | split)) (by unfold cCR; repeat' (first | omega | split)) (iI z1) _ (fun r9 w9 hp => ?_) (k_credit l hl D cI cZ cM cL h nd kn gm us fo fh mi fw wt n ND KN US μ x t s0 FH L d A B hx.1 z1 hz1), k_rcredit l D cI cZ cM cL r e1 e2 e3 e4 e5 e6 e7 e8 e9 e10 e11 e12 e13 e14 n L d sz mo k0 ND US KN AU LE SN KK AT LF PL HE TU MA CU hx.rO z1 hz1 (au_r hx), fun r1 w1 hp1 => ?_⟩
  · obtain ⟨-, hp2, -⟩ := hp; exact ⟨_, hp2⟩
  · rcases hp1 with ⟨x9, G1, rfl, rfl, hpG⟩ | ⟨rfl, hc, rfl⟩
    · obtain ⟨hc, hv9, rfl⟩ := hpG
      have hv9 := Value.int.inj (Option.some.inj hv9)
      refine ⟨0, _, _, rfl, rfl, fun r2 w2 hp2 => ?_⟩
      rcases hp2 with ⟨hc2, rfl, sz1, mo1, PL1, HE1, TU1, MA1, CU1, rfl⟩ | ⟨hc2, -, -⟩
      · refine ⟨_, rfl, ⟨by omega, by omega⟩, fun _ => by rw [zup_self, hv9, credit_e hx z1], nd, kn, gm, us, fo, fh, mi, fw, wt, n, ND, KN, US, μ, x, t, s0, FH, L, d, A, B, e1, e2, e3, e4, e5, e6, e7, e8, e9, e10, e11, e12, e13, e14, sz1, mo1, AU, LE, SN, KK, AT, LF, PL1, HE1, TU1, MA1, CU1, rfl, rfl, hx⟩
      · exact absurd (hc) hc2
    · refine ⟨cCR z1, f, _, rfl, rfl, fun r2 w2 hp2 => ?_⟩
      rcases hp2 with ⟨hc2, -, -⟩ | ⟨hc2, rfl, sz1, mo1, PL1, HE1, TU1, MA1, CU1, rfl⟩
      · exact absurd (hc2) hc
      · exact ⟨_, rfl, ⟨by unfold cCR; repeat' (first | omega | split), by unfold cCR; repeat' (first | omega | split)⟩, fun e => absurd e hc, nd, kn, gm, us, fo, fh, mi, fw, wt, n, ND, KN, US, μ, x, t, s0, FH, L, d, A, B, e1, e2, e3, e4, e5, e6, e7, e8, e9, e10, e11, e12, e13, e14, sz1, mo1, AU, LE, SN, KK, AT, LF, PL1, HE1, TU1, MA1, CU1, rfl, rfl, hx⟩
set_option maxHeartbeats 1000000 in
set_option maxRecDepth 100000 in
theorem pair_cellAt (l : Launch) (hl : l.stackTraces = false) (D : va_G) (cI cZ cM cL : ClassId) (h r o : Nat) (k0 : Int) (G R : va_W) (hrel : REL cI cZ cM h r k0 G R) (f : Int → Int64) (x1 : Int32) (x2 : Int32) (x3 : Int32) : ∃ PH PF : Option Value → va_W → Prop, zN l yL_cellAt wsL_cellAt { frames := 9, cells := 3, slots := 18, locals := 157 } D (zTy cI cZ cM cL) [.ref h, .int x1, .int x2, .int x3, .ref o] ([(o, lr cL 1 f)] ++ G) PH 3 18 ∧ zN l yX5_cellAt wsX5_cellAt { frames := 3, cells := 0, slots := 0, locals := 74 } D (zTy cI cZ cM cL) [.ref r, .int x1, .int x2, .int x3] R PF 0 0 ∧ zEnd cI cZ cM cL h r o false PH PF := by
  obtain ⟨nd, kn, gm, us, fo, fh, mi, fw, wt, n, ND, KN, US, μ, x, t, s0, FH, L, d, A, B, e1, e2, e3, e4, e5, e6, e7, e8, e9, e10, e11, e12, e13, e14, sz, mo, AU, LE, SN, KK, AT, LF, PL, HE, TU, MA, CU, rfl, rfl, hx⟩ := hrel
  obtain ⟨z1, hz1, rfl⟩ : ∃ z : Int, iR z ∧ x1 = iI z := ⟨_, iI_rng x1, iI_of x1⟩
  obtain ⟨z2, hz2, rfl⟩ : ∃ z : Int, iR z ∧ x2 = iI z := ⟨_, iI_rng x2, iI_of x2⟩
  obtain ⟨z3, hz3, rfl⟩ : ∃ z : Int, iR z ∧ x3 = iI z := ⟨_, iI_rng x3, iI_of x3⟩
  have hH9 : 0 ≤ z1 → z1 < n → ∀ q : Int, 0 ≤ q → q < LE z1 → iR (mgH (rv AU LE SN KK AT LF z1) q) := by
    intro a b q c e
    obtain ⟨q1, q2⟩ := hx.at a b
    rw [← q1.H]
    exact ca_r q2 ⟨c, by rw [q1.2.1]; exact e⟩
  refine ⟨_, _, h_cellAt l D cI cZ cM cL h o _ _ rfl f (cCA n (μ z1.toNat) z1 z2 z3) (by unfold cCA; repeat' (first | omega | split)) (by unfold cCA; repeat' (first | omega | split)) (iI z1) (iI z2) (iI z3) _ (fun r9 w9 hp => ?_) (k_cellAt l hl D cI cZ cM cL h nd kn gm us fo fh mi fw wt n ND KN US μ x t s0 FH L d A B hx.1 z1 hz1 z2 z3 hz2 hz3), k_rcellAt l D cI cZ cM cL r e1 e2 e3 e4 e5 e6 e7 e8 e9 e10 e11 e12 e13 e14 n L d sz mo k0 ND US KN AU LE SN KK AT LF PL HE TU MA CU hx.rO z1 z2 z3 hz1 hz2 hz3 hH9, fun r1 w1 hp1 => ?_⟩
  · obtain ⟨-, ⟨q9, hp2, -⟩, -⟩ := hp; exact ⟨_, hp2⟩
  · rcases hp1 with ⟨x9, G1, rfl, rfl, hpG⟩ | ⟨rfl, hc, rfl⟩
    · obtain ⟨hc, ⟨q9, hv9, hq1, hq2, hq3⟩, rfl⟩ := hpG
      have hv9 := Value.int.inj (Option.some.inj hv9)
      refine ⟨0, _, _, rfl, rfl, fun r2 w2 hp2 => ?_⟩
      rcases hp2 with ⟨hi, v9, rfl, hv1, hv2, hv3, sz1, mo1, PL1, HE1, TU1, MA1, CU1, rfl⟩ | ⟨hno, -, -⟩
      · obtain ⟨q1, q2⟩ := hx.at hi.1 hi.2
        have hvl : 0 ≤ v9 ∧ v9 < mle (μ z1.toNat) := by rw [q1.2.1]; exact hv1
        have hqv : q9 = v9 := ca_uniq q2 hq1 hvl (by rw [hq2, q1.P, hv2]) (by rw [hq3, q1.H, hv3])
        exact ⟨_, rfl, ⟨by omega, by omega⟩, fun _ => by rw [zup_self, hv9, hqv], nd, kn, gm, us, fo, fh, mi, fw, wt, n, ND, KN, US, μ, x, t, s0, FH, L, d, A, B, e1, e2, e3, e4, e5, e6, e7, e8, e9, e10, e11, e12, e13, e14, sz1, mo1, AU, LE, SN, KK, AT, LF, PL1, HE1, TU1, MA1, CU1, rfl, rfl, hx⟩
      · exfalso
        have hi : 0 ≤ z1 ∧ z1 < n := by
          refine Decidable.byContradiction fun q => ?_
          unfold cCA at hc
          rw [if_pos q] at hc
          omega
        obtain ⟨q1, q2⟩ := hx.at hi.1 hi.2
        rcases hno with hno | hno
        · exact hno hi
        · exact hno q9 hq1.1 (by have e := hq1.2; rw [q1.2.1] at e; exact e) ⟨by rw [← q1.P, hq2], by rw [← q1.H, hq3]⟩
    · refine ⟨cCA n (μ z1.toNat) z1 z2 z3, f, _, rfl, rfl, fun r2 w2 hp2 => ?_⟩
      have hc1 : cCA n (μ z1.toNat) z1 z2 z3 = 1 := by
        have h9 : cCA n (μ z1.toNat) z1 z2 z3 = 0 ∨ cCA n (μ z1.toNat) z1 z2 z3 = 1 := by unfold cCA; repeat' (first | omega | split)
        exact h9.resolve_left hc
      rcases hp2 with ⟨hi, v9, rfl, hv1, hv2, hv3, -⟩ | ⟨hno, rfl, sz1, mo1, PL1, HE1, TU1, MA1, CU1, rfl⟩
      · obtain ⟨q1, q2⟩ := hx.at hi.1 hi.2
        exact absurd (ca_ok q2 hi (v := v9) (by rw [q1.2.1]; exact hv1) (by rw [q1.P, hv2]) (by rw [q1.H, hv3])) hc
      · exact ⟨_, rfl, ⟨by omega, by omega⟩, fun e => absurd e hc, nd, kn, gm, us, fo, fh, mi, fw, wt, n, ND, KN, US, μ, x, t, s0, FH, L, d, A, B, e1, e2, e3, e4, e5, e6, e7, e8, e9, e10, e11, e12, e13, e14, sz1, mo1, AU, LE, SN, KK, AT, LF, PL1, HE1, TU1, MA1, CU1, rfl, by rw [hc1], hx⟩
