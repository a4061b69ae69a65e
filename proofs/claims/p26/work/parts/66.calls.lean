/-! P26: the object's calls, over a world that GI tells. -/
def GI (cI cZ cM : ClassId) (h n : Nat) (ND KN US : Int → Int32) (μ : Nat → zM) (L : Int) (d : Int32) (w : va_W) : Prop := ∃ (nd kn gm us fo fh mi fw wt : Nat) (x t s0 : Int) (FH A B : Int → Int), w = gdW cI cZ cM h nd kn gm us fo fh mi fw wt n ND KN US μ x t s0 FH L d A B ∧ gdO n μ L
theorem GI.g0 {cI cZ cM : ClassId} {h n : Nat} {ND KN US : Int → Int32} {μ : Nat → zM} {L : Int} {d : Int32} {w : va_W} (hG : GI cI cZ cM h n ND KN US μ L d w) : ∃ fs : List Value, w[0]? = some (h, .inr (4, fs)) := by
  obtain ⟨nd, kn, gm, us, fo, fh, mi, fw, wt, x, t, s0, FH, A, B, rfl, -⟩ := hG
  exact ⟨_, rfl⟩
theorem GI.O {cI cZ cM : ClassId} {h n : Nat} {ND KN US : Int → Int32} {μ : Nat → zM} {L : Int} {d : Int32} {w : va_W} (hG : GI cI cZ cM h n ND KN US μ L d w) : gdO n μ L := by
  obtain ⟨nd, kn, gm, us, fo, fh, mi, fw, wt, x, t, s0, FH, A, B, -, hg⟩ := hG
  exact hg
theorem gdO_up {n : Nat} {μ : Nat → zM} {L : Int} (h : gdO n μ L) (k : Nat) {u : zM} (hu : mdO u) : gdO n (va_up μ k u) L := by
  refine ⟨h.1, fun i hi => ?_, h.2.2⟩
  by_cases e : i = k
  · rw [e, va_up_self]
    exact hu
  · rw [va_up_ne _ _ e]
    exact h.2.1 i hi
theorem gdO_add {n : Nat} {μ : Nat → zM} {L : Int} (h : gdO n μ L) (hn : n < 8) {u : zM} (hu : mdO u) : gdO (n + 1) (va_up μ n u) L := by
  refine ⟨hn, fun i hi => ?_, h.2.2⟩
  by_cases e : i = n
  · rw [e, va_up_self]
    exact hu
  · rw [va_up_ne _ _ e]
    exact h.2.1 i (by omega)
theorem mdO_k {u : zM} (h : mdO u) (h0 : ¬ msn u = 0) : 0 ≤ mK u (msn u - 1) ∧ mK u (msn u - 1) ≤ 7 := by
  obtain ⟨-, -, h3, -, -, h6⟩ := mdO_f h
  have := h6 (msn u - 1).toNat (by omega)
  rw [show (((msn u - 1).toNat : Nat) : Int) = msn u - 1 by omega] at this
  exact this
theorem c_models (l : Launch) (hl : l.stackTraces = false) (D : va_G) {cI cZ cM : ClassId} (cL : ClassId) {h n : Nat} {ND KN US : Int → Int32} {μ : Nat → zM} {L : Int} {d : Int32} {G : va_W} (hG : GI cI cZ cM h n ND KN US μ L d G) : ∃ PH : Option Value → va_W → Prop, zN l yX4_models wsX4_models { frames := 0, cells := 0, slots := 0, locals := 0 } D (zTy cI cZ cM cL) [.ref h] G PH 0 0 ∧ ∀ (r : Option Value) (w : va_W), PH r w → r = some (.int (iI n)) ∧ GI cI cZ cM h n ND KN US μ L d w := by
  obtain ⟨nd, kn, gm, us, fo, fh, mi, fw, wt, x, t, s0, FH, A, B, rfl, hg⟩ := hG
  refine ⟨_, k_models l hl D cI cZ cM cL h nd kn gm us fo fh mi fw wt n ND KN US μ x t s0 FH L d A B hg, fun r w hp => ?_⟩
  obtain ⟨h1, rfl⟩ := hp
  exact ⟨h1, ⟨nd, kn, gm, us, fo, fh, mi, fw, wt, x, t, s0, FH, A, B, rfl, hg⟩⟩
theorem c_fewestPieces (l : Launch) (hl : l.stackTraces = false) (D : va_G) {cI cZ cM : ClassId} (cL : ClassId) {h n : Nat} {ND KN US : Int → Int32} {μ : Nat → zM} {L : Int} {d : Int32} {G : va_W} (hG : GI cI cZ cM h n ND KN US μ L d G) : ∃ PH : Option Value → va_W → Prop, zN l yX4_fewestPieces wsX4_fewestPieces { frames := 5, cells := 0, slots := 0, locals := 107 } D (zTy cI cZ cM cL) [.ref h] G PH 0 0 ∧ ∀ (r : Option Value) (w : va_W), PH r w → r = some (.int (iI (fwt d L.toNat L))) ∧ GI cI cZ cM h n ND KN US μ L d w := by
  obtain ⟨nd, kn, gm, us, fo, fh, mi, fw, wt, x, t, s0, FH, A, B, rfl, hg⟩ := hG
  refine ⟨_, k_fewestPieces l hl D cI cZ cM cL h nd kn gm us fo fh mi fw wt n ND KN US μ x t s0 FH L d A B hg, fun r w hp => ?_⟩
  obtain ⟨h1, A1, rfl⟩ := hp
  exact ⟨h1, ⟨nd, kn, gm, us, fo, fh, mi, fw, wt, x, t, s0, FH, A1, B, rfl, hg⟩⟩
theorem c_leastRest (l : Launch) (hl : l.stackTraces = false) (D : va_G) {cI cZ cM : ClassId} (cL : ClassId) {h n : Nat} {ND KN US : Int → Int32} {μ : Nat → zM} {L : Int} {d : Int32} {G : va_W} (hG : GI cI cZ cM h n ND KN US μ L d G) : ∃ PH : Option Value → va_W → Prop, zN l yX4_leastRest wsX4_leastRest { frames := 5, cells := 0, slots := 0, locals := 108 } D (zTy cI cZ cM cL) [.ref h] G PH 0 0 ∧ ∀ (r : Option Value) (w : va_W), PH r w → r = some (.int (iI (L - crs (fwt d L.toNat) L.toNat))) ∧ GI cI cZ cM h n ND KN US μ L d w := by
  obtain ⟨nd, kn, gm, us, fo, fh, mi, fw, wt, x, t, s0, FH, A, B, rfl, hg⟩ := hG
  refine ⟨_, k_leastRest l hl D cI cZ cM cL h nd kn gm us fo fh mi fw wt n ND KN US μ x t s0 FH L d A B hg, fun r w hp => ?_⟩
  obtain ⟨h1, A1, rfl⟩ := hp
  exact ⟨h1, ⟨nd, kn, gm, us, fo, fh, mi, fw, wt, x, t, s0, FH, A1, B, rfl, hg⟩⟩
theorem c_ways (l : Launch) (hl : l.stackTraces = false) (D : va_G) {cI cZ cM : ClassId} (cL : ClassId) {h n : Nat} {ND KN US : Int → Int32} {μ : Nat → zM} {L : Int} {d : Int32} {G : va_W} (hG : GI cI cZ cM h n ND KN US μ L d G) : ∃ PH : Option Value → va_W → Prop, zN l yX4_ways wsX4_ways { frames := 3, cells := 0, slots := 0, locals := 63 } D (zTy cI cZ cM cL) [.ref h] G PH 0 0 ∧ ∀ (r : Option Value) (w : va_W), PH r w → r = some (.int (iI (wyt d (L + 1).toNat 20 L))) ∧ GI cI cZ cM h n ND KN US μ L d w := by
  obtain ⟨nd, kn, gm, us, fo, fh, mi, fw, wt, x, t, s0, FH, A, B, rfl, hg⟩ := hG
  refine ⟨_, k_ways l hl D cI cZ cM cL h nd kn gm us fo fh mi fw wt n ND KN US μ x t s0 FH L d A B hg, fun r w hp => ?_⟩
  obtain ⟨h1, B1, rfl⟩ := hp
  exact ⟨h1, ⟨nd, kn, gm, us, fo, fh, mi, fw, wt, x, t, s0, FH, A, B1, rfl, hg⟩⟩
theorem c_steps (l : Launch) (hl : l.stackTraces = false) (D : va_G) {cI cZ cM : ClassId} (cL : ClassId) {h n : Nat} {ND KN US : Int → Int32} {μ : Nat → zM} {L : Int} {d : Int32} {G : va_W} (hG : GI cI cZ cM h n ND KN US μ L d G) (i0 : Int) (hi0 : iR i0) : ∃ PH : Option Value → va_W → Prop, zNX l yX4_steps wsX4_steps { frames := 8, cells := 2, slots := 12, locals := 133 } D (zTy cI cZ cM cL) [.ref h, .int (iI i0)] G PH (pX (cM1 n i0) "java/lang/IndexOutOfBoundsException" "java/lang/IndexOutOfBoundsException" "java/lang/IndexOutOfBoundsException") 2 12 ∧ ∀ (r : Option Value) (w : va_W), PH r w → r = some (.int (iI (msn (μ i0.toNat)))) ∧ GI cI cZ cM h n ND KN US μ L d w := by
  obtain ⟨nd, kn, gm, us, fo, fh, mi, fw, wt, x, t, s0, FH, A, B, rfl, hg⟩ := hG
  refine ⟨_, k_steps l hl D cI cZ cM cL h nd kn gm us fo fh mi fw wt n ND KN US μ x t s0 FH L d A B hg i0 hi0, fun r w hp => ?_⟩
  obtain ⟨-, h1, rfl⟩ := hp
  exact ⟨h1, ⟨nd, kn, gm, us, fo, fh, mi, fw, wt, x, t, s0, FH, A, B, rfl, hg⟩⟩
theorem c_places (l : Launch) (hl : l.stackTraces = false) (D : va_G) {cI cZ cM : ClassId} (cL : ClassId) {h n : Nat} {ND KN US : Int → Int32} {μ : Nat → zM} {L : Int} {d : Int32} {G : va_W} (hG : GI cI cZ cM h n ND KN US μ L d G) (i0 : Int) (hi0 : iR i0) : ∃ PH : Option Value → va_W → Prop, zNX l yX4_places wsX4_places { frames := 8, cells := 2, slots := 12, locals := 133 } D (zTy cI cZ cM cL) [.ref h, .int (iI i0)] G PH (pX (cM1 n i0) "java/lang/IndexOutOfBoundsException" "java/lang/IndexOutOfBoundsException" "java/lang/IndexOutOfBoundsException") 2 12 ∧ ∀ (r : Option Value) (w : va_W), PH r w → r = some (.int (iI (mgS (μ i0.toNat)))) ∧ GI cI cZ cM h n ND KN US μ L d w := by
  obtain ⟨nd, kn, gm, us, fo, fh, mi, fw, wt, x, t, s0, FH, A, B, rfl, hg⟩ := hG
  refine ⟨_, k_places l hl D cI cZ cM cL h nd kn gm us fo fh mi fw wt n ND KN US μ x t s0 FH L d A B hg i0 hi0, fun r w hp => ?_⟩
  obtain ⟨-, h1, rfl⟩ := hp
  exact ⟨h1, ⟨nd, kn, gm, us, fo, fh, mi, fw, wt, x, t, s0, FH, A, B, rfl, hg⟩⟩
theorem c_layers (l : Launch) (hl : l.stackTraces = false) (D : va_G) {cI cZ cM : ClassId} (cL : ClassId) {h n : Nat} {ND KN US : Int → Int32} {μ : Nat → zM} {L : Int} {d : Int32} {G : va_W} (hG : GI cI cZ cM h n ND KN US μ L d G) (i0 : Int) (hi0 : iR i0) : ∃ PH : Option Value → va_W → Prop, zNX l yX4_layers wsX4_layers { frames := 8, cells := 2, slots := 12, locals := 133 } D (zTy cI cZ cM cL) [.ref h, .int (iI i0)] G PH (pX (cM1 n i0) "java/lang/IndexOutOfBoundsException" "java/lang/IndexOutOfBoundsException" "java/lang/IndexOutOfBoundsException") 2 12 ∧ ∀ (r : Option Value) (w : va_W), PH r w → r = some (.int (iI (mlay (μ i0.toNat)))) ∧ GI cI cZ cM h n ND KN US μ L d w := by
  obtain ⟨nd, kn, gm, us, fo, fh, mi, fw, wt, x, t, s0, FH, A, B, rfl, hg⟩ := hG
  refine ⟨_, k_layers l hl D cI cZ cM cL h nd kn gm us fo fh mi fw wt n ND KN US μ x t s0 FH L d A B hg i0 hi0, fun r w hp => ?_⟩
  obtain ⟨-, h1, rfl⟩ := hp
  exact ⟨h1, ⟨nd, kn, gm, us, fo, fh, mi, fw, wt, x, t, s0, FH, A, B, rfl, hg⟩⟩
theorem c_layersByFollowing (l : Launch) (hl : l.stackTraces = false) (D : va_G) {cI cZ cM : ClassId} (cL : ClassId) {h n : Nat} {ND KN US : Int → Int32} {μ : Nat → zM} {L : Int} {d : Int32} {G : va_W} (hG : GI cI cZ cM h n ND KN US μ L d G) (i0 : Int) (hi0 : iR i0) : ∃ PH : Option Value → va_W → Prop, zNX l yX4_layersByFollowing wsX4_layersByFollowing { frames := 8, cells := 2, slots := 12, locals := 133 } D (zTy cI cZ cM cL) [.ref h, .int (iI i0)] G PH (pX (cM1 n i0) "java/lang/IndexOutOfBoundsException" "java/lang/IndexOutOfBoundsException" "java/lang/IndexOutOfBoundsException") 2 12 ∧ ∀ (r : Option Value) (w : va_W), PH r w → r = some (.int (iI (mlay (μ i0.toNat)))) ∧ GI cI cZ cM h n ND KN US μ L d w := by
  obtain ⟨nd, kn, gm, us, fo, fh, mi, fw, wt, x, t, s0, FH, A, B, rfl, hg⟩ := hG
  refine ⟨_, k_layersByFollowing l hl D cI cZ cM cL h nd kn gm us fo fh mi fw wt n ND KN US μ x t s0 FH L d A B hg i0 hi0, fun r w hp => ?_⟩
  obtain ⟨h0, h1, x1, t1, s1, FH1, rfl⟩ := hp
  have h2 := cM1_0 h0
  rw [mdO_lay (hg.2.1 i0.toNat (by omega))] at h1
  exact ⟨h1, ⟨nd, kn, gm, us, fo, fh, mi, fw, wt, x1, t1, s1, FH1, A, B, rfl, hg⟩⟩
theorem c_bears (l : Launch) (hl : l.stackTraces = false) (D : va_G) {cI cZ cM : ClassId} (cL : ClassId) {h n : Nat} {ND KN US : Int → Int32} {μ : Nat → zM} {L : Int} {d : Int32} {G : va_W} (hG : GI cI cZ cM h n ND KN US μ L d G) (i0 : Int) (hi0 : iR i0) (g0 : Int) (hg0 : iR g0) : ∃ PH : Option Value → va_W → Prop, zNX l yX4_bears wsX4_bears { frames := 8, cells := 3, slots := 18, locals := 133 } D (zTy cI cZ cM cL) [.ref h, .int (iI i0), .int (iI g0)] G PH (pX (cBE n i0 g0) "java/lang/IndexOutOfBoundsException" "java/lang/IllegalArgumentException" "java/lang/IndexOutOfBoundsException") 3 18 ∧ ∀ (r : Option Value) (w : va_W), PH r w → r = some (.int (iI (b2 (mlay (μ i0.toNat) ≤ max 1 (40 - 2 * g0))))) ∧ GI cI cZ cM h n ND KN US μ L d w := by
  obtain ⟨nd, kn, gm, us, fo, fh, mi, fw, wt, x, t, s0, FH, A, B, rfl, hg⟩ := hG
  refine ⟨_, k_bears l hl D cI cZ cM cL h nd kn gm us fo fh mi fw wt n ND KN US μ x t s0 FH L d A B hg i0 hi0 g0 hg0, fun r w hp => ?_⟩
  obtain ⟨-, h1, rfl⟩ := hp
  exact ⟨h1, ⟨nd, kn, gm, us, fo, fh, mi, fw, wt, x, t, s0, FH, A, B, rfl, hg⟩⟩
theorem c_cellAt (l : Launch) (hl : l.stackTraces = false) (D : va_G) {cI cZ cM : ClassId} (cL : ClassId) {h n : Nat} {ND KN US : Int → Int32} {μ : Nat → zM} {L : Int} {d : Int32} {G : va_W} (hG : GI cI cZ cM h n ND KN US μ L d G) (i0 : Int) (hi0 : iR i0) (p0 h0 : Int) (hp0 : iR p0) (hh0 : iR h0) : ∃ PH : Option Value → va_W → Prop, zNX l yX4_cellAt wsX4_cellAt { frames := 8, cells := 3, slots := 18, locals := 133 } D (zTy cI cZ cM cL) [.ref h, .int (iI i0), .int (iI p0), .int (iI h0)] G PH (pX (cCA n (μ i0.toNat) i0 p0 h0) "java/lang/IndexOutOfBoundsException" "java/lang/IndexOutOfBoundsException" "java/lang/IndexOutOfBoundsException") 3 18 ∧ ∀ (r : Option Value) (w : va_W), PH r w → ∃ q : Int, r = some (.int (iI q)) ∧ (0 ≤ q ∧ q < mle (μ i0.toNat)) ∧ mgP (μ i0.toNat) q = p0 ∧ mgH (μ i0.toNat) q = h0 ∧ GI cI cZ cM h n ND KN US μ L d w := by
  obtain ⟨nd, kn, gm, us, fo, fh, mi, fw, wt, x, t, s0, FH, A, B, rfl, hg⟩ := hG
  refine ⟨_, k_cellAt l hl D cI cZ cM cL h nd kn gm us fo fh mi fw wt n ND KN US μ x t s0 FH L d A B hg i0 hi0 p0 h0 hp0 hh0, fun r w hp => ?_⟩
  obtain ⟨-, ⟨q, h1, h2, h3, h4⟩, rfl⟩ := hp
  exact ⟨q, h1, h2, h3, h4, ⟨nd, kn, gm, us, fo, fh, mi, fw, wt, x, t, s0, FH, A, B, rfl, hg⟩⟩
theorem c_placeOf (l : Launch) (hl : l.stackTraces = false) (D : va_G) {cI cZ cM : ClassId} (cL : ClassId) {h n : Nat} {ND KN US : Int → Int32} {μ : Nat → zM} {L : Int} {d : Int32} {G : va_W} (hG : GI cI cZ cM h n ND KN US μ L d G) (i0 : Int) (hi0 : iR i0) (q0 : Int) (hq0 : iR q0) : ∃ PH : Option Value → va_W → Prop, zNX l yX4_placeOf wsX4_placeOf { frames := 8, cells := 3, slots := 18, locals := 133 } D (zTy cI cZ cM cL) [.ref h, .int (iI i0), .int (iI q0)] G PH (pX (cPO n (μ i0.toNat) i0 q0) "java/lang/IndexOutOfBoundsException" "java/lang/IndexOutOfBoundsException" "java/lang/IndexOutOfBoundsException") 3 18 ∧ ∀ (r : Option Value) (w : va_W), PH r w → r = some (.int (iI (mgP (μ i0.toNat) q0))) ∧ GI cI cZ cM h n ND KN US μ L d w := by
  obtain ⟨nd, kn, gm, us, fo, fh, mi, fw, wt, x, t, s0, FH, A, B, rfl, hg⟩ := hG
  refine ⟨_, k_placeOf l hl D cI cZ cM cL h nd kn gm us fo fh mi fw wt n ND KN US μ x t s0 FH L d A B hg i0 hi0 q0 hq0, fun r w hp => ?_⟩
  obtain ⟨-, h1, x1, t1, s1, rfl⟩ := hp
  exact ⟨h1, ⟨nd, kn, gm, us, fo, fh, mi, fw, wt, x1, t1, s1, FH, A, B, rfl, hg⟩⟩
theorem c_isTurned (l : Launch) (hl : l.stackTraces = false) (D : va_G) {cI cZ cM : ClassId} (cL : ClassId) {h n : Nat} {ND KN US : Int → Int32} {μ : Nat → zM} {L : Int} {d : Int32} {G : va_W} (hG : GI cI cZ cM h n ND KN US μ L d G) (i0 : Int) (hi0 : iR i0) (q0 : Int) (hq0 : iR q0) : ∃ PH : Option Value → va_W → Prop, zNX l yX4_isTurned wsX4_isTurned { frames := 8, cells := 3, slots := 18, locals := 133 } D (zTy cI cZ cM cL) [.ref h, .int (iI i0), .int (iI q0)] G PH (pX (cPO n (μ i0.toNat) i0 q0) "java/lang/IndexOutOfBoundsException" "java/lang/IndexOutOfBoundsException" "java/lang/IndexOutOfBoundsException") 3 18 ∧ ∀ (r : Option Value) (w : va_W), PH r w → r = some (.int (iI (mgT (μ i0.toNat) q0))) ∧ GI cI cZ cM h n ND KN US μ L d w := by
  obtain ⟨nd, kn, gm, us, fo, fh, mi, fw, wt, x, t, s0, FH, A, B, rfl, hg⟩ := hG
  refine ⟨_, k_isTurned l hl D cI cZ cM cL h nd kn gm us fo fh mi fw wt n ND KN US μ x t s0 FH L d A B hg i0 hi0 q0 hq0, fun r w hp => ?_⟩
  obtain ⟨-, h1, x1, t1, s1, rfl⟩ := hp
  exact ⟨h1, ⟨nd, kn, gm, us, fo, fh, mi, fw, wt, x1, t1, s1, FH, A, B, rfl, hg⟩⟩
theorem c_kindsOf (l : Launch) (hl : l.stackTraces = false) (D : va_G) {cI cZ cM : ClassId} (cL : ClassId) {h n : Nat} {ND KN US : Int → Int32} {μ : Nat → zM} {L : Int} {d : Int32} {G : va_W} (hG : GI cI cZ cM h n ND KN US μ L d G) (i0 : Int) (hi0 : iR i0) : ∃ PH : Option Value → va_W → Prop, zNX l yX4_kindsOf wsX4_kindsOf { frames := 9, cells := 17, slots := 102, locals := 157 } D (zTy cI cZ cM cL) [.ref h, .int (iI i0)] G PH (pX (cM1 n i0) "java/lang/IndexOutOfBoundsException" "java/lang/IndexOutOfBoundsException" "java/lang/IndexOutOfBoundsException") 17 102 ∧ ∀ (r : Option Value) (w : va_W), PH r w → r = some (.int (kcB μ (mcB US i0) n)) ∧ GI cI cZ cM h n ND KN US μ L d w := by
  obtain ⟨nd, kn, gm, us, fo, fh, mi, fw, wt, x, t, s0, FH, A, B, rfl, hg⟩ := hG
  refine ⟨_, k_kindsOf l hl D cI cZ cM cL h nd kn gm us fo fh mi fw wt n ND KN US μ x t s0 FH L d A B hg i0 hi0, fun r w hp => ?_⟩
  obtain ⟨-, h1, rfl⟩ := hp
  exact ⟨h1, ⟨nd, kn, gm, us, fo, fh, mi, fw, wt, x, t, s0, FH, A, B, rfl, hg⟩⟩
theorem c_mayFold (l : Launch) (hl : l.stackTraces = false) (D : va_G) {cI cZ cM : ClassId} (cL : ClassId) {h n : Nat} {ND KN US : Int → Int32} {μ : Nat → zM} {L : Int} {d : Int32} {G : va_W} (hG : GI cI cZ cM h n ND KN US μ L d G) (p0 i0 : Int) (hp0 : iR p0) (hi0 : iR i0) : ∃ PH : Option Value → va_W → Prop, zNX l yX4_mayFold wsX4_mayFold { frames := 9, cells := 18, slots := 108, locals := 157 } D (zTy cI cZ cM cL) [.ref h, .int (iI p0), .int (iI i0)] G PH (pX (cEX n p0 i0) "java/lang/IndexOutOfBoundsException" "java/lang/IndexOutOfBoundsException" "java/lang/IndexOutOfBoundsException") 18 108 ∧ ∀ (r : Option Value) (w : va_W), PH r w → r = some (.int (iI (b2 (¬ lk (KN p0) (kcB μ (mcB US i0) n))))) ∧ GI cI cZ cM h n ND KN US μ L d w := by
  obtain ⟨nd, kn, gm, us, fo, fh, mi, fw, wt, x, t, s0, FH, A, B, rfl, hg⟩ := hG
  refine ⟨_, k_mayFold l hl D cI cZ cM cL h nd kn gm us fo fh mi fw wt n ND KN US μ x t s0 FH L d A B hg p0 i0 hp0 hi0, fun r w hp => ?_⟩
  obtain ⟨-, h1, rfl⟩ := hp
  exact ⟨h1, ⟨nd, kn, gm, us, fo, fh, mi, fw, wt, x, t, s0, FH, A, B, rfl, hg⟩⟩
theorem c_lessons (l : Launch) (hl : l.stackTraces = false) (D : va_G) {cI cZ cM : ClassId} (cL : ClassId) {h n : Nat} {ND KN US : Int → Int32} {μ : Nat → zM} {L : Int} {d : Int32} {G : va_W} (hG : GI cI cZ cM h n ND KN US μ L d G) (p0 i0 : Int) (hp0 : iR p0) (hi0 : iR i0) : ∃ PH : Option Value → va_W → Prop, zNX l yX4_lessons wsX4_lessons { frames := 9, cells := 18, slots := 108, locals := 157 } D (zTy cI cZ cM cL) [.ref h, .int (iI p0), .int (iI i0)] G PH (pX (cEX n p0 i0) "java/lang/IndexOutOfBoundsException" "java/lang/IndexOutOfBoundsException" "java/lang/IndexOutOfBoundsException") 18 108 ∧ ∀ (r : Option Value) (w : va_W), PH r w → r = some (.int (bcE (rch ND ((iI 255) &&& ((KN p0) ^^^ (iI (-1)))) 8 ((kcB μ (mcB US i0) n) &&& ((iI 255) &&& ((KN p0) ^^^ (iI (-1)))))))) ∧ GI cI cZ cM h n ND KN US μ L d w := by
  obtain ⟨nd, kn, gm, us, fo, fh, mi, fw, wt, x, t, s0, FH, A, B, rfl, hg⟩ := hG
  refine ⟨_, k_lessons l hl D cI cZ cM cL h nd kn gm us fo fh mi fw wt n ND KN US μ x t s0 FH L d A B hg p0 i0 hp0 hi0, fun r w hp => ?_⟩
  obtain ⟨-, h1, rfl⟩ := hp
  exact ⟨h1, ⟨nd, kn, gm, us, fo, fh, mi, fw, wt, x, t, s0, FH, A, B, rfl, hg⟩⟩
theorem c_credit (l : Launch) (hl : l.stackTraces = false) (D : va_G) {cI cZ cM : ClassId} (cL : ClassId) {h n : Nat} {ND KN US : Int → Int32} {μ : Nat → zM} {L : Int} {d : Int32} {G : va_W} (hG : GI cI cZ cM h n ND KN US μ L d G) (au0 : Int) (ha0 : iR au0) : ∃ PH : Option Value → va_W → Prop, zNX l yX4_credit wsX4_credit { frames := 9, cells := 17, slots := 102, locals := 156 } D (zTy cI cZ cM cL) [.ref h, .int (iI au0)] G PH (pX (cCR au0) "java/lang/IndexOutOfBoundsException" "java/lang/IndexOutOfBoundsException" "java/lang/IndexOutOfBoundsException") 17 102 ∧ ∀ (r : Option Value) (w : va_W), PH r w → r = some (.int (iI (crB US (moB μ au0 n) n))) ∧ GI cI cZ cM h n ND KN US μ L d w := by
  obtain ⟨nd, kn, gm, us, fo, fh, mi, fw, wt, x, t, s0, FH, A, B, rfl, hg⟩ := hG
  refine ⟨_, k_credit l hl D cI cZ cM cL h nd kn gm us fo fh mi fw wt n ND KN US μ x t s0 FH L d A B hg au0 ha0, fun r w hp => ?_⟩
  obtain ⟨-, h1, rfl⟩ := hp
  exact ⟨h1, ⟨nd, kn, gm, us, fo, fh, mi, fw, wt, x, t, s0, FH, A, B, rfl, hg⟩⟩
theorem c_setNeeds (l : Launch) (hl : l.stackTraces = false) (D : va_G) {cI cZ cM : ClassId} (cL : ClassId) {h n : Nat} {ND KN US : Int → Int32} {μ : Nat → zM} {L : Int} {d : Int32} {G : va_W} (hG : GI cI cZ cM h n ND KN US μ L d G) (k0 w0 : Int) (hk0 : iR k0) (hw0 : iR w0) : ∃ PH : Option Value → va_W → Prop, zNX l yX4_setNeeds wsX4_setNeeds { frames := 7, cells := 2, slots := 12, locals := 111 } D (zTy cI cZ cM cL) [.ref h, .int (iI k0), .int (iI w0)] G PH (pX (cSN ND k0 w0) "java/lang/IndexOutOfBoundsException" "java/lang/IllegalArgumentException" "java/lang/IndexOutOfBoundsException") 2 12 ∧ ∀ (r : Option Value) (w : va_W), PH r w → cSN ND k0 w0 = 0 ∧ r = some (.int (ND k0)) ∧ GI cI cZ cM h n (zup ND k0 (iI w0)) KN US μ L d w := by
  obtain ⟨nd, kn, gm, us, fo, fh, mi, fw, wt, x, t, s0, FH, A, B, rfl, hg⟩ := hG
  refine ⟨_, k_setNeeds l hl D cI cZ cM cL h nd kn gm us fo fh mi fw wt n ND KN US μ x t s0 FH L d A B hg k0 w0 hk0 hw0, fun r w hp => ?_⟩
  obtain ⟨h0, h1, rfl⟩ := hp
  exact ⟨h0, h1, ⟨nd, kn, gm, us, fo, fh, mi, fw, wt, x, t, s0, FH, A, B, rfl, hg⟩⟩
theorem c_use (l : Launch) (hl : l.stackTraces = false) (D : va_G) {cI cZ cM : ClassId} (cL : ClassId) {h n : Nat} {ND KN US : Int → Int32} {μ : Nat → zM} {L : Int} {d : Int32} {G : va_W} (hG : GI cI cZ cM h n ND KN US μ L d G) (i0 j0 : Int) (hi0 : iR i0) (hj0 : iR j0) : ∃ PH : Option Value → va_W → Prop, zNX l yX4_use wsX4_use { frames := 7, cells := 3, slots := 18, locals := 111 } D (zTy cI cZ cM cL) [.ref h, .int (iI i0), .int (iI j0)] G PH (pX (cUS n US i0 j0) "java/lang/IndexOutOfBoundsException" "java/lang/IllegalArgumentException" "java/lang/IndexOutOfBoundsException") 3 18 ∧ ∀ (r : Option Value) (w : va_W), PH r w → cUS n US i0 j0 = 0 ∧ r = some (.int (iI (b2 (¬ hb (US i0) (iI j0))))) ∧ GI cI cZ cM h n ND KN (zup US i0 (US i0 ||| (iI 1 <<< (iI j0 &&& 31)))) μ L d w := by
  obtain ⟨nd, kn, gm, us, fo, fh, mi, fw, wt, x, t, s0, FH, A, B, rfl, hg⟩ := hG
  refine ⟨_, k_use l hl D cI cZ cM cL h nd kn gm us fo fh mi fw wt n ND KN US μ x t s0 FH L d A B hg i0 j0 hi0 hj0, fun r w hp => ?_⟩
  obtain ⟨h0, h1, rfl⟩ := hp
  exact ⟨h0, h1, ⟨nd, kn, gm, us, fo, fh, mi, fw, wt, x, t, s0, FH, A, B, rfl, hg⟩⟩
theorem c_teach (l : Launch) (hl : l.stackTraces = false) (D : va_G) {cI cZ cM : ClassId} (cL : ClassId) {h n : Nat} {ND KN US : Int → Int32} {μ : Nat → zM} {L : Int} {d : Int32} {G : va_W} (hG : GI cI cZ cM h n ND KN US μ L d G) (p0 k0 : Int) (hp0 : iR p0) (hk0 : iR k0) : ∃ PH : Option Value → va_W → Prop, zNX l yX4_teach wsX4_teach { frames := 7, cells := 3, slots := 18, locals := 111 } D (zTy cI cZ cM cL) [.ref h, .int (iI p0), .int (iI k0)] G PH (pX (cTE ND KN p0 k0) "java/lang/IndexOutOfBoundsException" "java/lang/IllegalStateException" "java/lang/IndexOutOfBoundsException") 3 18 ∧ ∀ (r : Option Value) (w : va_W), PH r w → cTE ND KN p0 k0 = 0 ∧ r = some (.int (bcE (KN p0 ||| (iI 1 <<< (iI k0 &&& 31))))) ∧ GI cI cZ cM h n ND (zup KN p0 (KN p0 ||| (iI 1 <<< (iI k0 &&& 31)))) US μ L d w := by
  obtain ⟨nd, kn, gm, us, fo, fh, mi, fw, wt, x, t, s0, FH, A, B, rfl, hg⟩ := hG
  refine ⟨_, k_teach l hl D cI cZ cM cL h nd kn gm us fo fh mi fw wt n ND KN US μ x t s0 FH L d A B hg p0 k0 hp0 hk0, fun r w hp => ?_⟩
  obtain ⟨h0, h1, rfl⟩ := hp
  exact ⟨h0, h1, ⟨nd, kn, gm, us, fo, fh, mi, fw, wt, x, t, s0, FH, A, B, rfl, hg⟩⟩
theorem c_setRoll (l : Launch) (hl : l.stackTraces = false) (D : va_G) {cI cZ cM : ClassId} (cL : ClassId) {h n : Nat} {ND KN US : Int → Int32} {μ : Nat → zM} {L : Int} {d : Int32} {G : va_W} (hG : GI cI cZ cM h n ND KN US μ L d G) (l0 w0 : Int) (hl0 : iR l0) (hw0 : iR w0) : ∃ PH : Option Value → va_W → Prop, zNX l yX4_setRoll wsX4_setRoll { frames := 6, cells := 1, slots := 6, locals := 90 } D (zTy cI cZ cM cL) [.ref h, .int (iI l0), .int (iI w0)] G PH (pX (cSR l0 w0) "java/lang/IllegalArgumentException" "java/lang/IllegalArgumentException" "java/lang/IllegalArgumentException") 1 6 ∧ ∀ (r : Option Value) (w : va_W), PH r w → r = some (.int (iI L)) ∧ GI cI cZ cM h n ND KN US μ l0 (iI w0) w := by
  obtain ⟨nd, kn, gm, us, fo, fh, mi, fw, wt, x, t, s0, FH, A, B, rfl, hg⟩ := hG
  refine ⟨_, k_setRoll l hl D cI cZ cM cL h nd kn gm us fo fh mi fw wt n ND KN US μ x t s0 FH L d A B hg l0 w0 hl0 hw0, fun r w hp => ?_⟩
  obtain ⟨h0, h1, rfl⟩ := hp
  have h2 := cSR_0 h0
  have hg : gdO n μ l0 := ⟨hg.1, hg.2.1, h2.1, h2.2⟩
  exact ⟨h1, ⟨nd, kn, gm, us, fo, fh, mi, fw, wt, x, t, s0, FH, A, B, rfl, hg⟩⟩
theorem c_fold (l : Launch) (hl : l.stackTraces = false) (D : va_G) {cI cZ cM : ClassId} (cL : ClassId) {h n : Nat} {ND KN US : Int → Int32} {μ : Nat → zM} {L : Int} {d : Int32} {G : va_W} (hG : GI cI cZ cM h n ND KN US μ L d G) (i0 : Int) (hi0 : iR i0) (kd0 p0 lf0 : Int) (hkd0 : iR kd0) (hp0 : iR p0) (hlf0 : lf0 = 0 ∨ lf0 = 1) : ∃ PH : Option Value → va_W → Prop, zNX l yX4_fold wsX4_fold { frames := 8, cells := 4, slots := 24, locals := 158 } D (zTy cI cZ cM cL) [.ref h, .int (iI i0), .int (iI kd0), .int (iI p0), .int (iI lf0)] G PH (pX (cFO n ND (μ i0.toNat) i0 kd0 p0) "java/lang/IndexOutOfBoundsException" "java/lang/IllegalArgumentException" "java/lang/IllegalStateException") 4 24 ∧ ∀ (r : Option Value) (w : va_W), PH r w → cFO n ND (μ i0.toNat) i0 kd0 p0 = 0 ∧ r = some (.int (iI (max p0 (mgS (μ i0.toNat) - p0)))) ∧ ∃ u9 : zM, mle u9 = mle (μ i0.toNat) ∧ msn u9 = msn (μ i0.toNat) + 1 ∧ mK u9 = zup (mK (μ i0.toNat)) (msn (μ i0.toNat)) kd0 ∧ mP u9 = zup (mP (μ i0.toNat)) (msn (μ i0.toNat)) p0 ∧ GI cI cZ cM h n ND KN US (va_up μ i0.toNat u9) L d w := by
  obtain ⟨nd, kn, gm, us, fo, fh, mi, fw, wt, x, t, s0, FH, A, B, rfl, hg⟩ := hG
  refine ⟨_, k_fold l hl D cI cZ cM cL h nd kn gm us fo fh mi fw wt n ND KN US μ x t s0 FH L d A B hg i0 hi0 kd0 p0 lf0 hkd0 hp0 hlf0, fun r w hp => ?_⟩
  obtain ⟨h0, h1, u9, rfl, e1, e2, e3, e4, e5, e6, e7⟩ := hp
  have hg := gdO_up hg i0.toNat e7
  exact ⟨h0, h1, u9, e2, e3, e4, e5, ⟨nd, kn, gm, us, fo, fh, mi, fw, wt, x, t, s0, FH, A, B, rfl, hg⟩⟩
theorem c_unfold (l : Launch) (hl : l.stackTraces = false) (D : va_G) {cI cZ cM : ClassId} (cL : ClassId) {h n : Nat} {ND KN US : Int → Int32} {μ : Nat → zM} {L : Int} {d : Int32} {G : va_W} (hG : GI cI cZ cM h n ND KN US μ L d G) (i0 : Int) (hi0 : iR i0) : ∃ PH : Option Value → va_W → Prop, zNX l yX4_unfold wsX4_unfold { frames := 8, cells := 3, slots := 18, locals := 156 } D (zTy cI cZ cM cL) [.ref h, .int (iI i0)] G PH (pX (cUN n (μ i0.toNat) i0) "java/lang/IndexOutOfBoundsException" "java/lang/IllegalStateException" "java/lang/IndexOutOfBoundsException") 3 18 ∧ ∀ (r : Option Value) (w : va_W), PH r w → cUN n (μ i0.toNat) i0 = 0 ∧ (∃ k9 : Int, r = some (.int (iI k9)) ∧ 0 ≤ k9 ∧ k9 ≤ 7) ∧ ∃ u9 : zM, mle u9 = mle (μ i0.toNat) ∧ msn u9 = msn (μ i0.toNat) - 1 ∧ GI cI cZ cM h n ND KN US (va_up μ i0.toNat u9) L d w := by
  obtain ⟨nd, kn, gm, us, fo, fh, mi, fw, wt, x, t, s0, FH, A, B, rfl, hg⟩ := hG
  refine ⟨_, k_unfold l hl D cI cZ cM cL h nd kn gm us fo fh mi fw wt n ND KN US μ x t s0 FH L d A B hg i0 hi0, fun r w hp => ?_⟩
  obtain ⟨h0, h1, u9, rfl, e1, e2, e3, e4, e5, e6, e7⟩ := hp
  have h2 := cUN_0 h0
  have h3 := hg.2.1 i0.toNat (by omega)
  have h4 := mdO_k h3 h2.2
  have hg := gdO_up hg i0.toNat e7
  exact ⟨h0, ⟨_, h1, h4⟩, u9, e2, e3, ⟨nd, kn, gm, us, fo, fh, mi, fw, wt, x, t, s0, FH, A, B, rfl, hg⟩⟩
theorem c_addModel (l : Launch) (hl : l.stackTraces = false) (D : va_G) {cI cZ cM : ClassId} (cL : ClassId) {h n : Nat} {ND KN US : Int → Int32} {μ : Nat → zM} {L : Int} {d : Int32} {G : va_W} (hG : GI cI cZ cM h n ND KN US μ L d G) (au0 len0 : Int) (ha0 : iR au0) (hl0 : iR len0) : ∃ PH : Option Value → va_W → Prop, zNX l yX4_addModel wsX4_addModel { frames := 7, cells := 11, slots := 185, locals := 111 } D (zTy cI cZ cM cL) [.ref h, .int (iI au0), .int (iI len0)] G PH (pX (cAM n au0 len0) "java/lang/IndexOutOfBoundsException" "java/lang/IllegalArgumentException" "java/lang/IllegalStateException") 11 185 ∧ ∀ (r : Option Value) (w : va_W), PH r w → cAM n au0 len0 = 0 ∧ r = some (.int (iI n)) ∧ ∃ u9 : zM, mle u9 = len0 ∧ msn u9 = 0 ∧ GI cI cZ cM h (n + 1) ND KN US (va_up μ n u9) L d w := by
  obtain ⟨nd, kn, gm, us, fo, fh, mi, fw, wt, x, t, s0, FH, A, B, rfl, hg⟩ := hG
  refine ⟨_, k_addModel l hl D cI cZ cM cL h nd kn gm us fo fh mi fw wt n ND KN US μ x t s0 FH L d A B hg au0 len0 ha0 hl0, fun r w hp => ?_⟩
  obtain ⟨h0, h1, u9, rfl, e1, e2, e3, e7⟩ := hp
  have hg := gdO_add hg (cAM_0 h0) e7
  exact ⟨h0, h1, u9, e2, e3, ⟨nd, kn, gm, us, fo, fh, mi, fw, wt, x, t, s0, FH, A, B, rfl, hg⟩⟩
