/-! THE REFERENCE'S STEPS, in words. -/
abbrev row (A : Int → Int) (i : Int) : Int → Int := fun q => A (10 * i + q)
theorem cnt_zup {M Pl : Int → Int} {c : Nat} (h : ∀ k, 0 ≤ k → k < 32 → M k = cnt Pl k c) (h0 : 0 ≤ Pl c ∧ Pl c < 32) (k : Int) (hk0 : 0 ≤ k) (hk1 : k < 32) : zup M (Pl c) (M (Pl c) + 1) k = cnt Pl k (c + 1) := by
  rw [cntS]
  by_cases e : k = Pl c
  · rw [e, zup_self, if_pos rfl, h _ h0.1 h0.2]
  · rw [zup_ne _ _ e, if_neg (fun q => e q.symm), h k hk0 hk1]
    omega
theorem mxR_s {Pl : Int → Int} {c : Nat} {mo m1 x : Int} (hm : m1 = max mo (mxR Pl c)) (hx : x = cnt Pl (Pl c) c + 1) : max m1 x = max mo (mxR Pl (c + 1)) := by
  show _ = max mo (max (mxR Pl c) (cnt Pl (Pl c) (c + 1)))
  rw [cntS, if_pos rfl, hm, hx]
  omega
/-- c cells have made the step -/
def mkI (len p lf sz low : Int) (PL HE TU : Int → Int) (c : Nat) (P1 H1 T1 : Int → Int) : Prop :=
  (∀ q : Int, 0 ≤ q → q < c → P1 q = (if gz lf p (PL q) then 2 * p - 1 - PL q else PL q) - low ∧ H1 q = hs lf p sz len PL HE q ∧ T1 q = if gz lf p (PL q) then 1 - TU q else TU q) ∧ ∀ q : Int, c ≤ q → P1 q = PL q ∧ H1 q = HE q ∧ T1 q = TU q
theorem mkI_t {len p lf sz low : Int} {PL HE TU : Int → Int} {c : Nat} {P1 H1 T1 : Int → Int} (h : mkI len p lf sz low PL HE TU c P1 H1 T1) (hg : gz lf p (PL c)) {x y z : Int} (hx : x = 2 * p - 1 - PL c - low) (hy : y = hs lf p sz len PL HE c) (hz : z = 1 - TU c) : mkI len p lf sz low PL HE TU (c + 1) (zup P1 c x) (zup H1 c y) (zup T1 c z) := by
  obtain ⟨h1, h2⟩ := h
  refine ⟨fun q a b => ?_, fun q a => ?_⟩
  · by_cases e : q = c
    · subst e
      rw [zup_self, zup_self, zup_self, if_pos hg, if_pos hg]
      exact ⟨hx, hy, hz⟩
    · rw [zup_ne _ _ e, zup_ne _ _ e, zup_ne _ _ e]
      exact h1 q a (by omega)
  · rw [zup_ne _ _ (by omega), zup_ne _ _ (by omega), zup_ne _ _ (by omega)]
    exact h2 q (by omega)
theorem mkI_f {len p lf sz low : Int} {PL HE TU : Int → Int} {c : Nat} {P1 H1 T1 : Int → Int} (h : mkI len p lf sz low PL HE TU c P1 H1 T1) (hg : ¬ gz lf p (PL c)) {x : Int} (hx : x = PL c - low) : mkI len p lf sz low PL HE TU (c + 1) (zup P1 c x) H1 T1 := by
  obtain ⟨h1, h2⟩ := h
  refine ⟨fun q a b => ?_, fun q a => ?_⟩
  · by_cases e : q = c
    · subst e
      have h9 := h2 c (Int.le_refl _)
      rw [zup_self, if_neg hg, if_neg hg]
      refine ⟨hx, ?_, h9.2.2⟩
      unfold hs
      rw [if_neg hg]
      exact h9.2.1
    · rw [zup_ne _ _ e]
      exact h1 q a (by omega)
  · rw [zup_ne _ _ (by omega)]
    exact h2 q (by omega)
theorem mkI_0 (len p lf sz low : Int) (PL HE TU : Int → Int) : mkI len p lf sz low PL HE TU 0 PL HE TU := ⟨fun q a b => by omega, fun q _ => ⟨rfl, rfl, rfl⟩⟩
theorem hs_t {f p sp len : Int} {Pl Hl M : Int → Int} {q y : Int} (hg : gz f p (Pl q)) (hM : ∀ k, 0 ≤ k → k < 32 → M k = cnt Pl k len.toNat) (hs32 : sp ≤ 32) (hP : 0 ≤ Pl q ∧ Pl q < sp) (hy : y = (if 0 ≤ 2 * p - 1 - Pl q ∧ 2 * p - 1 - Pl q < sp then M (2 * p - 1 - Pl q) else 0) + M (Pl q) - 1 - Hl q) : y = hs f p sp len Pl Hl q := by
  unfold hs
  rw [if_pos hg, hy, hM (Pl q) hP.1 (by omega)]
  by_cases e : 0 ≤ 2 * p - 1 - Pl q ∧ 2 * p - 1 - Pl q < sp
  · rw [if_pos e, if_pos e, hM _ e.1 (by omega)]
  · rw [if_neg e, if_neg e]
theorem mk_rng {p lf sz x : Int} (hp : 1 ≤ p ∧ p < sz) (hx : 0 ≤ x ∧ x < sz) (hlf : lf = 0 ∨ lf = 1) : 0 ≤ (if gz lf p x then 2 * p - 1 - x else x) - lw p lf sz ∧ (if gz lf p x then 2 * p - 1 - x else x) - lw p lf sz < max p (sz - p) := by
  unfold lw
  rcases hlf with rfl | rfl
  · rw [if_pos rfl]
    by_cases hg : gz 0 p x
    · rw [if_pos hg]; omega
    · rw [if_neg hg]; omega
  · rw [if_neg (show ¬ (1 : Int) = 0 by omega)]
    by_cases hg : gz 1 p x
    · rw [if_pos hg]; omega
    · rw [if_neg hg]; omega
theorem zup_lo {M : Int → Int} {v : Int → Int} {j : Nat} (h : ∀ q : Int, 0 ≤ q → q < (j : Int) → M q = v q) {x : Int} (hx : x = v j) : ∀ q : Int, 0 ≤ q → q < ((j + 1 : Nat) : Int) → zup M j x q = v q := by
  intro q a b
  by_cases e : q = j
  · rw [e, zup_self, hx]
  · rw [zup_ne _ _ e]
    exact h q a (by omega)
