/-! A STEP OF THE STACKS, in words. -/
theorem stW.mono {sp : Int} {S : Int → Int} (h : stW sp S) : ∀ (n : Nat) (i : Int), 0 ≤ i → i + n ≤ sp → S i ≤ S (i + n)
  | 0, i, _, _ => by rw [show i + ((0 : Nat) : Int) = i by omega]; exact Int.le_refl _
  | n + 1, i, h0, h1 => by
    have h2 := h.mono n i h0 (by omega)
    have h3 := h.2.2.2.2 (i + n) (by omega) (by omega)
    rw [show i + n + 1 = i + ((n + 1 : Nat) : Int) by omega] at h3
    omega
theorem stW.le {sp : Int} {S : Int → Int} (h : stW sp S) {i j : Int} (h0 : 0 ≤ i) (h1 : i ≤ j) (h2 : j ≤ sp) : S i ≤ S j := by
  have := h.mono (j - i).toNat i h0 (by omega)
  rw [show i + ((j - i).toNat : Int) = j by omega] at this
  exact this
/-- how many cells lie below the place x -/
def Sc (sp : Int) (S : Int → Int) (x : Int) : Int := if x ≤ 0 then 0 else if sp ≤ x then S sp else S x
theorem stW.hgtSc {sp : Int} {S : Int → Int} (h : stW sp S) (x : Int) : hgt sp S x = Sc sp S (x + 1) - Sc sp S x := by
  obtain ⟨h0, h1, h2, h3, h4⟩ := h
  unfold hgt Sc
  by_cases a : 0 ≤ x ∧ x < sp
  · rw [if_pos a, if_neg (show ¬ x + 1 ≤ 0 by omega)]
    have e1 : (if sp ≤ x + 1 then S sp else S (x + 1)) = S (x + 1) := by
      split
      · rw [show sp = x + 1 by omega]
      · rfl
    have e2 : (if x ≤ 0 then 0 else if sp ≤ x then S sp else S x) = S x := by
      split
      · rw [show x = 0 by omega, h2]
      · rw [if_neg (by omega)]
    rw [e1, e2]
  · rw [if_neg a]
    by_cases b : x < 0
    · rw [if_pos (by omega), if_pos (by omega)]; rfl
    · rw [if_neg (by omega), if_pos (by omega)]
      by_cases d : x ≤ 0
      · rw [if_pos d, show sp = 0 by omega, h2]; rfl
      · rw [if_neg d, if_pos (by omega)]; omega
theorem stW.ScMono {sp : Int} {S : Int → Int} (h : stW sp S) {x y : Int} (hxy : x ≤ y) : Sc sp S x ≤ Sc sp S y := by
  obtain ⟨h0, h1, h2, h3, h4⟩ := id h
  unfold Sc
  by_cases a : y ≤ 0
  · rw [if_pos a, if_pos (by omega)]; omega
  · rw [if_neg a]
    have hy : 0 ≤ (if sp ≤ y then S sp else S y) := by
      split
      · exact (h3 sp h0 (Int.le_refl _)).1
      · exact (h3 y (by omega) (by omega)).1
    by_cases b : x ≤ 0
    · rw [if_pos b]; exact hy
    · rw [if_neg b]
      by_cases d : sp ≤ y
      · rw [if_pos d]
        split
        · omega
        · exact h.le (by omega) (by omega) (Int.le_refl _)
      · rw [if_neg d, if_neg (by omega)]
        exact h.le (by omega) hxy (by omega)
theorem stW.ScR {sp : Int} {S : Int → Int} (h : stW sp S) (x : Int) : 0 ≤ Sc sp S x ∧ Sc sp S x ≤ 32 := by
  obtain ⟨h0, h1, h2, h3, h4⟩ := h
  unfold Sc
  split
  · omega
  · split
    · exact h3 sp h0 (Int.le_refl _)
    · exact h3 x (by omega) (by omega)
/-- the lowest place behind a step -/
def lw (p lf sp : Int) : Int := if lf = 0 then min 0 (2 * p - sp) else p
/-- where the place k begins behind a step -/
def tG (sp : Int) (S : Int → Int) (p low k : Int) : Int := Sc sp S (low + k) - Sc sp S low + Sc sp S (2 * p - low) - Sc sp S (2 * p - low - k)
theorem stW.tGs {sp : Int} {S : Int → Int} (h : stW sp S) (p low k : Int) : tG sp S p low (k + 1) = tG sp S p low k + hgt sp S (low + k) + hgt sp S (2 * p - 1 - (low + k)) := by
  rw [h.hgtSc (low + k), h.hgtSc (2 * p - 1 - (low + k))]
  unfold tG
  rw [show low + (k + 1) = low + k + 1 by omega, show 2 * p - low - (k + 1) = 2 * p - 1 - (low + k) by omega, show 2 * p - 1 - (low + k) + 1 = 2 * p - low - k by omega]
  omega
theorem tG_0 (sp : Int) (S : Int → Int) (p low : Int) : tG sp S p low 0 = 0 := by
  unfold tG
  rw [show low + 0 = low by omega, show 2 * p - low - 0 = 2 * p - low by omega]
  omega
theorem stW.tGr {sp : Int} {S : Int → Int} (h : stW sp S) {p low k : Int} (hk : 0 ≤ k) (hl : low = p ∨ low + k ≤ p) : 0 ≤ tG sp S p low k ∧ tG sp S p low k ≤ 32 := by
  unfold tG
  have a1 := h.ScMono (show low ≤ low + k by omega)
  have a2 := h.ScMono (show 2 * p - low - k ≤ 2 * p - low by omega)
  have a3 := h.ScR low
  have a4 := h.ScR (2 * p - low)
  have a5 := h.ScR (low + k)
  have a6 := h.ScR (2 * p - low - k)
  rcases hl with hl | hl
  · rw [show 2 * p - low = low by omega] at *
    omega
  · have a7 := h.ScMono (show low + k ≤ 2 * p - low - k by omega)
    omega
theorem stW.tGm {sp : Int} {S : Int → Int} (h : stW sp S) (p low : Int) {j k : Int} (hjk : j ≤ k) : tG sp S p low j ≤ tG sp S p low k := by
  unfold tG
  have a1 := h.ScMono (show low + j ≤ low + k by omega)
  have a2 := h.ScMono (show 2 * p - low - k ≤ 2 * p - low - j by omega)
  omega
/-- what a step makes of the stacks: below the place k -/
def tnP (sp : Int) (S C : Int → Int) (p low k : Int) (N1 M1 : Int → Int) : Prop :=
  (∀ j, 0 ≤ j → j < k → M1 j = tG sp S p low j) ∧
  (∀ j h, 0 ≤ j → j < k → 0 ≤ h → h < hgt sp S (low + j) → N1 (tG sp S p low j + h) = C (S (low + j) + h)) ∧
  (∀ j h, 0 ≤ j → j < k → 0 ≤ h → h < hgt sp S (2 * p - 1 - (low + j)) → N1 (tG sp S p low j + hgt sp S (low + j) + h) = C (S (2 * p - 1 - (low + j)) + (hgt sp S (2 * p - 1 - (low + j)) - 1 - h)))
theorem stW.tnS {sp : Int} {S C : Int → Int} (h : stW sp S) {p low k : Int} {N1 M1 : Int → Int} (hk : 0 ≤ k) (hp : tnP sp S C p low k N1 M1) :
    tnP sp S C p low (k + 1) (cpU (cpU N1 (tG sp S p low k) (hgt sp S (low + k)) (fun i => C (S (low + k) + i))) (tG sp S p low k + hgt sp S (low + k)) (hgt sp S (2 * p - 1 - (low + k))) (fun i => C (S (2 * p - 1 - (low + k)) + (hgt sp S (2 * p - 1 - (low + k)) - 1 - i)))) (zup M1 k (tG sp S p low k)) := by
  obtain ⟨h1, h2, h3⟩ := hp
  refine ⟨fun j a b => ?_, fun j i a b d e => ?_, fun j i a b d e => ?_⟩
  · unfold zup
    split
    · subst_vars; rfl
    · exact h1 j a (by omega)
  · by_cases hj : j = k
    · subst hj
      unfold cpU
      rw [if_neg (by omega), if_pos (by omega)]
      rw [show tG sp S p low j + i - tG sp S p low j = i by omega]
    · have b1 := h.tGm p low (show j + 1 ≤ k by omega)
      have b2 := h.tGs p low j
      have b3 := h.hgt0 (2 * p - 1 - (low + j))
      have b4 := h.hgt0 (low + k)
      unfold cpU
      rw [if_neg (by omega), if_neg (by omega)]
      exact h2 j i a (by omega) d e
  · by_cases hj : j = k
    · subst hj
      unfold cpU
      rw [if_pos (by omega)]
      rw [show tG sp S p low j + hgt sp S (low + j) + i - (tG sp S p low j + hgt sp S (low + j)) = i by omega]
    · have b1 := h.tGm p low (show j + 1 ≤ k by omega)
      have b2 := h.tGs p low j
      have b4 := h.hgt0 (low + k)
      unfold cpU
      rw [if_neg (by omega), if_neg (by omega)]
      exact h3 j i a (by omega) d e
theorem stW.tnEnd {sp : Int} {S C : Int → Int} (_ : stW sp S) {p low k : Int} {N1 M1 : Int → Int} (hp : tnP sp S C p low k N1 M1) :
    tnP sp S C p low k N1 (zup M1 k (tG sp S p low k)) ∧ zup M1 k (tG sp S p low k) k = tG sp S p low k := by
  obtain ⟨h1, h2, h3⟩ := hp
  refine ⟨⟨fun j a b => ?_, h2, h3⟩, zup_self _ _ _⟩
  rw [zup_ne _ _ (by omega)]
  exact h1 j a b
