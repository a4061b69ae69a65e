/-! BITS, and what is reached; the mill; the follower: in words. -/
abbrev hb (x y : Int32) : Prop := ¬ ((x >>> (y &&& 31)) &&& iI 1) = 0
abbrev lk (x w : Int32) : Prop := ¬ (w &&& (x ^^^ iI (-1))) = 0
theorem nb2 (P : Prop) [Decidable P] : narrow .boolean (.int (iI (b2 P))) = .int (iI (b2 P)) := by
  unfold b2
  split <;> decide
theorem b2r (P : Prop) [Decidable P] : 0 ≤ b2 P ∧ b2 P ≤ 1 := by
  unfold b2
  split <;> omega
theorem b2t {P : Prop} [Decidable P] (h : P) : b2 P = 1 := if_pos h
theorem b2f {P : Prop} [Decidable P] (h : ¬ P) : b2 P = 0 := if_neg h
theorem b20 {P : Prop} [Decidable P] (h : b2 P = 0) : ¬ P := fun q => by rw [b2t q] at h; omega
theorem b21 {P : Prop} [Decidable P] (h : ¬ b2 P = 0) : P := by
  refine Decidable.byContradiction fun q => h ?_
  exact b2f q
/-- one round over the first n numbers -/
def rcr (f : Int → Int32) (w : Int32) : Nat → Int32 → Int32
  | 0, b => b
  | n + 1, b => if hb (rcr f w n b) (iI n) then rcr f w n b ||| (f n &&& w) else rcr f w n b
/-- n rounds over all eight -/
def rch (f : Int → Int32) (w : Int32) : Nat → Int32 → Int32
  | 0, b => b
  | n + 1, b => rcr f w 8 (rch f w n b)
/-- the fewest pieces for a length x out of the first n lengths, by those for shorter ones -/
def fwb (d : Int32) (A : Int → Int) (x : Int) : Nat → Int
  | 0 => -1
  | n + 1 => if 0 ≤ (if hb d (iI n) then A (x - (n + 1)) else -1) ∧ (fwb d A x n < 0 ∨ (if hb d (iI n) then A (x - (n + 1)) else -1) + 1 < fwb d A x n) then (if hb d (iI n) then A (x - (n + 1)) else -1) + 1 else fwb d A x n
theorem fwb_r {d : Int32} {A : Int → Int} {x B : Int} (h : ∀ y, 0 ≤ y → y < x → A y ≤ B) : ∀ n : Nat, (n : Int) ≤ x → -1 ≤ fwb d A x n ∧ (fwb d A x n ≤ B + 1 ∨ fwb d A x n = -1)
  | 0, _ => by unfold fwb; omega
  | n + 1, hn => by
    have h1 := fwb_r (d := d) h n (by omega)
    have h2 := h (x - (n + 1)) (by omega) (by omega)
    unfold fwb
    by_cases hd : hb d (iI n)
    · rw [if_pos hd]
      split <;> omega
    · rw [if_neg hd]
      split <;> omega
/-- the table of fewest pieces up to the length n -/
def fwt (d : Int32) : Nat → Int → Int
  | 0 => fun _ => 0
  | n + 1 => zup (fwt d n) (n + 1) (fwb d (fwt d n) (n + 1) (min 20 (n + 1)))
theorem fwb_c {d : Int32} {A B : Int → Int} {x : Int} (h : ∀ y, 0 ≤ y → y < x → A y = B y) : ∀ n : Nat, (n : Int) ≤ x → fwb d A x n = fwb d B x n
  | 0, _ => rfl
  | n + 1, hn => by
    unfold fwb
    rw [fwb_c h n (by omega), h (x - (n + 1)) (by omega) (by omega)]
theorem fwt_r {d : Int32} : ∀ (n : Nat) (y : Int), 0 ≤ y → y ≤ n → -1 ≤ fwt d n y ∧ fwt d n y ≤ n
  | 0, y, _, _ => by unfold fwt; omega
  | n + 1, y, h0, h1 => by
    unfold fwt zup
    by_cases h : y = n + 1
    · rw [if_pos h]
      have := fwb_r (d := d) (A := fwt d n) (x := (n : Int) + 1) (B := n) (fun z a b => (fwt_r n z a (by omega)).2) (min 20 (n + 1)) (by omega)
      omega
    · rw [if_neg h]
      have := fwt_r (d := d) n y h0 (by omega)
      omega
/-- one length's ways put to those of the shorter ones, for all lengths below n -/
def wyi (p : Int) (B : Int → Int) : Nat → Int → Int
  | 0 => B
  | n + 1 => if (n : Int) < p then wyi p B n else zup (wyi p B n) n ((wyi p B n n + wyi p B n (n - p)) % 1000007)
/-- the ways by the first n lengths, for a roll below L -/
def wyt (d : Int32) (L : Nat) : Nat → Int → Int
  | 0 => fun x => if x = 0 then 1 else 0
  | n + 1 => if hb d (iI n) then wyi (n + 1) (wyt d L n) L else wyt d L n
theorem wyi_r {p : Int} {B : Int → Int} (hp : 1 ≤ p) (h : ∀ y, 0 ≤ B y ∧ B y < 1000007) : ∀ (n : Nat) (y : Int), 0 ≤ wyi p B n y ∧ wyi p B n y < 1000007
  | 0, y => h y
  | n + 1, y => by
    have h1 := wyi_r hp h n
    unfold wyi
    split
    · exact h1 y
    · unfold zup
      split
      · exact ⟨Int.emod_nonneg _ (by omega), Int.emod_lt_of_pos _ (by omega)⟩
      · exact h1 y
theorem wyt_r {d : Int32} {L : Nat} : ∀ (n : Nat) (y : Int), 0 ≤ wyt d L n y ∧ wyt d L n y < 1000007
  | 0, y => by unfold wyt; split <;> omega
  | n + 1, y => by
    unfold wyt
    split
    · exact wyi_r (by omega) (fun z => wyt_r n z) L y
    · exact wyt_r n y
/-- the steps' places are within, their sides 0 or 1 -/
def stV (len n : Int) (P F : Int → Int) : Prop := ∀ j : Nat, (j : Int) < n → (1 ≤ P j ∧ P j < gS len P j) ∧ (F j = 0 ∨ F j = 1)
theorem stV_gS {len n : Int} {P F : Int → Int} (h : stV len n P F) (hlen : 1 ≤ len) : ∀ j : Nat, (j : Int) ≤ n → 1 ≤ gS len P j ∧ gS len P j ≤ len
  | 0, _ => by show 1 ≤ len ∧ len ≤ len; omega
  | j + 1, hj => by
    have h1 := stV_gS h hlen j (by omega)
    have h2 := (h j (by omega)).1
    show 1 ≤ max (P (j : Int)) (gS len P j - P (j : Int)) ∧ max (P (j : Int)) (gS len P j - P (j : Int)) ≤ len
    omega
theorem stV_gP {len n : Int} {P F : Int → Int} (h : stV len n P F) (hlen : 1 ≤ len) {q : Int} (h0 : 0 ≤ q) (h1 : q < len) : ∀ j : Nat, (j : Int) ≤ n → 0 ≤ gP len P F j q ∧ gP len P F j q < gS len P j
  | 0, _ => by show 0 ≤ q ∧ q < len; omega
  | j + 1, hj => by
    have i1 := stV_gP h hlen h0 h1 j (by omega)
    have i2 := stV_gS h hlen j (by omega)
    obtain ⟨i3, i4⟩ := h j (by omega)
    have e1 : gP len P F (j + 1) q = (if gz (F (j : Int)) (P (j : Int)) (gP len P F j q) then 2 * P (j : Int) - 1 - gP len P F j q else gP len P F j q) - lw (P (j : Int)) (F (j : Int)) (gS len P j) := rfl
    have e2 : gS len P (j + 1) = max (P (j : Int)) (gS len P j - P (j : Int)) := rfl
    rw [e1, e2]
    unfold lw
    rcases i4 with i4 | i4
    · rw [i4, if_pos rfl]
      by_cases hg : gz 0 (P (j : Int)) (gP len P F j q)
      · rw [if_pos hg]; omega
      · rw [if_neg hg]; omega
    · rw [i4, if_neg (show ¬ (1 : Int) = 0 by omega)]
      by_cases hg : gz 1 (P (j : Int)) (gP len P F j q)
      · rw [if_pos hg]; omega
      · rw [if_neg hg]; omega
theorem gT_r {len : Int} {P F : Int → Int} (q : Int) : ∀ j : Nat, gT len P F j q = 0 ∨ gT len P F j q = 1
  | 0 => Or.inl rfl
  | j + 1 => by
    have h := gT_r (len := len) (P := P) (F := F) q j
    show (if gz (F (j : Int)) (P (j : Int)) (gP len P F j q) then 1 - gT len P F j q else gT len P F j q) = 0 ∨ (if gz (F (j : Int)) (P (j : Int)) (gP len P F j q) then 1 - gT len P F j q else gT len P F j q) = 1
    split <;> omega
