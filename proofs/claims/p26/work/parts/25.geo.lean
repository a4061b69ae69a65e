/-! HOW THE CELLS LIE, in words: behind j steps of a strip of len cells, with places P and sides F. -/
/-- the cell at x goes over, at a step at p -/
abbrev gz (f p x : Int) : Prop := (f = 0 ∧ p ≤ x) ∨ (¬ f = 0 ∧ x < p)
def cnt (Pl : Int → Int) (k : Int) : Nat → Int
  | 0 => 0
  | n + 1 => cnt Pl k n + (if Pl (n : Int) = k then 1 else 0)
/-- how many places -/
def gS (len : Int) (P : Int → Int) : Nat → Int
  | 0 => len
  | j + 1 => max (P (j : Int)) (gS len P j - P (j : Int))
def gP (len : Int) (P F : Int → Int) : Nat → Int → Int
  | 0 => fun q => q
  | j + 1 => fun q => (if gz (F (j : Int)) (P (j : Int)) (gP len P F j q) then 2 * P (j : Int) - 1 - gP len P F j q else gP len P F j q) - lw (P (j : Int)) (F (j : Int)) (gS len P j)
def gT (len : Int) (P F : Int → Int) : Nat → Int → Int
  | 0 => fun _ => 0
  | j + 1 => fun q => if gz (F (j : Int)) (P (j : Int)) (gP len P F j q) then 1 - gT len P F j q else gT len P F j q
/-- the height behind a step: those that lie there, and those that go, but the ones below -/
def hs (f p sp len : Int) (Pl Hl : Int → Int) (q : Int) : Int :=
  if gz f p (Pl q) then (if 0 ≤ 2 * p - 1 - Pl q ∧ 2 * p - 1 - Pl q < sp then cnt Pl (2 * p - 1 - Pl q) len.toNat else 0) + cnt Pl (Pl q) len.toNat - 1 - Hl q else Hl q
def gH (len : Int) (P F : Int → Int) : Nat → Int → Int
  | 0 => fun _ => 0
  | j + 1 => fun q => hs (F (j : Int)) (P (j : Int)) (gS len P j) len (gP len P F j) (gH len P F j) q
theorem cnt_0 {Pl : Int → Int} {k : Int} : ∀ (n : Nat), (∀ q : Int, 0 ≤ q → q < n → Pl q ≠ k) → cnt Pl k n = 0
  | 0, _ => rfl
  | n + 1, h => by
    have h1 := cnt_0 (Pl := Pl) (k := k) n (fun q a b => h q a (by omega))
    have h2 := h (n : Int) (by omega) (by omega)
    unfold cnt
    rw [h1, if_neg h2]
    rfl
theorem cnt_2 {Pl Pm : Int → Int} {k a b : Int} (hab : a ≠ b) : ∀ (n : Nat), (∀ q : Int, 0 ≤ q → q < n → (Pm q = k ↔ (Pl q = a ∨ Pl q = b))) → cnt Pm k n = cnt Pl a n + cnt Pl b n
  | 0, _ => rfl
  | n + 1, h => by
    have h1 := cnt_2 hab n (fun q c d => h q c (by omega))
    have h2 := h (n : Int) (by omega) (by omega)
    unfold cnt
    rw [h1]
    by_cases e1 : Pl (n : Int) = a
    · have e2 : ¬ Pl (n : Int) = b := fun e => hab (e1.symm.trans e)
      rw [if_pos (h2.mpr (Or.inl e1)), if_pos e1, if_neg e2]
      omega
    · by_cases e2 : Pl (n : Int) = b
      · rw [if_pos (h2.mpr (Or.inr e2)), if_neg e1, if_pos e2]
        omega
      · rw [if_neg (fun e => (h2.mp e).elim e1 e2), if_neg e1, if_neg e2]
        omega
/-- the stacks hold the cells as they lie -/
def geo (len sp : Int) (S C Pl Hl : Int → Int) : Prop :=
  stW sp S ∧ S sp = len ∧ (∀ q, 0 ≤ q → q < len → 0 ≤ Pl q ∧ Pl q < sp ∧ 0 ≤ Hl q ∧ Hl q < hgt sp S (Pl q) ∧ C (S (Pl q) + Hl q) = q) ∧
  (∀ k h, 0 ≤ h → h < hgt sp S k → 0 ≤ C (S k + h) ∧ C (S k + h) < len ∧ Pl (C (S k + h)) = k ∧ Hl (C (S k + h)) = h) ∧ (∀ k, hgt sp S k = cnt Pl k len.toNat)
theorem cnt_id {k : Int} : ∀ (n : Nat), cnt (fun q => q) k n = if 0 ≤ k ∧ k < n then 1 else 0
  | 0 => by unfold cnt; rw [if_neg (by omega)]
  | n + 1 => by
    unfold cnt
    rw [cnt_id n]
    by_cases h1 : (n : Int) = k
    · rw [if_neg (by omega), if_pos h1, if_pos (by omega)]
      rfl
    · rw [if_neg h1]
      by_cases h2 : 0 ≤ k ∧ k < n
      · rw [if_pos h2, if_pos (by omega)]
        rfl
      · rw [if_neg h2, if_neg (by omega)]
        rfl
theorem geo_flat {len : Int} {S C : Int → Int} (h0 : 1 ≤ len) (h1 : len ≤ 32) (hC : ∀ q, 0 ≤ q → q < len → C q = q) (hS : ∀ q, 0 ≤ q → q ≤ len → S q = q) : geo len len S C (fun q => q) (fun _ => 0) := by
  have hh : ∀ k, hgt len S k = if 0 ≤ k ∧ k < len then 1 else 0 := by
    intro k
    unfold hgt
    by_cases h : 0 ≤ k ∧ k < len
    · rw [if_pos h, if_pos h, hS k (by omega) (by omega), hS (k + 1) (by omega) (by omega)]
      omega
    · rw [if_neg h, if_neg h]
  refine ⟨⟨by omega, h1, hS 0 (by omega) (by omega), fun k a b => by rw [hS k a b]; omega, fun k a b => by rw [hS k a (by omega), hS (k + 1) (by omega) (by omega)]; omega⟩, hS len (by omega) (by omega), fun q a b => ?_, fun k h a b => ?_, fun k => ?_⟩
  · show 0 ≤ q ∧ q < len ∧ (0 : Int) ≤ 0 ∧ 0 < hgt len S q ∧ C (S q + 0) = q
    rw [hh q, if_pos ⟨a, b⟩, hS q a (by omega), show q + 0 = q by omega, hC q a b]
    exact ⟨a, b, by omega, by omega, rfl⟩
  · rw [hh k] at b
    by_cases h : 0 ≤ k ∧ k < len
    · rw [if_pos h] at b
      have e : h = h := rfl
      rw [hS k (by omega) (by omega)]
      rename_i hx
      have e0 : hx = 0 := by omega
      subst e0
      rw [show k + 0 = k by omega, hC k h.1 h.2]
      exact ⟨h.1, h.2, rfl, rfl⟩
    · rw [if_neg h] at b
      omega
  · rw [hh k, cnt_id]
    have e : ((len.toNat : Nat) : Int) = len := by omega
    rw [e]
theorem geo_step {len sp p f : Int} {S C Pl Hl N1 M1 Pm : Int → Int} (g : geo len sp S C Pl Hl) (hlen : 1 ≤ len) (hp : 1 ≤ p ∧ p < sp) (hPm : ∀ q, Pm q = (if gz f p (Pl q) then 2 * p - 1 - Pl q else Pl q) - lw p f sp)
    (ht : tnP sp S C p (lw p f sp) (max p (sp - p)) N1 M1) (he : M1 (max p (sp - p)) = tG sp S p (lw p f sp) (max p (sp - p))) : geo len (max p (sp - p)) M1 N1 Pm (hs f p sp len Pl Hl) := by
  obtain ⟨hW, hS, hA, hB, hN⟩ := g
  obtain ⟨t1, t2, t3⟩ := ht
  obtain ⟨s0, s1, s2, s3, s4⟩ := id hW
  have hlw : (f = 0 ∧ lw p f sp = min 0 (2 * p - sp)) ∨ (¬ f = 0 ∧ lw p f sp = p) := by
    unfold lw
    split
    · exact Or.inl ⟨by assumption, rfl⟩
    · exact Or.inr ⟨by assumption, rfl⟩
  generalize hlo : lw p f sp = low at *
  generalize hns : max p (sp - p) = ns at *
  have hM : ∀ k, 0 ≤ k → k ≤ ns → M1 k = tG sp S p low k := by
    intro k a b
    by_cases h : k < ns
    · exact t1 k a h
    · rw [show k = ns by omega]
      exact he
  have hr : ∀ k, 0 ≤ k → k ≤ ns → 0 ≤ tG sp S p low k ∧ tG sp S p low k ≤ 32 := fun k a b => hW.tGr a (by omega)
  have hh : ∀ k, 0 ≤ k → k < ns → hgt ns M1 k = hgt sp S (low + k) + hgt sp S (2 * p - 1 - (low + k)) := by
    intro k a b
    unfold hgt
    rw [if_pos ⟨a, b⟩, hM k a (by omega), hM (k + 1) (by omega) (by omega), hW.tGs p low k]
    unfold hgt
    omega
  have hout : ∀ k, ¬ (0 ≤ k ∧ k < ns) → hgt ns M1 k = 0 := fun k h => by unfold hgt; rw [if_neg h]
  have hPr : ∀ q, 0 ≤ q → q < len → 0 ≤ Pm q ∧ Pm q < ns := by
    intro q a b
    obtain ⟨a1, a2, -⟩ := hA q a b
    rw [hPm q]
    split <;> omega
  have hcn : ∀ x, (if 0 ≤ x ∧ x < sp then cnt Pl x len.toNat else 0) = hgt sp S x := by
    intro x
    split
    · exact (hN x).symm
    · unfold hgt; rw [if_neg (by assumption)]
  have hq : ∀ q, hs f p sp len Pl Hl q = if gz f p (Pl q) then hgt sp S (2 * p - 1 - Pl q) + hgt sp S (Pl q) - 1 - Hl q else Hl q := by
    intro q
    unfold hs
    rw [hcn, ← hN]
  have hW' : stW ns M1 := by
    refine ⟨by omega, by omega, ?_, fun k a b => ?_, fun k a b => ?_⟩
    · rw [hM 0 (by omega) (by omega), tG_0]
    · rw [hM k a b]
      exact hr k a b
    · rw [hM k a (by omega), hM (k + 1) (by omega) (by omega), hW.tGs p low k]
      have b1 := hW.hgt0 (low + k)
      have b2 := hW.hgt0 (2 * p - 1 - (low + k))
      omega
  refine ⟨hW', ?_, fun q a b => ?_, fun k h a b => ?_, fun k => ?_⟩
  · rw [he, ← hS]
    unfold tG Sc
    rcases hlw with ⟨e1, e2⟩ | ⟨e1, e2⟩
    · rw [show low + ns = p by omega, show 2 * p - low - ns = p by omega, if_pos (show low ≤ 0 by omega), if_neg (show ¬ 2 * p - low ≤ 0 by omega), if_pos (show sp ≤ 2 * p - low by omega)]
      omega
    · rw [if_neg (show ¬ low + ns ≤ 0 by omega), if_pos (show sp ≤ low + ns by omega), show 2 * p - low = low by omega, if_pos (show low - ns ≤ 0 by omega)]
      omega
  · obtain ⟨a1, a2, a3, a4, a5⟩ := hA q a b
    have a6 := hPr q a b
    have a7 := hPm q
    refine ⟨a6.1, a6.2, ?_⟩
    rw [hh _ a6.1 a6.2, hM _ a6.1 (by omega), hq q]
    by_cases hg : gz f p (Pl q)
    · rw [if_pos hg] at a7
      rw [if_pos hg, show low + Pm q = 2 * p - 1 - Pl q by omega, show 2 * p - 1 - (2 * p - 1 - Pl q) = Pl q by omega]
      have b1 := hW.hgt0 (2 * p - 1 - Pl q)
      have b2 := t3 (Pm q) (hgt sp S (Pl q) - 1 - Hl q) a6.1 a6.2 (by omega)
      rw [show low + Pm q = 2 * p - 1 - Pl q by omega, show 2 * p - 1 - (2 * p - 1 - Pl q) = Pl q by omega] at b2
      refine ⟨by omega, by omega, ?_⟩
      have b3 := b2 (by omega)
      rw [show hgt sp S (Pl q) - 1 - (hgt sp S (Pl q) - 1 - Hl q) = Hl q by omega, a5] at b3
      exact Eq.trans (congrArg N1 (by omega)) b3
    · rw [if_neg hg] at a7
      rw [if_neg hg, show low + Pm q = Pl q by omega]
      have b1 := hW.hgt0 (2 * p - 1 - Pl q)
      have b2 := t2 (Pm q) (Hl q) a6.1 a6.2 a3
      rw [show low + Pm q = Pl q by omega] at b2
      refine ⟨a3, by omega, ?_⟩
      rw [b2 a4, a5]
  · by_cases hk : 0 ≤ k ∧ k < ns
    · rw [hh k hk.1 hk.2] at b
      rw [hM k hk.1 (by omega)]
      by_cases hx : h < hgt sp S (low + k)
      · have c1 := t2 k h hk.1 hk.2 a hx
        obtain ⟨d1, d2, d3, d4⟩ := hB (low + k) h a hx
        rw [c1]
        have hin : 0 ≤ low + k ∧ low + k < sp := by unfold hgt at hx; split at hx <;> omega
        have hng : ¬ gz f p (Pl (C (S (low + k) + h))) := by rw [d3]; omega
        refine ⟨d1, d2, ?_, ?_⟩
        · rw [hPm, if_neg hng, d3]; omega
        · rw [hq, if_neg hng, d4]
      · have c1 := t3 k (h - hgt sp S (low + k)) hk.1 hk.2 (by omega) (by omega)
        rw [show tG sp S p low k + hgt sp S (low + k) + (h - hgt sp S (low + k)) = tG sp S p low k + h by omega] at c1
        obtain ⟨d1, d2, d3, d4⟩ := hB (2 * p - 1 - (low + k)) (hgt sp S (2 * p - 1 - (low + k)) - 1 - (h - hgt sp S (low + k))) (by omega) (by omega)
        rw [c1]
        have hin : 0 ≤ 2 * p - 1 - (low + k) ∧ 2 * p - 1 - (low + k) < sp := by
          have hb2 : 0 < hgt sp S (2 * p - 1 - (low + k)) := by omega
          unfold hgt at hb2
          split at hb2 <;> omega
        have hg : gz f p (Pl (C (S (2 * p - 1 - (low + k)) + (hgt sp S (2 * p - 1 - (low + k)) - 1 - (h - hgt sp S (low + k)))))) := by rw [d3]; omega
        refine ⟨d1, d2, ?_, ?_⟩
        · rw [hPm, if_pos hg, d3]; omega
        · rw [hq, if_pos hg, d4, d3, show 2 * p - 1 - (2 * p - 1 - (low + k)) = low + k by omega]; omega
    · rw [hout k hk] at b
      omega
  · by_cases hk : 0 ≤ k ∧ k < ns
    · rw [hh k hk.1 hk.2, hN, hN]
      refine (cnt_2 (by omega) _ (fun q c d => ?_)).symm
      obtain ⟨a1, a2, -⟩ := hA q c (by omega)
      rw [hPm q]
      by_cases hg : gz f p (Pl q)
      · rw [if_pos hg]
        constructor
        · intro e; right; omega
        · intro e; rcases e with e | e <;> omega
      · rw [if_neg hg]
        constructor
        · intro e; left; omega
        · intro e; rcases e with e | e <;> omega
    · rw [hout k hk]
      refine (cnt_0 _ (fun q c d e => hk ?_)).symm
      have := hPr q c (by omega)
      omega
