/-! THE REFERENCE: what its calls find, in words. -/
theorem mxC_c2 {f g : Int → Int} : ∀ n : Nat, (∀ k : Int, 0 ≤ k → k < n → f k = g k) → mxC f n = mxC g n
  | 0, _ => rfl
  | n + 1, h => by
    unfold mxC
    rw [mxC_c2 n (fun k a b => h k a (by omega)), h n (by omega) (by omega)]
theorem mxC_r {f : Int → Int} {B : Int} (hB : 0 ≤ B) : ∀ n : Nat, (∀ k : Int, 0 ≤ k → k < n → f k ≤ B) → 0 ≤ mxC f n ∧ mxC f n ≤ B
  | 0, _ => by unfold mxC; omega
  | n + 1, h => by
    have h1 := mxC_r hB n (fun k a b => h k a (by omega))
    have h2 := h n (by omega) (by omega)
    unfold mxC
    omega
/-- the reference is as it should be -/
def rO (n : Nat) (L : Int) (US : Int → Int32) (LE SN AT LF : Int → Int) : Prop := n ≤ 8 ∧ (∀ k : Int, n ≤ k → k < 8 → US k = 0) ∧ (0 ≤ L ∧ L ≤ 200) ∧ ∀ i : Int, 0 ≤ i → i < n → (2 ≤ LE i ∧ LE i ≤ 32) ∧ (0 ≤ SN i ∧ SN i ≤ 10) ∧ stV (LE i) (SN i) (row AT i) (row LF i)
/-- the reference's cells, whatever it has counted -/
abbrev rQ (cI : ClassId) (r e1 e2 e3 e4 e5 e6 e7 e8 e9 e10 e11 e12 e13 e14 : Nat) (n : Nat) (L : Int) (d : Int32) (th : Int) (ND US KN : Int → Int32) (AU LE SN KK AT LF : Int → Int) (w : va_W) : Prop := ∃ (sz mo : Int) (PL HE TU MA CU : Int → Int), w = rfW cI r e1 e2 e3 e4 e5 e6 e7 e8 e9 e10 e11 e12 e13 e14 n L d sz mo th ND US KN AU LE SN KK AT LF PL HE TU MA CU
theorem fwt_in {d : Int32} {m j : Nat} {C2 : Int → Int} (hD : ∀ y : Int, 0 ≤ y → y ≤ m → C2 y = fwt d m y) (hE : C2 (m + 1) = fwb d (fwt d m) (m + 1) j) (hj : j = min 20 (m + 1)) : ∀ y : Int, 0 ≤ y → y ≤ ((m + 1 : Nat) : Int) → C2 y = fwt d (m + 1) y := by
  intro y a b
  show C2 y = zup (fwt d m) (m + 1) (fwb d (fwt d m) (m + 1) (min 20 (m + 1))) y
  by_cases e : y = m + 1
  · rw [e, zup_self, hE, hj]
  · rw [zup_ne _ _ e]
    exact hD y a (by omega)
theorem crs_at {T : Int → Int} {x : Nat} (hx : x = 0 ∨ 0 ≤ T x) : ∀ k : Nat, (∀ y : Int, x < y → y ≤ x + k → T y < 0) → crs T (x + k) = x
  | 0, _ => by
    cases x with
    | zero => rfl
    | succ x =>
      show (if T (x + 1) < 0 then crs T x else (x : Int) + 1) = _
      rw [if_neg (by have := hx.resolve_left (by omega); rw [show ((x + 1 : Nat) : Int) = (x : Int) + 1 by omega] at this; omega)]
      omega
  | k + 1, h => by
    have h1 := crs_at hx k (fun y a b => h y a (by omega))
    have h2 := h (x + k + 1) (by omega) (by omega)
    show (if T (((x + k : Nat) : Int) + 1) < 0 then crs T (x + k) else ((x + k : Nat) : Int) + 1) = _
    rw [show ((x + k : Nat) : Int) + 1 = x + k + 1 by omega, if_pos h2, h1]
theorem wy_ex {d : Int32} {L : Int} {j q : Nat} {C2 : Int → Int} (hL : 0 ≤ L) (hC : ∀ y : Int, 0 ≤ y → y ≤ L → C2 y = wyi (j + 1) (wyt d (L + 1).toNat j) q y) (hq : q = j + 1 ∨ (hb d (iI j) ∧ (q : Int) ≤ L + 1)) (hx : L < q ∨ ¬ hb d (iI j)) : ∀ y : Int, 0 ≤ y → y ≤ L → C2 y = wyt d (L + 1).toNat (j + 1) y := by
  intro y a b
  rw [hC y a b]
  show _ = (if hb d (iI j) then wyi (j + 1) (wyt d (L + 1).toNat j) (L + 1).toNat else wyt d (L + 1).toNat j) y
  by_cases h : hb d (iI j)
  · rw [if_pos h]
    have h2 := hx.resolve_right (fun e => e h)
    by_cases e : q = (L + 1).toNat
    · rw [e]
    · rw [wyi_lo q (by omega), wyi_lo (L + 1).toNat (by omega)]
  · rw [if_neg h, wyi_lo q (by have := hq.resolve_right (fun e => h e.1); omega)]
theorem hasB_s {US : Int → Int32} {AU : Int → Int} {k au : Int} {j : Nat} : hasB US AU k au (j + 1) = true ↔ (hasB US AU k au j = true ∨ ((j : Int) ≠ k ∧ hb (mcB US k) (iI j) ∧ AU j = au)) := by
  show (hasB US AU k au j || decide ((j : Int) ≠ k ∧ hb (mcB US k) (iI j) ∧ AU j = au)) = true ↔ _
  rw [Bool.or_eq_true, decide_eq_true_iff]
theorem wyS {p L : Int} {B C2 : Int → Int} {q : Nat} (hp : 1 ≤ p) (h0 : p ≤ q) (h1 : (q : Int) ≤ L) (hC : ∀ y : Int, 0 ≤ y → y ≤ L → C2 y = wyi p B q y) {x : Int} (hx : x = (C2 q + C2 (q - p)) % 1000007) : ∀ y : Int, 0 ≤ y → y ≤ L → zup C2 q x y = wyi p B (q + 1) y := by
  intro y a b
  rw [wyi_s q h0]
  by_cases e : y = q
  · rw [e, zup_self, zup_self, hx, hC q (by omega) h1, hC (q - p) (by omega) (by omega)]
  · rw [zup_ne _ _ e, zup_ne _ _ e]
    exact hC y a b
