/-! THE MILL AND THE COUNT OF BITS, further words. -/
theorem fwb_s (d : Int32) (A : Int → Int) (x : Int) (n : Nat) (bv : Int) (hbv : bv = if hb d (iI n) then A (x - (n + 1)) else -1) : fwb d A x (n + 1) = if 0 ≤ bv ∧ (fwb d A x n < 0 ∨ bv + 1 < fwb d A x n) then bv + 1 else fwb d A x n := by
  subst hbv
  rfl
/-- the greatest length up to n that is cut without a rest -/
def crs (T : Int → Int) : Nat → Int
  | 0 => 0
  | n + 1 => if T (n + 1) < 0 then crs T n else n + 1
theorem crs_r (T : Int → Int) : ∀ n : Nat, 0 ≤ crs T n ∧ crs T n ≤ n
  | 0 => by unfold crs; omega
  | n + 1 => by
    have h := crs_r T n
    unfold crs
    split <;> omega
theorem wyi_lo {p : Int} {B : Int → Int} : ∀ n : Nat, (n : Int) ≤ p → wyi p B n = B
  | 0, _ => rfl
  | n + 1, h => by
    have h1 := wyi_lo (p := p) (B := B) n (by omega)
    unfold wyi
    rw [if_pos (by omega), h1]
theorem wyi_s {p : Int} {B : Int → Int} (n : Nat) (h : p ≤ n) : wyi p B (n + 1) = zup (wyi p B n) n ((wyi p B n n + wyi p B n (n - p)) % 1000007) := by
  have e : wyi p B (n + 1) = if (n : Int) < p then wyi p B n else zup (wyi p B n) n ((wyi p B n n + wyi p B n (n - p)) % 1000007) := rfl
  rw [e, if_neg (by omega)]
theorem wyi_q {p m : Int} {B : Int → Int} (hp : 1 ≤ p) (h : ∀ y, 0 ≤ y → y < m → 0 ≤ B y ∧ B y < 1000007) : ∀ (n : Nat) (y : Int), 0 ≤ y → y < m → 0 ≤ wyi p B n y ∧ wyi p B n y < 1000007
  | 0, y, a, b => h y a b
  | n + 1, y, a, b => by
    have h1 := wyi_q hp h n
    unfold wyi
    split
    · exact h1 y a b
    · unfold zup
      split
      · exact ⟨Int.emod_nonneg _ (by omega), Int.emod_lt_of_pos _ (by omega)⟩
      · exact h1 y a b
theorem wyi_c {p m : Int} {B B2 : Int → Int} (hp : 1 ≤ p) (h : ∀ y, 0 ≤ y → y < m → B y = B2 y) : ∀ (n : Nat), (n : Int) ≤ m → ∀ y : Int, 0 ≤ y → y < m → wyi p B n y = wyi p B2 n y
  | 0, _, y, a, b => h y a b
  | n + 1, hn, y, a, b => by
    have h1 := wyi_c hp h n (by omega)
    by_cases hl : (n : Int) < p
    · have e1 : wyi p B (n + 1) = wyi p B n := by
        have e : wyi p B (n + 1) = if (n : Int) < p then wyi p B n else zup (wyi p B n) n ((wyi p B n n + wyi p B n (n - p)) % 1000007) := rfl
        rw [e, if_pos hl]
      have e2 : wyi p B2 (n + 1) = wyi p B2 n := by
        have e : wyi p B2 (n + 1) = if (n : Int) < p then wyi p B2 n else zup (wyi p B2 n) n ((wyi p B2 n n + wyi p B2 n (n - p)) % 1000007) := rfl
        rw [e, if_pos hl]
      rw [e1, e2]
      exact h1 y a b
    · rw [wyi_s n (by omega), wyi_s n (by omega)]
      unfold zup
      split
      · rw [h1 n (by omega) (by omega), h1 (n - p) (by omega) (by omega)]
      · exact h1 y a b
abbrev miW (cI : ClassId) (mi fw wt : Nat) (L : Int) (d : Int32) (A B : Int → Int) : va_W := [(mi, .inr (1, [.int (iI L), .int d, .ref fw, .ref wt])), (fw, ai cI 201 A), (wt, ai cI 201 B)]
def bc1 (x : Int32) : Int32 := x - (((x.toUInt32 >>> ((iI 1).toUInt32 &&& Int32.toUInt32 31)).toInt32) &&& (iI 1431655765))
def bc2 (x : Int32) : Int32 := (x &&& (iI 858993459)) + (((x.toUInt32 >>> ((iI 2).toUInt32 &&& Int32.toUInt32 31)).toInt32) &&& (iI 858993459))
def bc3 (x : Int32) : Int32 := (x + ((x.toUInt32 >>> ((iI 4).toUInt32 &&& Int32.toUInt32 31)).toInt32)) &&& (iI 252645135)
def bc4 (x : Int32) : Int32 := x + ((x.toUInt32 >>> ((iI 8).toUInt32 &&& Int32.toUInt32 31)).toInt32)
def bc5 (x : Int32) : Int32 := x + ((x.toUInt32 >>> ((iI 16).toUInt32 &&& Int32.toUInt32 31)).toInt32)
/-- how many bits, as the JDK counts them -/
def bcE (x : Int32) : Int32 := bc5 (bc4 (bc3 (bc2 (bc1 x)))) &&& (iI 63)
/-- how many of the first n bits -/
def bts (x : Int32) : Nat → Int32
  | 0 => iI 0
  | n + 1 => bts x n + ((x >>> (iI n &&& 31)) &&& iI 1)
theorem bc_tab : ∀ k : Fin 256, bcE (iI (k.val : Int)) = bts (iI (k.val : Int)) 8 := by decide +kernel
theorem bc_bts {z : Int} (h0 : 0 ≤ z) (h1 : z < 256) : bcE (iI z) = bts (iI z) 8 := by
  have := bc_tab ⟨z.toNat, by omega⟩
  rw [show ((z.toNat : Nat) : Int) = z by omega] at this
  exact this
