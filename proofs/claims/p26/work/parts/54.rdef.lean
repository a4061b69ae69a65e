/-! THE REFERENCE, in words. -/
abbrev rfW (cI : ClassId) (r e1 e2 e3 e4 e5 e6 e7 e8 e9 e10 e11 e12 e13 e14 : Nat) (n : Nat) (L : Int) (d : Int32) (sz mo th : Int) (ND US KN : Int → Int32) (AU LE SN KK AT LF PL HE TU MA CU : Int → Int) : va_W :=
  [(r, .inr (5, [.ref e1, .int (iI n), .ref e2, .ref e3, .ref e4, .ref e5, .ref e6, .ref e7, .ref e8, .int (iI L), .int d, .ref e9, .ref e10, .ref e11, .ref e12, .ref e13, .int (iI sz), .int (iI mo), .ref e14, .int (iI th)])), (e1, ar cI 8 ND), (e2, ai cI 8 AU), (e3, ai cI 8 LE), (e4, ai cI 8 SN), (e5, ar cI 8 US), (e6, ai cI 80 KK), (e7, ai cI 80 AT), (e8, ai cI 80 LF), (e9, ar cI 6 KN), (e10, ai cI 32 PL), (e11, ai cI 32 HE), (e12, ai cI 32 TU), (e13, ai cI 32 MA), (e14, ai cI 201 CU)]
/-- a model as the reference has it -/
def rv (AU LE SN KK AT LF : Int → Int) (i : Int) : zM := (0, 0, 0, 0, 0, 0, 0, 0, 0, AU i, LE i, SN i, fun j => KK (10 * i + j), fun j => AT (10 * i + j), fun j => LF (10 * i + j), fun _ => 0, fun _ => 0, fun _ => 0, fun _ => 0, 0, 0)
theorem iI0 : iI 0 = 0 := by decide
theorem iIm : iI (-1) = -1 := by decide
theorem and1 (z : Int32) : z &&& iI 1 = iI 1 ∨ z &&& iI 1 = 0 := by
  have h : z.toBitVec &&& 1#32 = 1#32 ∨ z.toBitVec &&& 1#32 = 0#32 := by
    rw [BitVec.and_one_eq_setWidth_ofBool_getLsbD]
    cases z.toBitVec.getLsbD 0
    · right; rfl
    · left; rfl
  rcases h with h | h
  · left
    exact Int32.toBitVec_inj.mp (by rw [Int32.toBitVec_and]; exact h)
  · right
    exact Int32.toBitVec_inj.mp (by rw [Int32.toBitVec_and]; exact h)
theorem hb1 {x y : Int32} : (x >>> (y &&& 31)) &&& iI 1 = iI 1 ↔ hb x y := by
  constructor
  · intro h q
    rw [h] at q
    exact absurd q (by decide)
  · intro h
    exact (and1 _).resolve_right h
theorem rcrT {f : Int → Int32} {w : Int32} {j : Nat} {B : Int32} (h : hb (rcr f w j B) (iI j)) : rcr f w j B ||| (f j &&& w) = rcr f w (j + 1) B := by
  show _ = (if hb (rcr f w j B) (iI j) then rcr f w j B ||| (f j &&& w) else rcr f w j B)
  rw [if_pos h]
theorem rcrF {f : Int → Int32} {w : Int32} {j : Nat} {B : Int32} (h : ¬ hb (rcr f w j B) (iI j)) : rcr f w j B = rcr f w (j + 1) B := by
  show _ = (if hb (rcr f w j B) (iI j) then rcr f w j B ||| (f j &&& w) else rcr f w j B)
  rw [if_neg h]
theorem rcrT1 {f : Int → Int32} {j : Nat} {B : Int32} (h : hb (rcr f (iI (-1)) j B) (iI j)) : rcr f (iI (-1)) j B ||| f j = rcr f (iI (-1)) (j + 1) B := by
  rw [← rcrT h, iIm, Int32.and_neg_one]
theorem rcrF1 {f : Int → Int32} {w : Int32} {j : Nat} {B : Int32} (h : ¬ hb (rcr f w j B) (iI j)) : rcr f w j B ||| iI 0 = rcr f w (j + 1) B := by
  rw [← rcrF h, iI0, Int32.or_zero]
/-- rounds over the first m -/
def rcm (f : Int → Int32) (m : Nat) : Nat → Int32 → Int32
  | 0, b => b
  | n + 1, b => rcr f (iI (-1)) m (rcm f m n b)
theorem rcr_lo {f : Int → Int32} {w : Int32} {m : Nat} (hz : ∀ k : Int, m ≤ k → k < 8 → f k = 0) (B : Int32) : ∀ j : Nat, m + j ≤ 8 → rcr f w (m + j) B = rcr f w m B
  | 0, _ => rfl
  | j + 1, h => by
    have h1 := rcr_lo hz (w := w) B j (by omega)
    show (if hb (rcr f w (m + j) B) (iI ((m + j : Nat) : Int)) then rcr f w (m + j) B ||| (f ((m + j : Nat) : Int) &&& w) else rcr f w (m + j) B) = _
    rw [hz ((m + j : Nat) : Int) (by omega) (by omega), Int32.zero_and, Int32.or_zero, h1]
    split <;> rfl
theorem rcm_8 {f : Int → Int32} {m : Nat} (hm : m ≤ 8) (hz : ∀ k : Int, m ≤ k → k < 8 → f k = 0) (B : Int32) : ∀ k : Nat, rcm f m k B = rch f (iI (-1)) k B
  | 0 => rfl
  | k + 1 => by
    show rcr f (iI (-1)) m (rcm f m k B) = rcr f (iI (-1)) 8 (rch f (iI (-1)) k B)
    rw [rcm_8 hm hz B k]
    have h := rcr_lo hz (w := iI (-1)) (rch f (iI (-1)) k B) (8 - m) (by omega)
    rw [show m + (8 - m) = 8 by omega] at h
    exact h.symm
theorem rcm_mc {US : Int → Int32} {n : Nat} (hm : n ≤ 8) (hz : ∀ k : Int, n ≤ k → k < 8 → US k = 0) (i : Int) : rcm US n 8 (iI 1 <<< (iI i &&& 31)) = mcB US i := by
  unfold mcB
  rw [rcm_8 hm hz, iIm, Int32.and_neg_one]
theorem cnt_c {A B : Int → Int} {k : Int} : ∀ n : Nat, (∀ q : Int, 0 ≤ q → q < n → A q = B q) → cnt A k n = cnt B k n
  | 0, _ => rfl
  | n + 1, h => by
    unfold cnt
    rw [cnt_c n (fun q a b => h q a (by omega)), h n (by omega) (by omega)]
theorem mxR_c {A B : Int → Int} : ∀ n : Nat, (∀ q : Int, 0 ≤ q → q < n → A q = B q) → mxR A n = mxR B n
  | 0, _ => rfl
  | n + 1, h => by
    unfold mxR
    rw [mxR_c n (fun q a b => h q a (by omega)), cnt_c (n + 1) (fun q a b => h q a (by omega)), h n (by omega) (by omega)]
theorem hs_c {f p sp len : Int} {A B G H : Int → Int} (hc : ∀ q, 0 ≤ q → q < len → A q = B q) {q : Int} (h0 : 0 ≤ q) (h1 : q < len) (hh : G q = H q) : hs f p sp len A G q = hs f p sp len B H q := by
  have e : ∀ k, cnt A k len.toNat = cnt B k len.toNat := fun k => cnt_c _ (fun q a b => hc q a (by omega))
  unfold hs
  rw [hc q h0 h1, hh, e, e]
/-- the most layers that ever lay -/
def mst (len : Int) (P F : Int → Int) : Nat → Int
  | 0 => max 0 (mxR (gP len P F 0) len.toNat)
  | j + 1 => max (mst len P F j) (mxR (gP len P F (j + 1)) len.toNat)
theorem mst_r {len : Int} {P F : Int → Int} (h : 0 ≤ len) : ∀ j : Nat, 0 ≤ mst len P F j ∧ mst len P F j ≤ len
  | 0 => by
    have h1 := mxR_r (Pl := gP len P F 0) len.toNat
    unfold mst
    omega
  | j + 1 => by
    have h1 := mst_r (P := P) (F := F) h j
    have h2 := mxR_r (Pl := gP len P F (j + 1)) len.toNat
    unfold mst
    omega
theorem cntS (Pl : Int → Int) (k : Int) (n : Nat) : cnt Pl k (n + 1) = cnt Pl k n + (if Pl (n : Int) = k then 1 else 0) := rfl
/-- setNeeds, as the reference sees it -/
def rSN (ND : Int → Int32) (k w : Int) : Int := if ¬ (0 ≤ k ∧ k < 8) then 1 else if ¬ (0 ≤ w ∧ w ≤ 255) then 2 else if hb (rch (zup ND k (iI w)) (iI (-1)) 8 (iI w)) (iI k) then 2 else 0
theorem zup_back {α : Type} (f : Int → α) (k : Int) (x : α) : zup (zup f k x) k (f k) = f := by
  funext j
  unfold zup
  by_cases h : j = k
  · rw [if_pos h, h]
  · rw [if_neg h, if_neg h]
/-- an author's model k has credit -/
def hasB (US : Int → Int32) (AU : Int → Int) (k au : Int) : Nat → Bool
  | 0 => false
  | j + 1 => hasB US AU k au j || decide ((j : Int) ≠ k ∧ hb (mcB US k) (iI j) ∧ AU j = au)
/-- the credit, as the reference counts it -/
def rCR (US : Int → Int32) (AU : Int → Int) (n : Nat) (au : Int) : Nat → Int
  | 0 => 0
  | k + 1 => rCR US AU n au k + (if hasB US AU k au n = true ∧ AU k ≠ au then 1 else 0)
theorem rCR_r (US : Int → Int32) (AU : Int → Int) (n : Nat) (au : Int) : ∀ k : Nat, 0 ≤ rCR US AU n au k ∧ rCR US AU n au k ≤ k
  | 0 => by unfold rCR; omega
  | k + 1 => by
    have h := rCR_r US AU n au k
    unfold rCR
    split <;> omega
