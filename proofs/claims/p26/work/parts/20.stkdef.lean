/-! THE STACKS, in words: cells C, starts S, span sp. -/
abbrev zTy (cI cZ cM _cL : ClassId) : List (ClassId × FieldType) := [(cI, .int), (cZ, .boolean), (cM, .object "PaperGuild$Model")]
def b2 (P : Prop) [Decidable P] : Int := if P then 1 else 0
/-- how many cells lie at p -/
def hgt (sp : Int) (S : Int → Int) (p : Int) : Int := if 0 ≤ p ∧ p < sp then S (p + 1) - S p else 0
def cin (sp : Int) (S C : Int → Int) (p h : Int) : Int := if h < 0 ∨ hgt sp S p ≤ h then -1 else C (S p + h)
/-- the starts are in order, and within the row -/
def stW (sp : Int) (S : Int → Int) : Prop := 0 ≤ sp ∧ sp ≤ 32 ∧ S 0 = 0 ∧ (∀ k, 0 ≤ k → k ≤ sp → 0 ≤ S k ∧ S k ≤ 32) ∧ (∀ k, 0 ≤ k → k < sp → S k ≤ S (k + 1))
theorem stW.hgt0 {sp : Int} {S : Int → Int} (h : stW sp S) (p : Int) : 0 ≤ hgt sp S p := by
  unfold hgt
  split
  · have := h.2.2.2.2 p (by omega) (by omega); omega
  · omega
theorem stW.hgt32 {sp : Int} {S : Int → Int} (h : stW sp S) (p : Int) : hgt sp S p ≤ 32 := by
  unfold hgt
  split
  · have h1 := h.2.2.2.1 p (by omega) (by omega)
    have h2 := h.2.2.2.1 (p + 1) (by omega) (by omega)
    omega
  · omega
/-- n cells put behind the first fl -/
def cpU (NC : Int → Int) (fl n : Int) (f : Int → Int) : Int → Int := fun j => if fl ≤ j ∧ j < fl + n then f (j - fl) else NC j
theorem cpU_0 (NC : Int → Int) (fl : Int) (f : Int → Int) : cpU NC fl 0 f = NC := by
  funext j
  unfold cpU
  rw [if_neg (by omega)]
theorem cpU_s (NC : Int → Int) (fl n : Int) (f : Int → Int) (hn : 0 ≤ n) (x : Int) (hx : x = f n) : zup (cpU NC fl n f) (fl + n) x = cpU NC fl (n + 1) f := by
  subst hx
  funext j
  unfold zup cpU
  by_cases h1 : j = fl + n
  · subst h1
    rw [if_pos rfl, if_pos (by omega), show fl + n - fl = n by omega]
  · rw [if_neg h1]
    by_cases h2 : fl ≤ j ∧ j < fl + n
    · rw [if_pos h2, if_pos (by omega)]
    · rw [if_neg h2, if_neg (by omega)]
abbrev skW (cI : ClassId) (a c s nc ns : Nat) (C S NC NS : Int → Int) (fl sp : Int) : va_W := [(a, .inr (3, [.ref c, .ref s, .ref nc, .ref ns, .int (iI fl), .int (iI sp)])), (c, ai cI 32 C), (s, ai cI 33 S), (nc, ai cI 32 NC), (ns, ai cI 33 NS)]
/-- the greatest height among the first n places -/
def mxH (sp : Int) (S : Int → Int) : Nat → Int
  | 0 => 0
  | n + 1 => max (mxH sp S n) (hgt sp S n)
theorem stW.mx {sp : Int} {S : Int → Int} (h : stW sp S) : ∀ n : Nat, 0 ≤ mxH sp S n ∧ mxH sp S n ≤ 32
  | 0 => by unfold mxH; omega
  | n + 1 => by
    have h1 := h.mx n
    have h2 := h.hgt0 n
    have h3 := h.hgt32 n
    unfold mxH
    omega
