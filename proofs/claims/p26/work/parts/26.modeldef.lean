/-! THE MODELS, in words. -/
abbrev mdW (cI cZ : ClassId) (m ka pa la a c s nc ns : Nat) (au len n : Int) (K P F C S NC NS : Int → Int) (fl sp : Int) : va_W := (m, .inr (2, [.int (iI au), .int (iI len), .ref ka, .ref pa, .ref la, .int (iI n), .ref a])) :: (ka, ai cI 10 K) :: (pa, ai cI 10 P) :: (la, ai cZ 10 F) :: skW cI a c s nc ns C S NC NS fl sp
/-- the kinds of the first n steps, as bits -/
def okb (K : Int → Int) : Nat → Int32
  | 0 => iI 0
  | n + 1 => okb K n ||| (iI 1 <<< (iI (K n) &&& 31))
theorem vn_b {f : Int} (h : f = 0 ∨ f = 1) : vp_nar .boolean (iI f) = iI f := by
  rcases h with rfl | rfl <;> decide
