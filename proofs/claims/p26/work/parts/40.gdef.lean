/-! THE GUILD, in words. -/
def xI : String := "java/lang/IndexOutOfBoundsException"
def xA : String := "java/lang/IllegalArgumentException"
def xS : String := "java/lang/IllegalStateException"
/-- which class is thrown, by a code -/
def pX (code : Int) (e1 e2 e3 : String) (Ex : String) : Prop := (code = 1 ∧ Ex = e1) ∨ (code = 2 ∧ Ex = e2) ∨ (code = 3 ∧ Ex = e3)
theorem pX1 {code : Int} {e1 e2 e3 : String} (h : code = 1) : pX code e1 e2 e3 e1 := Or.inl ⟨h, rfl⟩
theorem pX2 {code : Int} {e1 e2 e3 : String} (h : code = 2) : pX code e1 e2 e3 e2 := Or.inr (Or.inl ⟨h, rfl⟩)
theorem pX3 {code : Int} {e1 e2 e3 : String} (h : code = 3) : pX code e1 e2 e3 e3 := Or.inr (Or.inr ⟨h, rfl⟩)
/-- a model: nine cells, author, length, steps, kinds, places, sides, cells, starts, the next ones, filled, span -/
abbrev zM : Type := Nat × Nat × Nat × Nat × Nat × Nat × Nat × Nat × Nat × Int × Int × Int × (Int → Int) × (Int → Int) × (Int → Int) × (Int → Int) × (Int → Int) × (Int → Int) × (Int → Int) × Int × Int
def mdl (cI cZ : ClassId) (u : zM) : va_W := match u with
  | (m, ka, pa, la, a, c, s, nc, ns, au, len, n, K, P, F, C, S, NC, NS, fl, sp) => mdW cI cZ m ka pa la a c s nc ns au len n K P F C S NC NS fl sp
def mdA (u : zM) : Nat := u.1
def mau (u : zM) : Int := u.2.2.2.2.2.2.2.2.2.1
def mle (u : zM) : Int := u.2.2.2.2.2.2.2.2.2.2.1
def msn (u : zM) : Int := u.2.2.2.2.2.2.2.2.2.2.2.1
def mK (u : zM) : Int → Int := u.2.2.2.2.2.2.2.2.2.2.2.2.1
def mP (u : zM) : Int → Int := u.2.2.2.2.2.2.2.2.2.2.2.2.2.1
def mF (u : zM) : Int → Int := u.2.2.2.2.2.2.2.2.2.2.2.2.2.2.1
/-- a model is as it should be -/
def mdO (u : zM) : Prop := match u with
  | (_, _, _, _, _, _, _, _, _, au, len, n, K, P, F, C, S, _, _, _, sp) => (0 ≤ au ∧ au ≤ 9) ∧ (2 ≤ len ∧ len ≤ 32) ∧ (0 ≤ n ∧ n ≤ 10) ∧ stV len n P F ∧ sp = gS len P n.toNat ∧ geo len sp S C (gP len P F n.toNat) (gH len P F n.toNat) ∧ ∀ j : Nat, (j : Int) < n → 0 ≤ K j ∧ K j ≤ 7
/-- the cells of all models -/
def mW (cI cZ : ClassId) (μ : Nat → zM) (n : Nat) : va_W := (List.range n).flatMap (fun i => mdl cI cZ (μ i))
/-- .. but one -/
def mR (cI cZ : ClassId) (μ : Nat → zM) (n k : Nat) : va_W := ((List.range n).erase k).flatMap (fun i => mdl cI cZ (μ i))
theorem mW_open (cI cZ : ClassId) (μ : Nat → zM) {n k : Nat} (hk : k < n) : (mW cI cZ μ n).Perm (mdl cI cZ (μ k) ++ mR cI cZ μ n k) := by
  have h := (List.perm_cons_erase (List.mem_range.mpr hk)).flatMap_right (fun i => mdl cI cZ (μ i))
  simpa [mW, mR] using h
theorem fm_congr {α β : Type} {l : List α} {f g : α → List β} (h : ∀ a ∈ l, f a = g a) : l.flatMap f = l.flatMap g := by
  rw [List.flatMap_def, List.flatMap_def, List.map_congr_left h]
theorem mR_up (cI cZ : ClassId) (μ : Nat → zM) (n k : Nat) (u : zM) : mR cI cZ (va_up μ k u) n k = mR cI cZ μ n k := by
  unfold mR
  refine fm_congr fun i hi => ?_
  have hne : i ≠ k := fun e => by
    subst e
    exact absurd hi (List.Nodup.not_mem_erase List.nodup_range)
  rw [va_up_ne _ _ hne]
theorem mW_close (cI cZ : ClassId) (μ : Nat → zM) {n k : Nat} (hk : k < n) (u : zM) : (mdl cI cZ u ++ mR cI cZ μ n k).Perm (mW cI cZ (va_up μ k u) n) := by
  have h := mW_open cI cZ (va_up μ k u) hk
  rw [mR_up, va_up_self] at h
  exact h.symm
theorem mW_add (cI cZ : ClassId) (μ : Nat → zM) (n : Nat) (u : zM) : mW cI cZ (va_up μ n u) (n + 1) = mW cI cZ μ n ++ mdl cI cZ u := by
  unfold mW
  rw [List.range_succ, List.flatMap_append, List.flatMap_singleton, va_up_self]
  refine congrArg (· ++ mdl cI cZ u) (fm_congr fun i hi => ?_)
  have := List.mem_range.mp hi
  rw [va_up_ne _ _ (by omega)]
/-- where the models are -/
def gmF (μ : Nat → zM) (n : Nat) : Int → Option Nat := fun i => if 0 ≤ i ∧ i < n then some (mdA (μ i.toNat)) else none
theorem gmF_up (μ : Nat → zM) (n k : Nat) (u : zM) (h : mdA u = mdA (μ k)) : gmF (va_up μ k u) n = gmF μ n := by
  funext i
  unfold gmF
  by_cases e : i.toNat = k
  · rw [e, va_up_self, h]
  · rw [va_up_ne _ _ e]
/-- the guild is as it should be -/
def gdO (n : Nat) (μ : Nat → zM) (L : Int) : Prop := n ≤ 8 ∧ (∀ i : Nat, i < n → mdO (μ i)) ∧ 0 ≤ L ∧ L ≤ 200
abbrev gd10 (cI cM : ClassId) (h nd kn gm us fo fh mi fw wt : Nat) (n : Nat) (ND KN US : Int → Int32) (GM : Int → Option Nat) (x t s0 : Int) (FH : Int → Int) (L : Int) (d : Int32) (A B : Int → Int) : va_W :=
  [(h, .inr (4, [.ref nd, .ref kn, .ref gm, .ref us, .int (iI n), .ref fo, .ref fh, .ref mi])), (nd, ar cI 8 ND), (kn, ar cI 6 KN), (gm, rr cM 8 GM), (us, ar cI 8 US), (fo, .inr (0, [.int (iI x), .int (iI t), .int (iI s0)])), (fh, ai cI 32 FH), (mi, .inr (1, [.int (iI L), .int d, .ref fw, .ref wt])), (fw, ai cI 201 A), (wt, ai cI 201 B)]
abbrev gdW (cI cZ cM : ClassId) (h nd kn gm us fo fh mi fw wt : Nat) (n : Nat) (ND KN US : Int → Int32) (μ : Nat → zM) (x t s0 : Int) (FH : Int → Int) (L : Int) (d : Int32) (A B : Int → Int) : va_W := gd10 cI cM h nd kn gm us fo fh mi fw wt n ND KN US (gmF μ n) x t s0 FH L d A B ++ mW cI cZ μ n
/-- the authors' models, as bits, among the first j -/
def moB (μ : Nat → zM) (au : Int) : Nat → Int32
  | 0 => iI 0
  | j + 1 => if mau (μ j) = au then moB μ au j ||| (iI 1 <<< (iI j &&& 31)) else moB μ au j
/-- the models that count for one -/
def mcB (US : Int → Int32) (i : Int) : Int32 := rch US (iI (-1)) 8 ((iI 1 <<< (iI i &&& 31)) &&& iI (-1))
/-- the kinds that count, among the first j models, for those in the set b -/
def kcB (μ : Nat → zM) (b : Int32) : Nat → Int32
  | 0 => iI 0
  | j + 1 => if hb b (iI j) then kcB μ b j ||| okb (mK (μ j)) (msn (μ j)).toNat else kcB μ b j
/-- the credit, among the first j models -/
def crB (US : Int → Int32) (ob : Int32) : Nat → Int
  | 0 => 0
  | j + 1 => if ¬ hb ob (iI j) ∧ ¬ (mcB US j &&& ob) = 0 then crB US ob j + 1 else crB US ob j
theorem crB_r (US : Int → Int32) (ob : Int32) : ∀ j : Nat, 0 ≤ crB US ob j ∧ crB US ob j ≤ j
  | 0 => by unfold crB; omega
  | j + 1 => by
    have h := crB_r US ob j
    unfold crB
    split <;> omega
