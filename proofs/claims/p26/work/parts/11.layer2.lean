/-! THE LAYER, second part: fields, arrays, new cells. -/
section ZH
variable {E : zE} {Q : State → Prop} {cells slots : Nat} {ws ws' : va_W} {lv : List (Option Value)} {pc : Nat} {st : List Value} {cc : ByteArray} {own : String} {Ts : List Cond} {rm : Room}
theorem z_get (C : zC E cc own Ts rm) {Cn : String} {T : u_T} {N ci index : Nat} {a : Nat} {fs : List Value} {v : Value} (hin : ∀ w ∈ u_ws Cn T N, w ∈ Ts) (q0 : Nat) (he : ws[q0]? = some (a, .inr (ci, fs))) (hc : vwCl[ci]? = some (Cn, T, N)) (k : Nat) (hk : k < N) (hlink : Cond.fieldLink own index (T k).1 (T k).2.1 (T k).2.2.1 ∈ Ts) (hv : fs[k]? = some v) (hdg : decode cc pc = .ok (.getfield index, 3)) (kk : zG E Q cells slots ws lv (pc + 3) (v :: st)) : zG E Q cells slots ws lv pc (.ref a :: st) := by
  obtain ⟨p, l, e, R, s, m, args, below, meth, c, D, tys, A, nL⟩ := E
  intro H locs ls hP hD hS hL
  exact va_get C.1 C.2.1 C.2.2.2.2.1 hin C.2.2.2.1 C.2.2.2.2.2.1 hP q0 he hc k hk (C.2.2.2.2.1 _ hlink) (fun _ h => h) hv hdg (kk H locs ls hP hD hS hL)
theorem z_put (C : zC E cc own Ts rm) {Cn : String} {T : u_T} {N ci index : Nat} {a : Nat} {fs : List Value} {v : Value} {ty : FieldType} {ty0 : Nat → FieldType} (hin : ∀ w ∈ u_ws Cn T N, w ∈ Ts) (hty : ∀ k, k < N → parseFieldDescriptor (T k).2.2.1 = some (ty0 k)) (hnm : ∀ a, a < N → ∀ b, b < N → a ≠ b → (T a).2.1 ≠ (T b).2.1) (q0 : Nat) (he : ws[q0]? = some (a, .inr (ci, fs))) (hc : vwCl[ci]? = some (Cn, T, N)) (k : Nat) (hk : k < N) (hlink : Cond.fieldLink own index (T k).1 (T k).2.1 (T k).2.2.1 ∈ Ts) (hfin : (T k).2.2.2 = false) (hd : parseFieldDescriptor (T k).2.2.1 = some ty) (hn : narrow ty v = v) (hfit : fits ty v = true) (hl : k < fs.length) (hs : ws.set q0 (a, .inr (ci, fs.set k v)) = ws') (hdg : decode cc pc = .ok (.putfield index, 3)) (kk : zG E Q cells slots ws' lv (pc + 3) st) : zG E Q cells slots ws lv pc (v :: .ref a :: st) := by
  obtain ⟨p, l, e, R, s, m, args, below, meth, c, D, tys, A, nL⟩ := E
  intro H locs ls hP hD hS hL
  subst hs
  exact va_put C.1 C.2.1 C.2.2.2.2.1 hin ty0 hty hnm C.2.2.2.1 C.2.2.2.2.2.1 hP hD hS q0 he hc k hk (C.2.2.2.2.1 _ hlink) (fun _ h => h) hfin hd hn hfit hl hdg (fun H1 locs1 hP hD hS => kk H1 locs1 ls hP hD hS hL)
/-- in a constructor: E's method is <init> -/
def zInit (E : zE) : Prop :=
  match E with
  | (_, _, _, _, _, _, _, _, meth, _, _, _, _, _) => meth.name = "<init>"
theorem z_putF (C : zC E cc own Ts rm) (hI : zInit E) {Cn : String} {T : u_T} {N ci index : Nat} {a : Nat} {fs : List Value} {v : Value} {ty : FieldType} {ty0 : Nat → FieldType} (hin : ∀ w ∈ u_ws Cn T N, w ∈ Ts) (hty : ∀ k, k < N → parseFieldDescriptor (T k).2.2.1 = some (ty0 k)) (hnm : ∀ a, a < N → ∀ b, b < N → a ≠ b → (T a).2.1 ≠ (T b).2.1) (q0 : Nat) (he : ws[q0]? = some (a, .inr (ci, fs))) (hc : vwCl[ci]? = some (Cn, T, N)) (k : Nat) (hk : k < N) (hlink : Cond.fieldLink own index (T k).1 (T k).2.1 (T k).2.2.1 ∈ Ts) (hfin : (T k).2.2.2 = true) (hdecl : (T k).1 = own) (hd : parseFieldDescriptor (T k).2.2.1 = some ty) (hn : narrow ty v = v) (hfit : fits ty v = true) (hl : k < fs.length) (hs : ws.set q0 (a, .inr (ci, fs.set k v)) = ws') (hdg : decode cc pc = .ok (.putfield index, 3)) (kk : zG E Q cells slots ws' lv (pc + 3) st) : zG E Q cells slots ws lv pc (v :: .ref a :: st) := by
  obtain ⟨p, l, e, R, s, m, args, below, meth, c, D, tys, A, nL⟩ := E
  intro H locs ls hP hD hS hL
  subst hs
  exact va_putF C.1 C.2.1 C.2.2.2.2.1 hin ty0 hty hnm C.2.2.2.1 C.2.2.2.2.2.1 hP hD hS q0 he hc k hk (C.2.2.2.2.1 _ hlink) (fun _ h => h) hfin hI hdecl hd hn hfit hl hdg (fun H1 locs1 hP hD hS => kk H1 locs1 ls hP hD hS hL)
/-- whole numbers as machine numbers -/
def iI (z : Int) : Int32 := Int32.ofInt z
/-- in an int's range -/
abbrev iR (z : Int) : Prop := -2147483648 ≤ z ∧ z < 2147483648
theorem iI_toInt {z : Int} (h : iR z) : (iI z).toInt = z := by
  obtain ⟨h1, h2⟩ := h
  exact Int32.toInt_ofInt_of_le (by omega) (by omega)
theorem iI_of (x : Int32) : x = iI x.toInt := (Int32.ofInt_toInt x).symm
theorem iI_rng (x : Int32) : iR x.toInt := ⟨Int32.le_toInt x, Int32.toInt_lt x⟩
theorem iI_clamp {z : Int} (h0 : 0 ≤ z) (h : z < 2147483648) : ((iI z).toNatClampNeg : Int) = z := by
  show (((iI z).toInt.toNat : Nat) : Int) = z
  rw [iI_toInt ⟨by omega, h⟩]
  omega
theorem iI_in {z : Int} {n : Nat} (h0 : 0 ≤ z) (h : z < n) (hn : n ≤ 2147483647) : vp_in (iI z) n := by
  rw [vp_in_iff, iI_toInt ⟨by omega, by omega⟩]
  omega
/-- an array of ints, its places numbered by whole numbers -/
def ar (cA : ClassId) (n : Nat) (f : Int → Int32) : va_E := .inl (cA, (n, .inl (fun k : Nat => f (k : Int))))
/-- an array of references -/
def rr (cA : ClassId) (n : Nat) (f : Int → Option Nat) : va_E := .inl (cA, (n, .inr (.inr (.inr (.inr (fun k : Nat => f (k : Int)))))))
/-- an array of longs -/
def lr (cA : ClassId) (n : Nat) (f : Int → Int64) : va_E := .inl (cA, (n, .inr (.inl (fun k : Nat => f (k : Int)))))
def zup {α : Type} (f : Int → α) (z : Int) (x : α) : Int → α := fun j => if j = z then x else f j
theorem zup_self {α : Type} (f : Int → α) (z : Int) (x : α) : zup f z x z = x := if_pos rfl
theorem zup_ne {α : Type} (f : Int → α) {z j : Int} (x : α) (h : j ≠ z) : zup f z x j = f j := if_neg h
theorem zup_upd (f : Int → Int32) {z : Int} (h0 : 0 ≤ z) (h : z < 2147483648) (x : Int32) : upd (fun k : Nat => f (k : Int)) (iI z).toNatClampNeg x = fun k : Nat => zup f z x (k : Int) := by
  funext k
  have hc := iI_clamp h0 h
  show (if k = (iI z).toNatClampNeg then x else f (k : Int)) = if (k : Int) = z then x else f (k : Int)
  by_cases hk : k = (iI z).toNatClampNeg
  · rw [if_pos hk, if_pos (by omega)]
  · rw [if_neg hk, if_neg (by omega)]
theorem zup_vaup {α : Type} (f : Int → α) {z : Int} (h0 : 0 ≤ z) (h : z < 2147483648) (x : α) : va_up (fun k : Nat => f (k : Int)) (iI z).toNatClampNeg x = fun k : Nat => zup f z x (k : Int) := by
  funext k
  have hc := iI_clamp h0 h
  show (if k = (iI z).toNatClampNeg then x else f (k : Int)) = if (k : Int) = z then x else f (k : Int)
  by_cases hk : k = (iI z).toNatClampNeg
  · rw [if_pos hk, if_pos (by omega)]
  · rw [if_neg hk, if_neg (by omega)]
theorem z_iaload (C : zC E cc own Ts rm) {a n t0 : Nat} {cA : ClassId} {f : Int → Int32} {z : Int} (q0 : Nat) (he : ws[q0]? = some (a, ar cA n f)) (ht : zT E t0 cA .int) (h0 : 0 ≤ z) (h : z < n) (hn : n ≤ 2147483647) (hdg : decode cc pc = .ok (.iaload, 1)) (kk : zG E Q cells slots ws lv (pc + 1) (.int (f z) :: st)) : zG E Q cells slots ws lv pc (.int (iI z) :: .ref a :: st) := by
  obtain ⟨p, l, e, R, s, m, args, below, meth, c, D, tys, A, nL⟩ := E
  intro H locs ls hP hD hS hL
  refine va_iald C.1 C.2.1 C.2.2.2.2.2.1 hP q0 t0 he ht (iI_in h0 h hn) hdg ?_
  rw [iI_clamp h0 (by omega)]
  exact kk H locs ls hP hD hS hL
theorem z_baload (C : zC E cc own Ts rm) {a n t0 : Nat} {cA : ClassId} {f : Int → Int32} {z : Int} (q0 : Nat) (he : ws[q0]? = some (a, ar cA n f)) (ht : zT E t0 cA .boolean) (h0 : 0 ≤ z) (h : z < n) (hn : n ≤ 2147483647) (hdg : decode cc pc = .ok (.baload, 1)) (kk : zG E Q cells slots ws lv (pc + 1) (.int (f z) :: st)) : zG E Q cells slots ws lv pc (.int (iI z) :: .ref a :: st) := by
  obtain ⟨p, l, e, R, s, m, args, below, meth, c, D, tys, A, nL⟩ := E
  intro H locs ls hP hD hS hL
  refine va_zald C.1 C.2.1 C.2.2.2.2.2.1 hP q0 t0 he ht (iI_in h0 h hn) hdg ?_
  rw [iI_clamp h0 (by omega)]
  exact kk H locs ls hP hD hS hL
theorem z_laload (C : zC E cc own Ts rm) {a n t0 : Nat} {cA : ClassId} {f : Int → Int64} {z : Int} (q0 : Nat) (he : ws[q0]? = some (a, lr cA n f)) (ht : zT E t0 cA .long) (h0 : 0 ≤ z) (h : z < n) (hn : n ≤ 2147483647) (hdg : decode cc pc = .ok (.laload, 1)) (kk : zG E Q cells slots ws lv (pc + 1) (.long (f z) :: st)) : zG E Q cells slots ws lv pc (.int (iI z) :: .ref a :: st) := by
  obtain ⟨p, l, e, R, s, m, args, below, meth, c, D, tys, A, nL⟩ := E
  intro H locs ls hP hD hS hL
  refine va_lald C.1 C.2.1 C.2.2.2.2.2.1 hP q0 t0 he ht (iI_in h0 h hn) hdg ?_
  rw [iI_clamp h0 (by omega)]
  exact kk H locs ls hP hD hS hL
theorem z_aaload (C : zC E cc own Ts rm) {a n t0 : Nat} {cA : ClassId} {Cn : String} {f : Int → Option Nat} {z : Int} (q0 : Nat) (he : ws[q0]? = some (a, rr cA n f)) (ht : zT E t0 cA (.object Cn)) (h0 : 0 ≤ z) (h : z < n) (hn : n ≤ 2147483647) (hdg : decode cc pc = .ok (.aaload, 1)) (kk : zG E Q cells slots ws lv (pc + 1) (va_rf (f z) :: st)) : zG E Q cells slots ws lv pc (.int (iI z) :: .ref a :: st) := by
  obtain ⟨p, l, e, R, s, m, args, below, meth, c, D, tys, A, nL⟩ := E
  intro H locs ls hP hD hS hL
  refine va_aldq C.1 C.2.1 C.2.2.2.2.2.1 hP q0 t0 he ht (iI_in h0 h hn) hdg ?_
  rw [iI_clamp h0 (by omega)]
  exact kk H locs ls hP hD hS hL
theorem z_iastore (C : zC E cc own Ts rm) {a n t0 : Nat} {cA : ClassId} {f : Int → Int32} {z : Int} {x : Int32} (q0 : Nat) (he : ws[q0]? = some (a, ar cA n f)) (ht : zT E t0 cA .int) (h0 : 0 ≤ z) (h : z < n) (hn : n ≤ 2147483647) (hs : ws.set q0 (a, ar cA n (zup f z x)) = ws') (hdg : decode cc pc = .ok (.iastore, 1)) (kk : zG E Q cells slots ws' lv (pc + 1) st) : zG E Q cells slots ws lv pc (.int x :: .int (iI z) :: .ref a :: st) := by
  obtain ⟨p, l, e, R, s, m, args, below, meth, c, D, tys, A, nL⟩ := E
  intro H locs ls hP hD hS hL
  subst hs
  refine va_iast C.1 C.2.1 C.2.2.2.2.2.1 hP hD hS q0 t0 he ht (iI_in h0 h hn) hdg ?_
  rw [zup_upd f h0 (by omega)]
  exact fun H1 locs1 hP hD hS => kk H1 locs1 ls hP hD hS hL
theorem z_bastore (C : zC E cc own Ts rm) {a n t0 : Nat} {cA : ClassId} {f : Int → Int32} {z : Int} {x : Int32} (q0 : Nat) (he : ws[q0]? = some (a, ar cA n f)) (ht : zT E t0 cA .boolean) (h0 : 0 ≤ z) (h : z < n) (hn : n ≤ 2147483647) (hx : vp_nar .boolean x = x) (hs : ws.set q0 (a, ar cA n (zup f z x)) = ws') (hdg : decode cc pc = .ok (.bastore, 1)) (kk : zG E Q cells slots ws' lv (pc + 1) st) : zG E Q cells slots ws lv pc (.int x :: .int (iI z) :: .ref a :: st) := by
  obtain ⟨p, l, e, R, s, m, args, below, meth, c, D, tys, A, nL⟩ := E
  intro H locs ls hP hD hS hL
  subst hs
  refine va_zast C.1 C.2.1 C.2.2.2.2.2.1 hP hD hS q0 t0 he ht (iI_in h0 h hn) hdg ?_
  rw [hx, zup_upd f h0 (by omega)]
  exact fun H1 locs1 hP hD hS => kk H1 locs1 ls hP hD hS hL
theorem z_lastore (C : zC E cc own Ts rm) {a n t0 : Nat} {cA : ClassId} {f : Int → Int64} {z : Int} {x : Int64} (q0 : Nat) (he : ws[q0]? = some (a, lr cA n f)) (ht : zT E t0 cA .long) (h0 : 0 ≤ z) (h : z < n) (hn : n ≤ 2147483647) (hs : ws.set q0 (a, lr cA n (zup f z x)) = ws') (hdg : decode cc pc = .ok (.lastore, 1)) (kk : zG E Q cells slots ws' lv (pc + 1) st) : zG E Q cells slots ws lv pc (.long x :: .int (iI z) :: .ref a :: st) := by
  obtain ⟨p, l, e, R, s, m, args, below, meth, c, D, tys, A, nL⟩ := E
  intro H locs ls hP hD hS hL
  subst hs
  refine va_last C.1 C.2.1 C.2.2.2.2.2.1 hP hD hS q0 t0 he ht (iI_in h0 h hn) hdg ?_
  rw [show vp_updL (fun k : Nat => f (k : Int)) (iI z).toNatClampNeg x = fun k : Nat => zup f z x (k : Int) from zup_vaup f h0 (by omega) x]
  exact fun H1 locs1 hP hD hS => kk H1 locs1 ls hP hD hS hL
theorem z_aastore (C : zC E cc own Ts rm) {a n t0 ci v : Nat} {cA : ClassId} {r : vw_C} {vs : List Value} {f : Int → Option Nat} {z : Int} (q0 qk : Nat) (he : ws[q0]? = some (a, rr cA n f)) (ht : zT E t0 cA (.object r.1)) (hv : ws[qk]? = some (v, .inr (ci, vs))) (hc : vwCl[ci]? = some r) (h0 : 0 ≤ z) (h : z < n) (hn : n ≤ 2147483647) (hs : ws.set q0 (a, rr cA n (zup f z (some v))) = ws') (hdg : decode cc pc = .ok (.aastore, 1)) (kk : zG E Q cells slots ws' lv (pc + 1) st) : zG E Q cells slots ws lv pc (.ref v :: .int (iI z) :: .ref a :: st) := by
  obtain ⟨p, l, e, R, s, m, args, below, meth, c, D, tys, A, nL⟩ := E
  intro H locs ls hP hD hS hL
  subst hs
  refine va_astq C.1 C.2.1 C.2.2.2.2.2.1 hP hD hS q0 t0 qk ci he ht hv hc (iI_in h0 h hn) hdg ?_
  rw [zup_vaup f h0 (by omega)]
  exact fun H1 locs1 hP hD hS => kk H1 locs1 ls hP hD hS hL
theorem z_alen (C : zC E cc own Ts rm) {a t0 : Nat} {cA : ClassId} {x : vp_A} {ty : FieldType} {v : Int32} (q0 : Nat) (he : ws[q0]? = some (a, .inl (cA, x))) (ht : zT E t0 cA ty) (hv : Int32.ofNat x.1 = v) (hdg : decode cc pc = .ok (.arraylength, 1)) (kk : zG E Q cells slots ws lv (pc + 1) (.int v :: st)) : zG E Q cells slots ws lv pc (.ref a :: st) := by
  obtain ⟨p, l, e, R, s, m, args, below, meth, c, D, tys, A, nL⟩ := E
  intro H locs ls hP hD hS hL
  exact va_alen C.1 C.2.1 C.2.2.2.2.2.1 hP q0 t0 he ht hv hdg (kk H locs ls hP hD hS hL)
theorem z_new (C : zC E cc own Ts rm) {Cn : String} {T : u_T} {N ci index : Nat} {fs : List Value} {ty : Nat → FieldType} (hin : ∀ w ∈ u_ws Cn T N, w ∈ Ts) (hty : ∀ k, k < N → parseFieldDescriptor (T k).2.2.1 = some (ty k)) (hcl : Cond.classLink own index Cn ∈ Ts) (hinst : Cond.instantiable Cn N ∈ Ts) (hini : Cond.initialized Cn ∈ Ts) (hc : vwCl[ci]? = some (Cn, T, N)) (hfs : ∀ j, j < N → defaultValue (ty j) = vp_V fs j) (hcells : cells + 1 ≤ rm.cells) (hslots : slots + N ≤ rm.slots) (hdg : decode cc pc = .ok (.new index, 3)) (kk : ∀ q : Nat, zG E Q (cells + 1) (slots + N) (ws ++ [(q, .inr (ci, fs))]) lv (pc + 3) (.ref q :: st)) : zG E Q cells slots ws lv pc st := by
  obtain ⟨p, l, e, R, s, m, args, below, meth, c, D, tys, A, nL⟩ := E
  intro H locs ls hP hD hS hL
  have hR : R = rm := C.2.2.2.2.2.2.2.2
  exact va_new C.1 C.2.1 C.2.2.2.2.1 hin ty hty C.2.2.2.1 (C.2.2.2.2.1 _ hcl) (C.2.2.2.2.1 _ hinst) (C.2.2.2.2.1 _ hini) C.2.2.2.2.2.1 hP hD hS C.2.2.2.2.2.2.1 hc hfs (by rw [hR]; exact hcells) (by rw [hR]; exact hslots) hdg (fun q H1 hP hD hS => kk q H1 locs ls hP hD hS hL)
theorem z_cA {D : va_G} {tys : List (ClassId × FieldType)} {s : State} {cA cB : ClassId} {ty : FieldType} {t0 : Nat} (hK : va_K D vwCl (tys ++ [(cA, ty)]) s) (ht : tys[t0]? = some (cB, ty)) (hne : ∀ C : String, ty ≠ .object C) : cA = cB := by
  have h1 := (hK.2 tys.length (cA, ty) (by simp)).2
  have h2 := (hK.2 t0 (cB, ty) (by rw [List.getElem?_append_left (List.getElem?_eq_some_iff.mp ht).1]; exact ht)).2
  cases ty with
  | object C => exact absurd rfl (hne C)
  | _ =>
    have e1 : s.vm.findClass _ = some cA := h1
    have e2 : s.vm.findClass _ = some cB := h2
    exact Option.some.inj (e1.symm.trans e2)
theorem z_newarr (C : zC E cc own Ts rm) {atype : ArrayType} {t0 N : Nat} {cA : ClassId} {ty : FieldType} {z : Int} (harr : Cond.arrayClass (newarray.typeOf atype) ∈ Ts) (hty : newarray.typeOf atype = ty) (hne : ∀ C : String, ty ≠ .object C) (ht : zT E t0 cA ty) (ha : ∀ cB : ClassId, vp_cell cB (N, .inl (fun _ => 0)) = arrV cB N (fun _ => defaultValue ty)) (hz : z = N) (hN : N ≤ 1000) (hbytes : N * componentBytes ty ≤ 536870912) (hcells : cells + 1 ≤ rm.cells) (hslots : slots + N ≤ rm.slots) (hdg : decode cc pc = .ok (.newarray atype, 2)) (kk : ∀ q : Nat, zG E Q (cells + 1) (slots + N) (ws ++ [(q, ar cA N (fun _ => 0))]) lv (pc + 2) (.ref q :: st)) : zG E Q cells slots ws lv pc (.int (iI z) :: st) := by
  obtain ⟨p, l, e, R, s, m, args, below, meth, c, D, tys, A, nL⟩ := E
  intro H locs ls hP hD hS hL
  have hR : R = rm := C.2.2.2.2.2.2.2.2
  have hcl := iI_clamp (z := z) (by omega) (by omega)
  have hlt : ¬ iI z < 0 := by
    rw [Int32.lt_iff_toInt_lt, iI_toInt ⟨by omega, by omega⟩]
    show ¬ z < 0
    omega
  refine va_newa C.1 C.2.1 (C.2.2.2.2.1 _ harr) hty C.2.2.2.2.2.1 hP hD hS C.2.2.2.2.2.2.1 ha hlt (by omega) hbytes (by rw [hR]; exact hcells) (by rw [hR]; exact hslots) hdg (fun q cB H1 hK hP hD hS => ?_)
  have he : cB = cA := z_cA hK ht hne
  subst he
  exact kk q H1 locs ls hP hD hS hL
theorem z_newlong (C : zC E cc own Ts rm) {t0 N : Nat} {cA : ClassId} {z : Int} (harr : Cond.arrayClass .long ∈ Ts) (ht : zT E t0 cA .long) (hz : z = N) (hN : N ≤ 1000) (hcells : cells + 1 ≤ rm.cells) (hslots : slots + N ≤ rm.slots) (hdg : decode cc pc = .ok (.newarray .long, 2)) (kk : ∀ q : Nat, zG E Q (cells + 1) (slots + N) (ws ++ [(q, lr cA N (fun _ => 0))]) lv (pc + 2) (.ref q :: st)) : zG E Q cells slots ws lv pc (.int (iI z) :: st) := by
  obtain ⟨p, l, e, R, s, m, args, below, meth, c, D, tys, A, nL⟩ := E
  intro H locs ls hP hD hS hL
  have hR : R = rm := C.2.2.2.2.2.2.2.2
  have hcl := iI_clamp (z := z) (by omega) (by omega)
  have hlt : ¬ iI z < 0 := by
    rw [Int32.lt_iff_toInt_lt, iI_toInt ⟨by omega, by omega⟩]
    show ¬ z < 0
    omega
  refine va_newa (atype := .long) (a0 := (N, .inr (.inl (fun _ => 0)))) C.1 C.2.1 (C.2.2.2.2.1 _ harr) rfl C.2.2.2.2.2.1 hP hD hS C.2.2.2.2.2.2.1 (fun _ => rfl) hlt (by omega) (by show N * 8 ≤ 536870912; omega) (by rw [hR]; exact hcells) (by rw [hR]; exact hslots) hdg (fun q cB H1 hK hP hD hS => ?_)
  have he : cB = cA := z_cA hK ht (fun C h => by cases h)
  subst he
  exact kk q H1 locs ls hP hD hS hL
end ZH
