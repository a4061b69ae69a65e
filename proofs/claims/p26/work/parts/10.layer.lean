/-! THE LAYER: the machine's W over a list of cells (the world), a list of locals and a stack alone. zG E Q cells slots ws lv pc st: from any heap that holds the world ws and any locals that hold lv, the frame at pc with the stack st comes to Q. -/
abbrev zE : Type := Program × Launch × Env × Room × State × MethodId × Array Value × List Frame × Method × Code × va_G × List (ClassId × FieldType) × (Nat → Prop) × Nat
/-- the locals, slot by slot; none: not known. Values of one slot alone. -/
def zL (nL : Nat) (ls : Array Slot) (lv : List (Option Value)) : Prop := lv.length = nL ∧ ∃ l : List (Nat × Value), lv_has ls nL l ∧ ∀ (i : Nat) (v : Value), lv[i]? = some (some v) → (i, v) ∈ l ∧ v.category = 1
theorem zL.at {nL : Nat} {ls : Array Slot} {lv : List (Option Value)} (h : zL nL ls lv) {i : Nat} {v : Value} (hi : lv[i]? = some (some v)) : ls[i]? = some (.val v) := by
  obtain ⟨-, l, h1, h2⟩ := h
  exact h1.2.2 (i, v) (h2 i v hi).1
theorem zL.size {nL : Nat} {ls : Array Slot} {lv : List (Option Value)} (h : zL nL ls lv) : ls.size = nL := by
  obtain ⟨-, l, h1, -⟩ := h
  exact h1.1
theorem zL.set {nL : Nat} {ls : Array Slot} {lv : List (Option Value)} {i : Nat} {v : Value} (h2 : ∀ (i : Nat) (v : Value), lv[i]? = some (some v) → v.category = 1) (hlen : lv.length = nL) (hv : v.category = 1) {l : List (Nat × Value)} (hl : ∀ (i : Nat) (v : Value), lv[i]? = some (some v) → (i, v) ∈ l) (h : lv_has ls nL ((i, v) :: l.filter (fun q => !(q.1 == i) && !(q.1 + 1 == i && q.2.category == 2)))) : zL nL ls (lv.set i (some v)) := by
  refine ⟨by rw [List.length_set]; exact hlen, _, h, fun j w hj => ?_⟩
  by_cases hji : i = j
  · subst hji
    rw [List.getElem?_set] at hj
    by_cases hlt : i < lv.length
    · simp [hlt] at hj
      subst hj
      exact ⟨List.mem_cons_self, hv⟩
    · simp [hlt] at hj
  · rw [List.getElem?_set_ne hji] at hj
    have hc := h2 j w hj
    refine ⟨List.mem_cons_of_mem _ (List.mem_filter.mpr ⟨hl j w hj, ?_⟩), hc⟩
    have : j ≠ i := fun q => hji q.symm
    simp [this, hc]
/-- fewer locals are known -/
def zLe : List (Option Value) → List (Option Value) → Prop
  | [], [] => True
  | a :: l, b :: r => (b = none ∨ b = a) ∧ zLe l r
  | _, _ => False
theorem zLe.len : ∀ {l r : List (Option Value)}, zLe l r → r.length = l.length
  | [], [], _ => rfl
  | _ :: _, _ :: _, h => by rw [List.length_cons, List.length_cons, zLe.len h.2]
theorem zLe.get : ∀ {l r : List (Option Value)}, zLe l r → ∀ {i : Nat} {v : Value}, r[i]? = some (some v) → l[i]? = some (some v)
  | [], [], _, i, v, hr => by simp at hr
  | a :: l, b :: r, h, 0, v, hr => by
    have hb : b = some v := by simpa using hr
    rcases h.1 with h1 | h1
    · rw [h1] at hb; cases hb
    · rw [← h1, hb]; rfl
  | a :: l, b :: r, h, i + 1, v, hr => by
    have := zLe.get h.2 (i := i) (v := v) (by simpa using hr)
    simpa using this
theorem zL.le {nL : Nat} {ls : Array Slot} {l r : List (Option Value)} (h : zL nL ls l) (hle : zLe l r) : zL nL ls r := by
  obtain ⟨h1, l0, h2, h3⟩ := h
  exact ⟨hle.len.trans h1, l0, h2, fun i v hi => h3 i v (hle.get hi)⟩
/-- the frame, its state and what it may write -/
def zG (E : zE) (Q : State → Prop) (cells slots : Nat) (ws : va_W) (lv : List (Option Value)) (pc : Nat) (st : List Value) : Prop :=
  match E with
  | (p, l, e, R, s, m, args, below, meth, c, D, _, A, nL) => ∀ (H : Heap) (locs : List Loc) (ls : Array Slot), va_P D vwCl ws H → va_D A ws → va_S A s.heap H locs → zL nL ls lv → W p l e R s m args below meth c H locs cells slots Q (F0 m pc ls st)
/-- what a method's walk rests on: its code cc, its class, its words, its room -/
def zC (E : zE) (cc : ByteArray) (own : String) (Ts : List Cond) (rm : Room) : Prop :=
  match E with
  | (p, _, _, R, s, m, args, _, meth, c, D, tys, A, nL) => p.tables.exec = Jvm.exec ∧ c.code = cc ∧ c.maxLocals = nL ∧ s.vm.findClass own = some m.cls ∧ (∀ w ∈ Ts, w.before args s = true) ∧ va_K D vwCl tys s ∧ (∀ q : Nat, s.heap.size ≤ q → A q) ∧ meth.locks = false ∧ R = rm
/-- the types of the arrays' classes -/
def zT (E : zE) (t0 : Nat) (cA : ClassId) (ty : FieldType) : Prop :=
  match E with
  | (_, _, _, _, _, _, _, _, _, _, _, tys, _, _) => tys[t0]? = some (cA, ty)
section ZI
variable {E : zE} {Q : State → Prop} {cells slots : Nat} {ws : va_W} {lv : List (Option Value)} {pc : Nat} {st : List Value} {cc : ByteArray} {own : String} {Ts : List Cond} {rm : Room}
theorem z_le {r : List (Option Value)} (hle : zLe lv r) (k : zG E Q cells slots ws r pc st) : zG E Q cells slots ws lv pc st := by
  obtain ⟨p, l, e, R, s, m, args, below, meth, c, D, tys, A, nL⟩ := E
  intro H locs ls hP hD hS hL
  exact k H locs ls hP hD hS (hL.le hle)
theorem z_eq {ws' : va_W} {st' : List Value} (h1 : ws = ws') (h2 : st = st') (k : zG E Q cells slots ws' lv pc st') : zG E Q cells slots ws lv pc st := by
  subst h1; subst h2; exact k
theorem z_top {x y : Int32} (h : x = y) (k : zG E Q cells slots ws lv pc (.int y :: st)) : zG E Q cells slots ws lv pc (.int x :: st) := by
  subst h; exact k
theorem z_widen {k n : Nat} (h1 : cells ≤ k) (h2 : slots ≤ n) (kk : zG E Q k n ws lv pc st) : zG E Q cells slots ws lv pc st := by
  obtain ⟨p, l, e, R, s, m, args, below, meth, c, D, tys, A, nL⟩ := E
  intro H locs ls hP hD hS hL
  exact W.widen h1 h2 (kk H locs ls hP hD hS hL)
theorem z_iconst (C : zC E cc own Ts rm) {n : Int} {v : Int32} (hdg : decode cc pc = .ok (.iconst n, 1)) (hv : Int32.ofInt n = v) (k : zG E Q cells slots ws lv (pc + 1) (.int v :: st)) : zG E Q cells slots ws lv pc st := by
  obtain ⟨p, l, e, R, s, m, args, below, meth, c, D, tys, A, nL⟩ := E
  intro H locs ls hP hD hS hL
  exact lv_iconst C.1 C.2.1 hdg hv (k H locs ls hP hD hS hL)
theorem z_bipush (C : zC E cc own Ts rm) {n : Int} {v : Int32} (hdg : decode cc pc = .ok (.bipush n, 2)) (hv : (Int8.ofInt n).toInt32 = v) (k : zG E Q cells slots ws lv (pc + 2) (.int v :: st)) : zG E Q cells slots ws lv pc st := by
  obtain ⟨p, l, e, R, s, m, args, below, meth, c, D, tys, A, nL⟩ := E
  intro H locs ls hP hD hS hL
  exact lv_bipush C.1 C.2.1 hdg hv (k H locs ls hP hD hS hL)
theorem z_sipush (C : zC E cc own Ts rm) {n : Int} {v : Int32} (hdg : decode cc pc = .ok (.sipush n, 3)) (hv : (Int16.ofInt n).toInt32 = v) (k : zG E Q cells slots ws lv (pc + 3) (.int v :: st)) : zG E Q cells slots ws lv pc st := by
  obtain ⟨p, l, e, R, s, m, args, below, meth, c, D, tys, A, nL⟩ := E
  intro H locs ls hP hD hS hL
  exact lv_sipush C.1 C.2.1 hdg hv (k H locs ls hP hD hS hL)
theorem z_ldc (C : zC E cc own Ts rm) {index : Nat} {v : Int32} (hdg : decode cc pc = .ok (.ldc index, 2)) (hc : Cond.constant own index v ∈ Ts) (k : zG E Q cells slots ws lv (pc + 2) (.int v :: st)) : zG E Q cells slots ws lv pc st := by
  obtain ⟨p, l, e, R, s, m, args, below, meth, c, D, tys, A, nL⟩ := E
  intro H locs ls hP hD hS hL
  exact lv_ldc C.1 C.2.1 C.2.2.2.1 (C.2.2.2.2.1 _ hc) hdg (k H locs ls hP hD hS hL)
theorem z_lconst (C : zC E cc own Ts rm) {n : Fin 2} {v : Int64} (hdg : decode cc pc = .ok (.lconst n, 1)) (hv : Int64.ofNat (n : Nat) = v) (k : zG E Q cells slots ws lv (pc + 1) (.long v :: st)) : zG E Q cells slots ws lv pc st := by
  obtain ⟨p, l, e, R, s, m, args, below, meth, c, D, tys, A, nL⟩ := E
  intro H locs ls hP hD hS hL
  exact lv_lconst C.1 C.2.1 hdg hv (k H locs ls hP hD hS hL)
theorem z_iload_n (C : zC E cc own Ts rm) {kk : Fin 4} {i : Nat} {x : Int32} (hdg : decode cc pc = .ok (.iload_n kk, 1)) (hi : (kk : Nat) = i) (hl : lv[i]? = some (some (.int x))) (k : zG E Q cells slots ws lv (pc + 1) (.int x :: st)) : zG E Q cells slots ws lv pc st := by
  obtain ⟨p, l, e, R, s, m, args, below, meth, c, D, tys, A, nL⟩ := E
  intro H locs ls hP hD hS hL
  exact lv_iload_n C.1 C.2.1 hdg hi (hL.at hl) (k H locs ls hP hD hS hL)
theorem z_iload (C : zC E cc own Ts rm) {i : Nat} {x : Int32} (hdg : decode cc pc = .ok (.iload i, 2)) (hl : lv[i]? = some (some (.int x))) (k : zG E Q cells slots ws lv (pc + 2) (.int x :: st)) : zG E Q cells slots ws lv pc st := by
  obtain ⟨p, l, e, R, s, m, args, below, meth, c, D, tys, A, nL⟩ := E
  intro H locs ls hP hD hS hL
  exact lv_iload C.1 C.2.1 hdg (hL.at hl) (k H locs ls hP hD hS hL)
theorem z_aload_n (C : zC E cc own Ts rm) {kk : Fin 4} {i : Nat} {x : Nat} (hdg : decode cc pc = .ok (.aload_n kk, 1)) (hi : (kk : Nat) = i) (hl : lv[i]? = some (some (.ref x))) (k : zG E Q cells slots ws lv (pc + 1) (.ref x :: st)) : zG E Q cells slots ws lv pc st := by
  obtain ⟨p, l, e, R, s, m, args, below, meth, c, D, tys, A, nL⟩ := E
  intro H locs ls hP hD hS hL
  exact lv_aload_n C.1 C.2.1 hdg hi (hL.at hl) (k H locs ls hP hD hS hL)
theorem z_aload (C : zC E cc own Ts rm) {i : Nat} {x : Nat} (hdg : decode cc pc = .ok (.aload i, 2)) (hl : lv[i]? = some (some (.ref x))) (k : zG E Q cells slots ws lv (pc + 2) (.ref x :: st)) : zG E Q cells slots ws lv pc st := by
  obtain ⟨p, l, e, R, s, m, args, below, meth, c, D, tys, A, nL⟩ := E
  intro H locs ls hP hD hS hL
  exact lv_aload C.1 C.2.1 hdg (hL.at hl) (k H locs ls hP hD hS hL)
theorem zL.lt {nL : Nat} {ls : Array Slot} {i : Nat} {x : Option Value} (h : zL nL ls lv) (hi : lv[i]? = some x) : i < nL := by
  rw [← h.1]
  exact (List.getElem?_eq_some_iff.mp hi).1
theorem z_istore_n (C : zC E cc own Ts rm) {kk : Fin 4} {i : Nat} {x : Int32} {o : Option Value} {lv' : List (Option Value)} (hdg : decode cc pc = .ok (.istore_n kk, 1)) (hi : (kk : Nat) = i) (hl : lv[i]? = some o) (hs : lv.set i (some (.int x)) = lv') (k : zG E Q cells slots ws lv' (pc + 1) st) : zG E Q cells slots ws lv pc (.int x :: st) := by
  obtain ⟨p, l, e, R, s, m, args, below, meth, c, D, tys, A, nL⟩ := E
  intro H locs ls hP hD hS hL
  subst hs
  obtain ⟨h1, l0, h2, h3⟩ := id hL
  exact lv_istore_n C.1 C.2.1 hdg hi h2 (hL.lt hl) rfl (fun ls' hl' => k H locs ls' hP hD hS (zL.set (fun i v h => (h3 i v h).2) h1 rfl (fun i v h => (h3 i v h).1) hl'))
theorem z_istore (C : zC E cc own Ts rm) {i : Nat} {x : Int32} {o : Option Value} {lv' : List (Option Value)} (hdg : decode cc pc = .ok (.istore i, 2)) (hl : lv[i]? = some o) (hs : lv.set i (some (.int x)) = lv') (k : zG E Q cells slots ws lv' (pc + 2) st) : zG E Q cells slots ws lv pc (.int x :: st) := by
  obtain ⟨p, l, e, R, s, m, args, below, meth, c, D, tys, A, nL⟩ := E
  intro H locs ls hP hD hS hL
  subst hs
  obtain ⟨h1, l0, h2, h3⟩ := id hL
  exact lv_istore C.1 C.2.1 hdg h2 (hL.lt hl) rfl (fun ls' hl' => k H locs ls' hP hD hS (zL.set (fun i v h => (h3 i v h).2) h1 rfl (fun i v h => (h3 i v h).1) hl'))
theorem z_astore_n (C : zC E cc own Ts rm) {kk : Fin 4} {i : Nat} {x : Nat} {o : Option Value} {lv' : List (Option Value)} (hdg : decode cc pc = .ok (.astore_n kk, 1)) (hi : (kk : Nat) = i) (hl : lv[i]? = some o) (hs : lv.set i (some (.ref x)) = lv') (k : zG E Q cells slots ws lv' (pc + 1) st) : zG E Q cells slots ws lv pc (.ref x :: st) := by
  obtain ⟨p, l, e, R, s, m, args, below, meth, c, D, tys, A, nL⟩ := E
  intro H locs ls hP hD hS hL
  subst hs
  obtain ⟨h1, l0, h2, h3⟩ := id hL
  exact lv_astore_n C.1 C.2.1 hdg hi h2 (hL.lt hl) rfl (fun ls' hl' => k H locs ls' hP hD hS (zL.set (fun i v h => (h3 i v h).2) h1 rfl (fun i v h => (h3 i v h).1) hl'))
theorem z_astore (C : zC E cc own Ts rm) {i : Nat} {x : Nat} {o : Option Value} {lv' : List (Option Value)} (hdg : decode cc pc = .ok (.astore i, 2)) (hl : lv[i]? = some o) (hs : lv.set i (some (.ref x)) = lv') (k : zG E Q cells slots ws lv' (pc + 2) st) : zG E Q cells slots ws lv pc (.ref x :: st) := by
  obtain ⟨p, l, e, R, s, m, args, below, meth, c, D, tys, A, nL⟩ := E
  intro H locs ls hP hD hS hL
  subst hs
  obtain ⟨h1, l0, h2, h3⟩ := id hL
  exact lv_astore C.1 C.2.1 hdg h2 (hL.lt hl) rfl (fun ls' hl' => k H locs ls' hP hD hS (zL.set (fun i v h => (h3 i v h).2) h1 rfl (fun i v h => (h3 i v h).1) hl'))
theorem z_iinc (C : zC E cc own Ts rm) {i : Nat} {n : Int} {x v : Int32} {lv' : List (Option Value)} (hdg : decode cc pc = .ok (.iinc i n, 3)) (hl : lv[i]? = some (some (.int x))) (hv : x + Int32.ofInt n = v) (hs : lv.set i (some (.int v)) = lv') (k : zG E Q cells slots ws lv' (pc + 3) st) : zG E Q cells slots ws lv pc st := by
  obtain ⟨p, l, e, R, s, m, args, below, meth, c, D, tys, A, nL⟩ := E
  intro H locs ls hP hD hS hL
  subst hs
  obtain ⟨h1, l0, h2, h3⟩ := id hL
  obtain ⟨k0, hk0⟩ := List.getElem?_of_mem (h3 i _ hl).1
  exact lv_iinc C.1 C.2.1 hdg h2 hk0 hv (hL.lt hl) rfl (fun ls' hl' => k H locs ls' hP hD hS (zL.set (fun i v h => (h3 i v h).2) h1 rfl (fun i v h => (h3 i v h).1) hl'))
theorem z_iadd (C : zC E cc own Ts rm) {x y : Int32} (hdg : decode cc pc = .ok (.iadd, 1)) (k : zG E Q cells slots ws lv (pc + 1) (.int (x + y) :: st)) : zG E Q cells slots ws lv pc (.int y :: .int x :: st) := by
  obtain ⟨p, l, e, R, s, m, args, below, meth, c, D, tys, A, nL⟩ := E
  intro H locs ls hP hD hS hL
  exact lv_iadd C.1 C.2.1 hdg (k H locs ls hP hD hS hL)
theorem z_isub (C : zC E cc own Ts rm) {x y : Int32} (hdg : decode cc pc = .ok (.isub, 1)) (k : zG E Q cells slots ws lv (pc + 1) (.int (x - y) :: st)) : zG E Q cells slots ws lv pc (.int y :: .int x :: st) := by
  obtain ⟨p, l, e, R, s, m, args, below, meth, c, D, tys, A, nL⟩ := E
  intro H locs ls hP hD hS hL
  exact lv_isub C.1 C.2.1 hdg (k H locs ls hP hD hS hL)
theorem z_imul (C : zC E cc own Ts rm) {x y : Int32} (hdg : decode cc pc = .ok (.imul, 1)) (k : zG E Q cells slots ws lv (pc + 1) (.int (x * y) :: st)) : zG E Q cells slots ws lv pc (.int y :: .int x :: st) := by
  obtain ⟨p, l, e, R, s, m, args, below, meth, c, D, tys, A, nL⟩ := E
  intro H locs ls hP hD hS hL
  exact lv_imul C.1 C.2.1 hdg (k H locs ls hP hD hS hL)
theorem z_iand (C : zC E cc own Ts rm) {x y : Int32} (hdg : decode cc pc = .ok (.iand, 1)) (k : zG E Q cells slots ws lv (pc + 1) (.int (x &&& y) :: st)) : zG E Q cells slots ws lv pc (.int y :: .int x :: st) := by
  obtain ⟨p, l, e, R, s, m, args, below, meth, c, D, tys, A, nL⟩ := E
  intro H locs ls hP hD hS hL
  exact lv_iand C.1 C.2.1 hdg (k H locs ls hP hD hS hL)
theorem z_ior (C : zC E cc own Ts rm) {x y : Int32} (hdg : decode cc pc = .ok (.ior, 1)) (k : zG E Q cells slots ws lv (pc + 1) (.int (x ||| y) :: st)) : zG E Q cells slots ws lv pc (.int y :: .int x :: st) := by
  obtain ⟨p, l, e, R, s, m, args, below, meth, c, D, tys, A, nL⟩ := E
  intro H locs ls hP hD hS hL
  exact lv_ior C.1 C.2.1 hdg (k H locs ls hP hD hS hL)
theorem z_ixor (C : zC E cc own Ts rm) {x y : Int32} (hdg : decode cc pc = .ok (.ixor, 1)) (k : zG E Q cells slots ws lv (pc + 1) (.int (x ^^^ y) :: st)) : zG E Q cells slots ws lv pc (.int y :: .int x :: st) := by
  obtain ⟨p, l, e, R, s, m, args, below, meth, c, D, tys, A, nL⟩ := E
  intro H locs ls hP hD hS hL
  exact lv_ixor C.1 C.2.1 hdg (k H locs ls hP hD hS hL)
theorem z_ishl (C : zC E cc own Ts rm) {x y : Int32} (hdg : decode cc pc = .ok (.ishl, 1)) (k : zG E Q cells slots ws lv (pc + 1) (.int (x <<< (y &&& 31)) :: st)) : zG E Q cells slots ws lv pc (.int y :: .int x :: st) := by
  obtain ⟨p, l, e, R, s, m, args, below, meth, c, D, tys, A, nL⟩ := E
  intro H locs ls hP hD hS hL
  exact lv_ishl C.1 C.2.1 hdg (k H locs ls hP hD hS hL)
theorem z_ishr (C : zC E cc own Ts rm) {x y : Int32} (hdg : decode cc pc = .ok (.ishr, 1)) (k : zG E Q cells slots ws lv (pc + 1) (.int (x >>> (y &&& 31)) :: st)) : zG E Q cells slots ws lv pc (.int y :: .int x :: st) := by
  obtain ⟨p, l, e, R, s, m, args, below, meth, c, D, tys, A, nL⟩ := E
  intro H locs ls hP hD hS hL
  exact lv_ishr C.1 C.2.1 hdg (k H locs ls hP hD hS hL)
theorem z_irem (C : zC E cc own Ts rm) {x y : Int32} (hdg : decode cc pc = .ok (.irem, 1)) (hne : ¬ y = 0) (k : zG E Q cells slots ws lv (pc + 1) (.int (x - x / y * y) :: st)) : zG E Q cells slots ws lv pc (.int y :: .int x :: st) := by
  obtain ⟨p, l, e, R, s, m, args, below, meth, c, D, tys, A, nL⟩ := E
  intro H locs ls hP hD hS hL
  exact lv_irem C.1 C.2.1 hdg hne (k H locs ls hP hD hS hL)
theorem z_iushr (C : zC E cc own Ts rm) {x y v : Int32} (hdg : decode cc pc = .ok (.iushr, 1)) (hv : (x.toUInt32 >>> (y.toUInt32 &&& Int32.toUInt32 31)).toInt32 = v) (k : zG E Q cells slots ws lv (pc + 1) (.int v :: st)) : zG E Q cells slots ws lv pc (.int y :: .int x :: st) := by
  obtain ⟨p, l, e, R, s, m, args, below, meth, c, D, tys, A, nL⟩ := E
  intro H locs ls hP hD hS hL
  exact lv_iushr C.1 C.2.1 hdg hv (k H locs ls hP hD hS hL)
theorem z_i2l (C : zC E cc own Ts rm) {x : Int32} {v : Int64} (hdg : decode cc pc = .ok (.i2l, 1)) (hv : x.toInt64 = v) (k : zG E Q cells slots ws lv (pc + 1) (.long v :: st)) : zG E Q cells slots ws lv pc (.int x :: st) := by
  obtain ⟨p, l, e, R, s, m, args, below, meth, c, D, tys, A, nL⟩ := E
  intro H locs ls hP hD hS hL
  exact lv_i2l C.1 C.2.1 hdg hv (k H locs ls hP hD hS hL)
theorem z_dup (C : zC E cc own Ts rm) {v : Value} (hdg : decode cc pc = .ok (.dup, 1)) (hv : v.category = 1) (k : zG E Q cells slots ws lv (pc + 1) (v :: v :: st)) : zG E Q cells slots ws lv pc (v :: st) := by
  obtain ⟨p, l, e, R, s, m, args, below, meth, c, D, tys, A, nL⟩ := E
  intro H locs ls hP hD hS hL
  exact lv_dup C.1 C.2.1 hdg hv (k H locs ls hP hD hS hL)
theorem z_dup2 (C : zC E cc own Ts rm) {v w : Value} (hdg : decode cc pc = .ok (.dup2, 1)) (hv : v.category = 1) (hw : w.category = 1) (k : zG E Q cells slots ws lv (pc + 1) (v :: w :: v :: w :: st)) : zG E Q cells slots ws lv pc (v :: w :: st) := by
  obtain ⟨p, l, e, R, s, m, args, below, meth, c, D, tys, A, nL⟩ := E
  intro H locs ls hP hD hS hL
  exact lv_dup2_11 C.1 C.2.1 hdg hv hw (k H locs ls hP hD hS hL)
theorem z_if_eq (C : zC E cc own Ts rm) {x : Int32} {off : Int} {tgt : Nat} (hdg : decode cc pc = .ok (.ifCond .eq off, 3)) (ht : (pc : Int) + off = (tgt : Int)) (kt : x = 0 → zG E Q cells slots ws lv tgt st) (kf : ¬ x = 0 → zG E Q cells slots ws lv (pc + 3) st) : zG E Q cells slots ws lv pc (.int x :: st) := by
  obtain ⟨p, l, e, R, s, m, args, below, meth, c, D, tys, A, nL⟩ := E
  intro H locs ls hP hD hS hL
  exact lv_if_eq C.1 C.2.1 hdg ht (fun h => kt h H locs ls hP hD hS hL) (fun h => kf h H locs ls hP hD hS hL)
theorem z_icmp_eq (C : zC E cc own Ts rm) {x y : Int32} {off : Int} {tgt : Nat} (hdg : decode cc pc = .ok (.if_icmp .eq off, 3)) (ht : (pc : Int) + off = (tgt : Int)) (kt : x = y → zG E Q cells slots ws lv tgt st) (kf : ¬ x = y → zG E Q cells slots ws lv (pc + 3) st) : zG E Q cells slots ws lv pc (.int y :: .int x :: st) := by
  obtain ⟨p, l, e, R, s, m, args, below, meth, c, D, tys, A, nL⟩ := E
  intro H locs ls hP hD hS hL
  exact lv_icmp_eq C.1 C.2.1 hdg ht (fun h => kt h H locs ls hP hD hS hL) (fun h => kf h H locs ls hP hD hS hL)
theorem z_if_ne (C : zC E cc own Ts rm) {x : Int32} {off : Int} {tgt : Nat} (hdg : decode cc pc = .ok (.ifCond .ne off, 3)) (ht : (pc : Int) + off = (tgt : Int)) (kt : ¬ x = 0 → zG E Q cells slots ws lv tgt st) (kf : x = 0 → zG E Q cells slots ws lv (pc + 3) st) : zG E Q cells slots ws lv pc (.int x :: st) := by
  obtain ⟨p, l, e, R, s, m, args, below, meth, c, D, tys, A, nL⟩ := E
  intro H locs ls hP hD hS hL
  exact lv_if_ne C.1 C.2.1 hdg ht (fun h => kt h H locs ls hP hD hS hL) (fun h => kf h H locs ls hP hD hS hL)
theorem z_icmp_ne (C : zC E cc own Ts rm) {x y : Int32} {off : Int} {tgt : Nat} (hdg : decode cc pc = .ok (.if_icmp .ne off, 3)) (ht : (pc : Int) + off = (tgt : Int)) (kt : ¬ x = y → zG E Q cells slots ws lv tgt st) (kf : x = y → zG E Q cells slots ws lv (pc + 3) st) : zG E Q cells slots ws lv pc (.int y :: .int x :: st) := by
  obtain ⟨p, l, e, R, s, m, args, below, meth, c, D, tys, A, nL⟩ := E
  intro H locs ls hP hD hS hL
  exact lv_icmp_ne C.1 C.2.1 hdg ht (fun h => kt h H locs ls hP hD hS hL) (fun h => kf h H locs ls hP hD hS hL)
theorem z_if_lt (C : zC E cc own Ts rm) {x : Int32} {off : Int} {tgt : Nat} (hdg : decode cc pc = .ok (.ifCond .lt off, 3)) (ht : (pc : Int) + off = (tgt : Int)) (kt : x < 0 → zG E Q cells slots ws lv tgt st) (kf : ¬ x < 0 → zG E Q cells slots ws lv (pc + 3) st) : zG E Q cells slots ws lv pc (.int x :: st) := by
  obtain ⟨p, l, e, R, s, m, args, below, meth, c, D, tys, A, nL⟩ := E
  intro H locs ls hP hD hS hL
  exact lv_if_lt C.1 C.2.1 hdg ht (fun h => kt h H locs ls hP hD hS hL) (fun h => kf h H locs ls hP hD hS hL)
theorem z_icmp_lt (C : zC E cc own Ts rm) {x y : Int32} {off : Int} {tgt : Nat} (hdg : decode cc pc = .ok (.if_icmp .lt off, 3)) (ht : (pc : Int) + off = (tgt : Int)) (kt : x < y → zG E Q cells slots ws lv tgt st) (kf : ¬ x < y → zG E Q cells slots ws lv (pc + 3) st) : zG E Q cells slots ws lv pc (.int y :: .int x :: st) := by
  obtain ⟨p, l, e, R, s, m, args, below, meth, c, D, tys, A, nL⟩ := E
  intro H locs ls hP hD hS hL
  exact lv_icmp_lt C.1 C.2.1 hdg ht (fun h => kt h H locs ls hP hD hS hL) (fun h => kf h H locs ls hP hD hS hL)
theorem z_if_ge (C : zC E cc own Ts rm) {x : Int32} {off : Int} {tgt : Nat} (hdg : decode cc pc = .ok (.ifCond .ge off, 3)) (ht : (pc : Int) + off = (tgt : Int)) (kt : 0 ≤ x → zG E Q cells slots ws lv tgt st) (kf : ¬ 0 ≤ x → zG E Q cells slots ws lv (pc + 3) st) : zG E Q cells slots ws lv pc (.int x :: st) := by
  obtain ⟨p, l, e, R, s, m, args, below, meth, c, D, tys, A, nL⟩ := E
  intro H locs ls hP hD hS hL
  exact lv_if_ge C.1 C.2.1 hdg ht (fun h => kt h H locs ls hP hD hS hL) (fun h => kf h H locs ls hP hD hS hL)
theorem z_icmp_ge (C : zC E cc own Ts rm) {x y : Int32} {off : Int} {tgt : Nat} (hdg : decode cc pc = .ok (.if_icmp .ge off, 3)) (ht : (pc : Int) + off = (tgt : Int)) (kt : y ≤ x → zG E Q cells slots ws lv tgt st) (kf : ¬ y ≤ x → zG E Q cells slots ws lv (pc + 3) st) : zG E Q cells slots ws lv pc (.int y :: .int x :: st) := by
  obtain ⟨p, l, e, R, s, m, args, below, meth, c, D, tys, A, nL⟩ := E
  intro H locs ls hP hD hS hL
  exact lv_icmp_ge C.1 C.2.1 hdg ht (fun h => kt h H locs ls hP hD hS hL) (fun h => kf h H locs ls hP hD hS hL)
theorem z_if_gt (C : zC E cc own Ts rm) {x : Int32} {off : Int} {tgt : Nat} (hdg : decode cc pc = .ok (.ifCond .gt off, 3)) (ht : (pc : Int) + off = (tgt : Int)) (kt : 0 < x → zG E Q cells slots ws lv tgt st) (kf : ¬ 0 < x → zG E Q cells slots ws lv (pc + 3) st) : zG E Q cells slots ws lv pc (.int x :: st) := by
  obtain ⟨p, l, e, R, s, m, args, below, meth, c, D, tys, A, nL⟩ := E
  intro H locs ls hP hD hS hL
  exact lv_if_gt C.1 C.2.1 hdg ht (fun h => kt h H locs ls hP hD hS hL) (fun h => kf h H locs ls hP hD hS hL)
theorem z_icmp_gt (C : zC E cc own Ts rm) {x y : Int32} {off : Int} {tgt : Nat} (hdg : decode cc pc = .ok (.if_icmp .gt off, 3)) (ht : (pc : Int) + off = (tgt : Int)) (kt : y < x → zG E Q cells slots ws lv tgt st) (kf : ¬ y < x → zG E Q cells slots ws lv (pc + 3) st) : zG E Q cells slots ws lv pc (.int y :: .int x :: st) := by
  obtain ⟨p, l, e, R, s, m, args, below, meth, c, D, tys, A, nL⟩ := E
  intro H locs ls hP hD hS hL
  exact lv_icmp_gt C.1 C.2.1 hdg ht (fun h => kt h H locs ls hP hD hS hL) (fun h => kf h H locs ls hP hD hS hL)
theorem z_if_le (C : zC E cc own Ts rm) {x : Int32} {off : Int} {tgt : Nat} (hdg : decode cc pc = .ok (.ifCond .le off, 3)) (ht : (pc : Int) + off = (tgt : Int)) (kt : x ≤ 0 → zG E Q cells slots ws lv tgt st) (kf : ¬ x ≤ 0 → zG E Q cells slots ws lv (pc + 3) st) : zG E Q cells slots ws lv pc (.int x :: st) := by
  obtain ⟨p, l, e, R, s, m, args, below, meth, c, D, tys, A, nL⟩ := E
  intro H locs ls hP hD hS hL
  exact lv_if_le C.1 C.2.1 hdg ht (fun h => kt h H locs ls hP hD hS hL) (fun h => kf h H locs ls hP hD hS hL)
theorem z_icmp_le (C : zC E cc own Ts rm) {x y : Int32} {off : Int} {tgt : Nat} (hdg : decode cc pc = .ok (.if_icmp .le off, 3)) (ht : (pc : Int) + off = (tgt : Int)) (kt : x ≤ y → zG E Q cells slots ws lv tgt st) (kf : ¬ x ≤ y → zG E Q cells slots ws lv (pc + 3) st) : zG E Q cells slots ws lv pc (.int y :: .int x :: st) := by
  obtain ⟨p, l, e, R, s, m, args, below, meth, c, D, tys, A, nL⟩ := E
  intro H locs ls hP hD hS hL
  exact lv_icmp_le C.1 C.2.1 hdg ht (fun h => kt h H locs ls hP hD hS hL) (fun h => kf h H locs ls hP hD hS hL)
theorem z_goto (C : zC E cc own Ts rm) {off : Int} {tgt : Nat} (hdg : decode cc pc = .ok (.goto off, 3)) (ht : (pc : Int) + off = (tgt : Int)) (k : zG E Q cells slots ws lv tgt st) : zG E Q cells slots ws lv pc st := by
  obtain ⟨p, l, e, R, s, m, args, below, meth, c, D, tys, A, nL⟩ := E
  intro H locs ls hP hD hS hL
  exact lv_goto C.1 C.2.1 hdg ht (k H locs ls hP hD hS hL)
theorem z_ifnonnull (C : zC E cc own Ts rm) {x : Nat} {off : Int} {tgt : Nat} (hdg : decode cc pc = .ok (.ifnonnull off, 3)) (ht : (pc : Int) + off = (tgt : Int)) (k : zG E Q cells slots ws lv tgt st) : zG E Q cells slots ws lv pc (.ref x :: st) := by
  obtain ⟨p, l, e, R, s, m, args, below, meth, c, D, tys, A, nL⟩ := E
  intro H locs ls hP hD hS hL
  exact lv_ifnonnull C.1 C.2.1 hdg ht (k H locs ls hP hD hS hL)
theorem z_lcmp (C : zC E cc own Ts rm) {x y : Int64} (hdg : decode cc pc = .ok (.lcmp, 1)) (k : zG E Q cells slots ws lv (pc + 1) (.int (lg_cmp x y) :: st)) : zG E Q cells slots ws lv pc (.long y :: .long x :: st) := by
  obtain ⟨p, l, e, R, s, m, args, below, meth, c, D, tys, A, nL⟩ := E
  intro H locs ls hP hD hS hL
  exact W.lcmp C.1 C.2.1 hdg (k H locs ls hP hD hS hL)
end ZI
