/-! THE LAYER, sixth part: new arrays of whole numbers. -/
theorem ai_new (cA : ClassId) (n : Nat) : ar cA n (fun _ => 0) = ai cA n (fun _ => 0) := by
  unfold ai
  have h : (0 : Int32) = iI 0 := by decide
  rw [h]
theorem z_newint {E : zE} {Q : State → Prop} {cells slots : Nat} {ws : va_W} {lv : List (Option Value)} {pc : Nat} {st : List Value} {cc : ByteArray} {own : String} {Ts : List Cond} {rm : Room} (C : zC E cc own Ts rm) (t0 N : Nat) {cA : ClassId} {z : Int} (harr : Cond.arrayClass .int ∈ Ts) (ht : zT E t0 cA .int) (hz : z = N) (hN : N ≤ 1000) (hcells : cells + 1 ≤ rm.cells) (hslots : slots + N ≤ rm.slots) (hdg : decode cc pc = .ok (.newarray .int, 2)) (kk : ∀ q : Nat, zG E Q (cells + 1) (slots + N) (ws ++ [(q, ai cA N (fun _ => 0))]) lv (pc + 2) (.ref q :: st)) : zG E Q cells slots ws lv pc (.int (iI z) :: st) :=
  z_newarr (atype := .int) C harr rfl (fun _ h => by cases h) ht (fun _ => rfl) hz hN (by show N * 4 ≤ 536870912; omega) hcells hslots hdg (fun q => by rw [ai_new]; exact kk q)
theorem z_newbool {E : zE} {Q : State → Prop} {cells slots : Nat} {ws : va_W} {lv : List (Option Value)} {pc : Nat} {st : List Value} {cc : ByteArray} {own : String} {Ts : List Cond} {rm : Room} (C : zC E cc own Ts rm) (t0 N : Nat) {cA : ClassId} {z : Int} (harr : Cond.arrayClass .boolean ∈ Ts) (ht : zT E t0 cA .boolean) (hz : z = N) (hN : N ≤ 1000) (hcells : cells + 1 ≤ rm.cells) (hslots : slots + N ≤ rm.slots) (hdg : decode cc pc = .ok (.newarray .boolean, 2)) (kk : ∀ q : Nat, zG E Q (cells + 1) (slots + N) (ws ++ [(q, ai cA N (fun _ => 0))]) lv (pc + 2) (.ref q :: st)) : zG E Q cells slots ws lv pc (.int (iI z) :: st) :=
  z_newarr (atype := .boolean) C harr rfl (fun _ h => by cases h) ht (fun _ => rfl) hz hN (by show N * 1 ≤ 536870912; omega) hcells hslots hdg (fun q => by rw [ai_new]; exact kk q)
theorem z_ldcw {E : zE} {Q : State → Prop} {cells slots : Nat} {ws : va_W} {lv : List (Option Value)} {pc : Nat} {st : List Value} {cc : ByteArray} {own : String} {Ts : List Cond} {rm : Room} (C : zC E cc own Ts rm) {index : Nat} {v : Int32} (hdg : decode cc pc = .ok (.ldc_w index, 3)) (hc : Cond.constant own index v ∈ Ts) (k : zG E Q cells slots ws lv (pc + 3) (.int v :: st)) : zG E Q cells slots ws lv pc st := by
  obtain ⟨p, l, e, R, s, m, args, below, meth, c, D, tys, A, nL⟩ := E
  intro H locs ls hP hD hS hL
  exact lv_ldcw C.1 C.2.1 C.2.2.2.1 (C.2.2.2.2.1 _ hc) hdg (k H locs ls hP hD hS hL)
theorem z_plN {ws w : va_W} (n : Nat) (is : List Nat) (hl : ws.length = n) (hp : is.isPerm (List.range n) = true) (h : is.map (fun i => ws[i]?) = w.map some) : ws.Perm w := z_places is (by rw [hl]; exact hp) h
theorem z_plT {ws w tl : va_W} (n : Nat) (is : List Nat) (hl : ws.length = n) (hp : is.isPerm (List.range n) = true) (h : is.map (fun i => ws[i]?) = w.map some) : (ws ++ tl).Perm (w ++ tl) := (z_plN n is hl hp h).append_right tl
