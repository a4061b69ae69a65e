/-! NEW CELLS before a tail, new arrays of references. -/
theorem z_newT {E : zE} {Q : State → Prop} {cells slots : Nat} {X tl : va_W} {lv : List (Option Value)} {pc : Nat} {st : List Value} {cc : ByteArray} {own : String} {Ts : List Cond} {rm : Room} (C : zC E cc own Ts rm) {Cn : String} {T : u_T} {N ci index : Nat} {fs : List Value} {ty : Nat → FieldType} (hin : ∀ w ∈ u_ws Cn T N, w ∈ Ts) (hty : ∀ k, k < N → parseFieldDescriptor (T k).2.2.1 = some (ty k)) (hcl : Cond.classLink own index Cn ∈ Ts) (hinst : Cond.instantiable Cn N ∈ Ts) (hini : Cond.initialized Cn ∈ Ts) (hc : vwCl[ci]? = some (Cn, T, N)) (hfs : ∀ j, j < N → defaultValue (ty j) = vp_V fs j) (hcells : cells + 1 ≤ rm.cells) (hslots : slots + N ≤ rm.slots) (hdg : decode cc pc = .ok (.new index, 3)) (kk : ∀ q : Nat, zG E Q (cells + 1) (slots + N) ((X ++ [(q, .inr (ci, fs))]) ++ tl) lv (pc + 3) (.ref q :: st)) : zG E Q cells slots (X ++ tl) lv pc st := by
  refine z_new C hin hty hcl hinst hini hc hfs hcells hslots hdg (fun q => ?_)
  refine z_perm ?_ (kk q)
  rw [List.append_assoc, List.append_assoc]
  exact List.Perm.append_left X List.perm_append_comm
theorem z_cAo {D : va_G} {tys : List (ClassId × FieldType)} {s : State} {cA cB : ClassId} {Cn : String} {t0 : Nat} (hK : va_K D vwCl (tys ++ [(cA, .object Cn)]) s) (ht : tys[t0]? = some (cB, .object Cn)) : cA = cB := by
  have h1 := (hK.2 tys.length (cA, .object Cn) (by simp)).2
  have h2 := (hK.2 t0 (cB, .object Cn) (by rw [List.getElem?_append_left (List.getElem?_eq_some_iff.mp ht).1]; exact ht)).2
  obtain ⟨k1, d1, -, -, -, e1⟩ := h1
  obtain ⟨k2, d2, -, -, -, e2⟩ := h2
  exact Option.some.inj (e1.symm.trans e2)
theorem z_newrefs {E : zE} {Q : State → Prop} {cells slots : Nat} {ws : va_W} {lv : List (Option Value)} {pc : Nat} {st : List Value} {cc : ByteArray} {own : String} {Ts : List Cond} {rm : Room} {l : Launch} {D : va_G} {tys : List (ClassId × FieldType)} (C : zC E cc own Ts rm) (hE : zOf E l D tys) (t0 N : Nat) {cA : ClassId} {z : Int} {index : Nat} (hcl : Cond.classLink own index "PaperGuild$Model" ∈ Ts) (ht : tys[t0]? = some (cA, .object "PaperGuild$Model")) (hz : z = N) (hN : N ≤ 1000) (hcells : cells + 1 ≤ rm.cells) (hslots : slots + N ≤ rm.slots) (hdg : decode cc pc = .ok (.anewarray index, 3)) (kk : ∀ q : Nat, zG E Q (cells + 1) (slots + N) (ws ++ [(q, rr cA N (fun _ => none))]) lv (pc + 3) (.ref q :: st)) : zG E Q cells slots ws lv pc (.int (iI z) :: st) := by
  obtain ⟨p, l', e, R, s, m, args, below, meth, c, D', tys', A, nL⟩ := E
  obtain ⟨rfl, rfl, rfl, hX⟩ := hE
  intro H locs ls hP hD hS hL
  have hR : R = rm := C.2.2.2.2.2.2.2.2
  have hcl2 := iI_clamp (z := z) (by omega) (by omega)
  have hlt : ¬ iI z < 0 := by
    rw [Int32.lt_iff_toInt_lt, iI_toInt ⟨by omega, by omega⟩]
    show ¬ z < 0
    omega
  refine va_newq C.1 C.2.1 C.2.2.2.1 (C.2.2.2.2.1 _ hcl) hX.2.1 C.2.2.2.2.2.1 hP hD hS C.2.2.2.2.2.2.1 hlt (N' := N) (by omega) (by omega) (by rw [hR]; exact hcells) (by rw [hR]; exact hslots) hdg (fun q cB H1 hK hP hD hS => ?_)
  have he : cB = cA := z_cAo hK ht
  subst he
  exact kk q H1 locs ls hP hD hS hL
theorem gmF_0 (μ : Nat → zM) : gmF μ 0 = fun _ => none := by
  funext i
  unfold gmF
  rw [if_neg (by omega)]
