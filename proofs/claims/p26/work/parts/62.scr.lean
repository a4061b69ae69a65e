/-! P26: a helper that reads the script; a division. -/
def zPreS (D : va_G) (tys : List (ClassId × FieldType)) (w0 : va_W) (sz b L : Nat) (xs : Nat → Int32) : State → Prop := fun U => zPre D tys w0 sz U ∧ va_X b L xs U U.heap ∧ b < sz ∧ ¬ va_A w0 sz b
def zNS (l : Launch) (y : MethodName) (wl : List Cond) (rm : Room) (D : va_G) (tys : List (ClassId × FieldType)) (av : List Value) (w0 : va_W) (post : Option Value → va_W → Prop) (mc ms b L : Nat) (xs : Nat → Int32) : Prop :=
  ∀ sz : Nat, Met l y wl rm (va_Pc av (zPreS D tys w0 sz b L xs)) (zQ D post (va_A w0 sz)) mc ms (va_A w0 sz)
theorem zPreS_blind {D : va_G} {tys : List (ClassId × FieldType)} {w0 : va_W} {sz b L : Nat} {xs : Nat → Int32} {av : List Value} : FrameBlind (va_Pc av (zPreS D tys w0 sz b L xs)) := by
  intro a U g mk h
  obtain ⟨h0, h1, h2, h3⟩ := h
  obtain ⟨i0, i1⟩ := zPre_blind (D := D) (tys := tys) (w0 := w0) (sz := sz) (av := av) a U g mk ⟨h0, h1⟩
  exact ⟨i0, i1, va_X.moved (u := U) (U := U.calling g mk a) (Vm.Alike.refl U.vm) h2, h3⟩
section ZS
variable {l : Launch} {D : va_G} {tys : List (ClassId × FieldType)} {post : Option Value → va_W → Prop} {mc ms b L : Nat} {xs : Nat → Int32}
theorem zNS_of {y : MethodName} {wl wl' : List Cond} {rm : Room} {vs : List Value} {w0 : va_W} {cc : ByteArray} {maxL : Nat} {ret : Option FieldType} {lv0 : List (Option Value)} (hy : plainName y.cls = true) (hw : wl = Cond.code y cc maxL ret :: wl') (hcat : vs.all (fun v => v.category == 1) = true) (hlen : vs.length ≤ maxL) (hlv : vs.map some ++ List.replicate (maxL - vs.length) none = lv0)
    (body : ∀ (E : zE) (Q : State → Prop), zC E cc y.cls wl rm → zOf E l D tys → zRet E Q ret post mc ms → zScr E b L xs → zG E Q 0 0 w0 lv0 0 []) : zNS l y wl rm D tys vs w0 post mc ms b L xs := by
  intro sz
  refine Met.ofW (cc := cc) (maxL := maxL) (ret := ret) hy hw ?_
  intro p e s m args below meth c s₁ B hml hv
  obtain ⟨rfl, ⟨hsz, hP, hK, hD0, hX⟩, hs1, hs2, hs3⟩ := hv
  have hts := atoms_spec (ws := wl) B.pre
  have hown : s.vm.findClass y.cls = some m.cls := findClass_of_methodNamed B.named
  subst hsz
  have hD := hD0.self (sz := s.heap.size)
  rw [lg_entry_eq]
  have hA : ∀ q : Nat, s.heap.size ≤ q → va_A w0 s.heap.size q := fun q h => Or.inr h
  exact body (p, l, e, (headSpec wl rm).room, s, m, vs.toArray, below, meth, c, D, tys, va_A w0 s.heap.size, maxL) _ ⟨B.exec, B.bytes, hml, hown, hts, hK, hA, B.notSynchronized, rfl⟩ ⟨rfl, rfl, rfl, hX⟩ ⟨B.returns, fun _ _ _ h => h⟩ ⟨hs1, hs2, hs3⟩ s.heap [] _ hP hD va_S.rf (z_entry hcat hlen hlv)
end ZS
section ZS2
variable {E : zE} {Q : State → Prop} {cells slots : Nat} {ws : va_W} {lv : List (Option Value)} {pc : Nat} {stk st : List Value} {cc : ByteArray} {own : String} {Ts : List Cond} {rm : Room}
variable {l : Launch} {D : va_G} {tys : List (ClassId × FieldType)} {post : Option Value → va_W → Prop} {mc ms : Nat}
variable {y : MethodName} {bytes : ByteArray} {maxL n index : Nat} {ret : Option FieldType} {wl wl' : List Cond} {rm1 : Room} {As : List Value} {b L : Nat} {xs : Nat → Int32}
theorem z_callSS (C : zC E cc own Ts rm) (hE : zOf E l D tys) (hS0 : zScr E b L xs) (hM : zNS l y wl rm1 D tys As [] post mc ms b L xs) (hG : GoodIn Ts (va_wsS own index y wl)) (hw : wl = Cond.code y bytes maxL ret :: wl') (hm : rm1.cells = mc ∧ rm1.slots = ms) (hd : y.cls ≠ "java/lang/invoke/MethodHandle" ∧ y.cls ≠ "java/lang/invoke/VarHandle" ∧ (parseMethodDescriptor y.desc).map (fun d => d.parameters.length) = some n) (hR : rm1.frames + 1 ≤ rm.frames ∧ 8 + (maxL + 11) + rm1.locals ≤ rm.locals) (hn : As.length = n) (hst : stk = As.reverse ++ st) (hcat : (st.map fun v => v.category).sum ≤ 8) (hf : cells + mc ≤ rm.cells ∧ slots + ms ≤ rm.slots) (hdg : decode cc pc = .ok (.invokestatic index, 3)) (kk : ∀ (r : Option Value) (w1 : va_W), post r w1 → zG E Q (cells + mc) (slots + ms) (w1 ++ ws) lv (pc + 3) (r.toList ++ st)) : zG E Q cells slots ws lv pc stk := by
  obtain ⟨p, l', e, R, s, m, args, below, meth, c, D', tys', A, nL⟩ := E
  obtain ⟨rfl, rfl, rfl, hX⟩ := hE
  obtain ⟨c1, c2, c3, c4, c5, c6, c7, c8, rfl⟩ := C
  obtain ⟨s1, s2, s3⟩ := hS0
  intro H locs ls hP hD hS hL
  have hperm : ws.Perm ([] ++ ws) := List.Perm.refl _
  exact z_ret hP hD hS c7 hperm (va_runS (As := As) ⟨c1, c2, c3, c4, c5⟩ (hM H.size) (va_cwS n c5 hG hw hm.1 hm.2 hd hR) ⟨zPreS_blind, fun U hU hW => ⟨rfl, z_pre hP hD c6 hX hS c7 hperm U hU hW, by rw [hU]; exact va_X.moved hW.alike (s1.kept (hS.2.1 b s2 s3)), Nat.lt_of_lt_of_le s2 hS.1, fun h => h.elim (fun h => by obtain ⟨k, e, h⟩ := h; simp at h) (fun h => by have := hS.1; omega)⟩⟩ rfl hn hL.size hst (lv_room hcat) hdg hf) (fun r w1 H1 locs1 hp hP hD hS => kk r w1 hp H1 locs1 ls hP hD hS hL)
theorem z_idiv (C : zC E cc own Ts rm) {x y : Int32} (hdg : decode cc pc = .ok (.idiv, 1)) (hne : ¬ y = 0) (k : zG E Q cells slots ws lv (pc + 1) (.int (x / y) :: st)) : zG E Q cells slots ws lv pc (.int y :: .int x :: st) := by
  obtain ⟨p, l, e, R, s, m, args, below, meth, c, D, tys, A, nL⟩ := E
  intro H locs ls hP hD hS hL
  exact lv_idiv C.1 C.2.1 hdg hne (k H locs ls hP hD hS hL)
theorem iI_div {a d : Int} (ha : 0 ≤ a) (ha2 : a < 2147483648) (h0 : 0 < d) (hd : d < 2147483648) : iI a / iI d = iI (a / d) := by
  obtain ⟨n, rfl⟩ := Int.eq_ofNat_of_zero_le ha
  obtain ⟨k, rfl⟩ := Int.eq_ofNat_of_zero_le (Int.le_of_lt h0)
  rw [iI_nat (by omega), iI_nat (by omega), pk_div (by omega) (by omega) (by omega)]
  rw [← Int.natCast_ediv, iI_nat]
  have := Nat.div_le_self n k
  omega
theorem z_idivI {a d : Int} (C : zC E cc own Ts rm) (hdg : decode cc pc = .ok (.idiv, 1)) (h1 : 0 ≤ a) (h2 : a < 2147483648) (h3 : 0 < d) (h4 : d < 2147483648) (k : zG E Q cells slots ws lv (pc + 1) (.int (iI (a / d)) :: st)) : zG E Q cells slots ws lv pc (.int (iI d) :: .int (iI a) :: st) := by
  refine z_idiv C hdg (fun h => ?_) (z_top (iI_div h1 h2 h3 h4) k)
  have := (iI_eq (a := d) (b := 0) ⟨by omega, by omega⟩ ⟨by omega, by omega⟩).mp h
  omega
end ZS2
theorem pX_no {code : Int} {e1 e2 e3 Ex : String} (h : code = 0) : ¬ pX code e1 e2 e3 Ex := by
  rintro (⟨h1, -⟩ | ⟨h1, -⟩ | ⟨h1, -⟩) <;> omega
