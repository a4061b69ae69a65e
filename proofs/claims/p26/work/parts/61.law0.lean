/-! THE LAYER OF THE LAW: methods with a table, their calls, catches, the script, a switch. -/
/-- the method's table -/
def zTab (E : zE) (hh : List (Nat × Nat × Nat × Nat)) : Prop :=
  match E with
  | (_, _, _, _, _, _, _, _, _, c, _, _, _, _) => c.exceptionTable.toList = tableOf hh
section ZH
variable {l : Launch} {D : va_G} {tys : List (ClassId × FieldType)} {post : Option Value → va_W → Prop} {mc ms : Nat}
theorem zNH_of {y : MethodName} {wl wl' : List Cond} {rm : Room} {vs : List Value} {w0 : va_W} {cc : ByteArray} {maxL : Nat} {ret : Option FieldType} {hh : List (Nat × Nat × Nat × Nat)} {lv0 : List (Option Value)} (hy : plainName y.cls = true) (hw : wl = Cond.codeWith y cc maxL ret hh :: wl') (hcat : vs.all (fun v => v.category == 1) = true) (hlen : vs.length ≤ maxL) (hlv : vs.map some ++ List.replicate (maxL - vs.length) none = lv0)
    (body : ∀ (E : zE) (Q : State → Prop), zC E cc y.cls wl rm → zOf E l D tys → zRet E Q ret post mc ms → zTab E hh → zG E Q 0 0 w0 lv0 0 []) : zN l y wl rm D tys vs w0 post mc ms := by
  intro sz
  refine va_MetW (cc := cc) (maxL := maxL) (ret := ret) (hh := hh) hy hw ?_
  intro p e s m args below meth c s₁ B hml hv
  obtain ⟨rfl, hsz, hP, hK, hD0, hX⟩ := hv
  have hts := atoms_spec (ws := wl) B.pre
  have hown : s.vm.findClass y.cls = some m.cls := findClass_of_methodNamed B.named
  subst hsz
  have hD := hD0.self (sz := s.heap.size)
  rw [lg_entry_eq]
  have hA : ∀ q : Nat, s.heap.size ≤ q → va_A w0 s.heap.size q := fun q h => Or.inr h
  exact body (p, l, e, (headSpec wl rm).room, s, m, vs.toArray, below, meth, c, D, tys, va_A w0 s.heap.size, maxL) _ ⟨B.exec, B.bytes, hml, hown, hts, hK, hA, B.notSynchronized, rfl⟩ ⟨rfl, rfl, rfl, hX⟩ ⟨B.returns, fun _ _ _ h => h⟩ (vx_table (x := y) B (hts _ (by rw [hw]; exact List.mem_cons_self))) s.heap [] _ hP hD va_S.rf (z_entry hcat hlen hlv)
end ZH
section ZT
variable {E : zE} {Q : State → Prop} {cells slots : Nat} {ws w0 fr : va_W} {lv : List (Option Value)} {pc : Nat} {stk st : List Value} {cc : ByteArray} {own : String} {Ts : List Cond} {rm : Room}
variable {l : Launch} {D : va_G} {tys : List (ClassId × FieldType)} {post : Option Value → va_W → Prop} {mc ms : Nat}
variable {y : MethodName} {bytes : ByteArray} {maxL n index : Nat} {ret : Option FieldType} {wl wl' : List Cond} {rm1 : Room} {b : Nat} {As : List Value} {hh : List (Nat × Nat × Nat × Nat)}
theorem z_callSH (C : zC E cc own Ts rm) (hE : zOf E l D tys) (hM : zN l y wl rm1 D tys As w0 post mc ms) (hG : GoodIn Ts (va_wsS own index y wl)) (hw : wl = Cond.codeWith y bytes maxL ret hh :: wl') (hm : rm1.cells = mc ∧ rm1.slots = ms) (hd : y.cls ≠ "java/lang/invoke/MethodHandle" ∧ y.cls ≠ "java/lang/invoke/VarHandle" ∧ (parseMethodDescriptor y.desc).map (fun d => d.parameters.length) = some n) (hR : rm1.frames + 1 ≤ rm.frames ∧ 8 + (maxL + 11) + rm1.locals ≤ rm.locals) (hn : As.length = n) (hst : stk = As.reverse ++ st) (hperm : ws.Perm (w0 ++ fr)) (hcat : (st.map fun v => v.category).sum ≤ 8) (hf : cells + mc ≤ rm.cells ∧ slots + ms ≤ rm.slots) (hdg : decode cc pc = .ok (.invokestatic index, 3)) (kk : ∀ (r : Option Value) (w1 : va_W), post r w1 → zG E Q (cells + mc) (slots + ms) (w1 ++ fr) lv (pc + 3) (r.toList ++ st)) : zG E Q cells slots ws lv pc stk := by
  obtain ⟨p, l', e, R, s, m, args, below, meth, c, D', tys', A, nL⟩ := E
  obtain ⟨rfl, rfl, rfl, hX⟩ := hE
  obtain ⟨c1, c2, c3, c4, c5, c6, c7, c8, rfl⟩ := C
  intro H locs ls hP hD hS hL
  exact z_ret hP hD hS c7 hperm (vx_runSW (As := As) ⟨c1, c2, c3, c4, c5⟩ (hM H.size) (vx_cwSW n c5 hG hw hm.1 hm.2 hd hR) ⟨zPre_blind, fun U hU hW => ⟨rfl, z_pre hP hD c6 hX hS c7 hperm U hU hW⟩⟩ rfl hn hL.size hst (lv_room hcat) hdg hf) (fun r w1 H1 locs1 hp hP hD hS => kk r w1 hp H1 locs1 ls hP hD hS hL)
/-- a throw that a row of the table takes -/
theorem z_catch (C : zC E cc own Ts rm) (hE : zOf E l D tys) (hT : zTab E hh) {Ex name : String} (pre : List ExceptionTableEntry) (x : ExceptionTableEntry) (suf : List ExceptionTableEntry) (hsplit : tableOf hh = pre ++ x :: suf) (hpass : ∀ z ∈ pre, covers z pc = false ∨ (z.catchType ≠ 0 ∧ ∃ nm : String, Cond.classLink own z.catchType nm ∈ Ts ∧ (Ex, nm) ∈ zNo)) (hx : covers x pc = true) (h0 : x.catchType ≠ 0) (hlink : Cond.classLink own x.catchType name ∈ Ts) (hcast : Cond.castable Ex name ∈ zNs) (k : ∀ q : Nat, zG E Q cells slots ws lv x.handlerPc [.ref q]) : zV E Q cells slots ws lv pc st Ex := by
  obtain ⟨p, l', e, R, s, m, args, below, meth, c, D', tys', A, nL⟩ := E
  obtain ⟨rfl, rfl, rfl, hX⟩ := hE
  obtain ⟨c1, c2, c3, c4, c5, c6, c7, c8, rfl⟩ := C
  intro H locs ls q ce hP hD hS hL hq hcv hcl
  refine vx_catch (name := name) c4 pre x suf (hT.trans hsplit) (fun z hz => ?_) hx h0 (c5 _ hlink) (va_Nw.use (zNs_tables _ hcast) (hX.1 _ hcast)) hq hcv hcl (k q H locs ls hP hD hS hL)
  rcases hpass z hz with h | ⟨h1, nm, h2, h3⟩
  · exact Or.inl h
  · exact Or.inr ⟨h1, nm, c5 _ h2, hX.2.2.2.1 _ h3⟩
/-- the script -/
def zScr (E : zE) (b L : Nat) (xs : Nat → Int32) : Prop :=
  match E with
  | (_, _, _, _, s, _, _, _, _, _, _, _, A, _) => va_X b L xs s s.heap ∧ b < s.heap.size ∧ ¬ A b
theorem z_sld (C : zC E cc own Ts rm) {L : Nat} {xs : Nat → Int32} (hS0 : zScr E b L xs) {z : Int} (h0 : 0 ≤ z) (h : z < L) (hn : L ≤ 2147483647) (hdg : decode cc pc = .ok (.iaload, 1)) (k : zG E Q cells slots ws lv (pc + 1) (.int (xs z.toNat) :: st)) : zG E Q cells slots ws lv pc (.int (iI z) :: .ref b :: st) := by
  obtain ⟨p, l', e, R, s, m, args, below, meth, c, D', tys', A, nL⟩ := E
  obtain ⟨s1, s2, s3⟩ := hS0
  intro H locs ls hP hD hS hL
  refine va_sld C.1 C.2.1 s1 s2 s3 hS (iI_in h0 h hn) hdg ?_
  have e9 : (iI z).toNatClampNeg = z.toNat := by
    have := iI_clamp h0 (show z < 2147483648 by omega)
    omega
  rw [e9]
  exact k H locs ls hP hD hS hL
theorem z_slen (C : zC E cc own Ts rm) {L : Nat} {xs : Nat → Int32} (hS0 : zScr E b L xs) (hdg : decode cc pc = .ok (.arraylength, 1)) (k : zG E Q cells slots ws lv (pc + 1) (.int (iI L) :: st)) : zG E Q cells slots ws lv pc (.ref b :: st) := by
  obtain ⟨p, l', e, R, s, m, args, below, meth, c, D', tys', A, nL⟩ := E
  obtain ⟨s1, s2, s3⟩ := hS0
  intro H locs ls hP hD hS hL
  refine va_slen C.1 C.2.1 s1 s2 s3 hS hdg ?_
  rw [show Int32.ofNat L = iI L from (Int32.ofInt_eq_ofNat).symm]
  exact k H locs ls hP hD hS hL
theorem z_tableOut (C : zC E cc own Ts rm) {dflt lo hi : Int} {offs : Array Int} {len : Nat} {x : Int32} {tgt : Nat} (hdg : decode cc pc = .ok (.tableswitch dflt lo hi offs, len)) (h : x.toInt < lo ∨ hi < x.toInt) (ht : (pc : Int) + dflt = (tgt : Int)) (k : zG E Q cells slots ws lv tgt st) : zG E Q cells slots ws lv pc (.int x :: st) := by
  obtain ⟨p, l', e, R, s, m, args, below, meth, c, D', tys', A, nL⟩ := E
  intro H locs ls hP hD hS hL
  exact lv_tableOut C.1 C.2.1 hdg h ht (k H locs ls hP hD hS hL)
theorem z_tableIn (C : zC E cc own Ts rm) {dflt lo hi : Int} {offs : Array Int} {len : Nat} {x : Int32} {off : Int} {tgt : Nat} (hdg : decode cc pc = .ok (.tableswitch dflt lo hi offs, len)) (h1 : ¬ x.toInt < lo) (h2 : ¬ hi < x.toInt) (ho : offs[(x.toInt - lo).toNat]? = some off) (ht : (pc : Int) + off = (tgt : Int)) (k : zG E Q cells slots ws lv tgt st) : zG E Q cells slots ws lv pc (.int x :: st) := by
  obtain ⟨p, l', e, R, s, m, args, below, meth, c, D', tys', A, nL⟩ := E
  intro H locs ls hP hD hS hL
  exact lv_tableIn C.1 C.2.1 hdg h1 h2 ho ht (k H locs ls hP hD hS hL)
end ZT
/-- what lands in the long -/
def LZ (isB : Bool) (x : Int32) : Int64 := if isB = true then (if x = 0 then 0 else 1) else x.toInt64
