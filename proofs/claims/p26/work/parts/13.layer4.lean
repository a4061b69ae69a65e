/-! THE LAYER, fourth part: calls, throws, catches. -/
section ZK
variable {p : Program} {l : Launch} {e : Env} {R : Room} {s : State} {m : MethodId} {args : Array Value} {below : List Frame} {meth : Method} {c : Code} {H : Heap} {locs : List Loc} {cells slots : Nat} {Q : State → Prop}
theorem z_hF {D : va_G} {A0 : Nat → Prop} {ws w0 fr : va_W} (hD : va_D A0 ws) (hS : va_S A0 s.heap H locs) (hA : ∀ q, s.heap.size ≤ q → A0 q) (hperm : ws.Perm (w0 ++ fr)) : ∀ q, va_A w0 H.size q → A0 q := by
  intro q hq
  rcases zA_mem.mp hq with ⟨e, h⟩ | h
  · exact (zD_mem.mp hD).2 (q, e) (hperm.mem_iff.mpr (List.mem_append_left _ h))
  · exact hA q (Nat.le_trans hS.1 h)
theorem z_pre {D : va_G} {tys : List (ClassId × FieldType)} {A0 : Nat → Prop} {ws w0 fr : va_W} (hP : va_P D vwCl ws H) (hD : va_D A0 ws) (hK : va_K D vwCl tys s) (hX : zX A0 s) (hS : va_S A0 s.heap H locs) (hA : ∀ q, s.heap.size ≤ q → A0 q) (hperm : ws.Perm (w0 ++ fr)) (U : State) (hU : U.heap = H) (hW : s.WarmedH U.vm) : zPre D tys w0 H.size U := by
  have hP2 := zP_mem.mp (zP_perm hperm hP)
  obtain ⟨n1, n2⟩ := zD_mem.mp (zD_perm hperm hD)
  rw [List.map_append, List.nodup_append] at n1
  exact ⟨by rw [hU], zP_mem.mpr fun q hq => by rw [hU]; exact hP2 q (List.mem_append_left _ hq), va_K.moved hW.alike hK, zD_mem.mpr ⟨n1.1, fun _ _ => trivial⟩, hX.go hS hU hW (z_hF (D := D) hD hS hA hperm)⟩
theorem z_ret {D : va_G} {A0 : Nat → Prop} {ws w0 fr : va_W} {pc : Nat} {ls : Array Slot} {stk st : List Value} {post : Option Value → va_W → Prop} {mc ms : Nat} {a : Array Value} (hP : va_P D vwCl ws H) (hD : va_D A0 ws) (hS : va_S A0 s.heap H locs) (hA : ∀ q, s.heap.size ≤ q → A0 q) (hperm : ws.Perm (w0 ++ fr))
    (hr : va_Run p l e R s m args below meth c H locs cells slots mc ms (F0 m pc ls stk) st (zQ D post (va_A w0 H.size) a) (va_A w0 H.size))
    (kk : ∀ (r : Option Value) (w1 : va_W) (H1 : Heap) (locs1 : List Loc), post r w1 → va_P D vwCl (w1 ++ fr) H1 → va_D A0 (w1 ++ fr) → va_S A0 s.heap H1 locs1 → W p l e R s m args below meth c H1 locs1 (cells + mc) (slots + ms) Q (F0 m (pc + 3) ls (r.toList ++ st))) : W p l e R s m args below meth c H locs cells slots Q (F0 m pc ls stk) := by
  intro T hT X
  have hF := z_hF (D := D) hD hS hA hperm
  obtain ⟨v, st₀, t, T', L, h0, X', hL, e1, e2, ⟨⟨r, w1, hv, hp, hP1, hD1⟩, hz⟩, sg⟩ := hr T hT X
  cases hv
  obtain ⟨k1, k2, k3⟩ := vx_keep h0 e1 hS (fun q _ h => hF q h) hF hL hz
  rw [← e1] at hP1
  obtain ⟨g1, g2⟩ := z_frame (zP_perm hperm hP) (zD_perm hperm hD) hF k2 hP1 hD1
  obtain ⟨t2, a1, b1⟩ := kk v w1 T'.heap (locs ++ L) hp g1 g2 k3 T' rfl X'
  exact ⟨t2, sg t2 a1, b1⟩
theorem z_retx {D : va_G} {A0 : Nat → Prop} {ws w0 fr : va_W} {pc : Nat} {ls : Array Slot} {stk st : List Value} {post : Option Value → va_W → Prop} {px : String → Prop} {mc ms : Nat} {a : Array Value} (hP : va_P D vwCl ws H) (hD : va_D A0 ws) (hS : va_S A0 s.heap H locs) (hA : ∀ q, s.heap.size ≤ q → A0 q) (hperm : ws.Perm (w0 ++ fr))
    (hr : vx_Run p l e R s m args below meth c H locs cells slots mc ms (F0 m pc ls stk) st (zQ D post (va_A w0 H.size) a) (zXC D w0 px (va_A w0 H.size)) (va_A w0 H.size))
    (kx : ∀ (Ex : String) (q : Nat) (ce : Cell) (H1 : Heap) (locs1 : List Loc), px Ex → va_P D vwCl ws H1 → va_S A0 s.heap H1 locs1 → H1[q]? = some ce → ce.vm = .none → s.vm.findClass Ex = some ce.cls → vx_W p l e R s m args below meth c H1 locs1 (cells + mc) (slots + ms) Q (F0 m pc ls st) q)
    (kk : ∀ (r : Option Value) (w1 : va_W) (H1 : Heap) (locs1 : List Loc), post r w1 → va_P D vwCl (w1 ++ fr) H1 → va_D A0 (w1 ++ fr) → va_S A0 s.heap H1 locs1 → W p l e R s m args below meth c H1 locs1 (cells + mc) (slots + ms) Q (F0 m (pc + 3) ls (r.toList ++ st))) : W p l e R s m args below meth c H locs cells slots Q (F0 m pc ls stk) := by
  intro T hT X
  have hF := z_hF (D := D) hD hS hA hperm
  rcases hr T hT X with ⟨v, st₀, t, T', L, h0, X', hL, e1, e2, ⟨⟨r, w1, hv, hp, hP1, hD1⟩, hz⟩, sg⟩ | ⟨q, st₀, t, T', L, Ex, ce, h0, X', hL, e1, e2, ⟨hp, hP1, hz⟩, hce, hcv, hcl, sg⟩
  · cases hv
    obtain ⟨k1, k2, k3⟩ := vx_keep h0 e1 hS (fun q _ h => hF q h) hF hL hz
    rw [← e1] at hP1
    obtain ⟨g1, g2⟩ := z_frame (zP_perm hperm hP) (zD_perm hperm hD) hF k2 hP1 hD1
    obtain ⟨t2, a1, b1⟩ := kk v w1 T'.heap (locs ++ L) hp g1 g2 k3 T' rfl X'
    exact ⟨t2, sg t2 a1, b1⟩
  · obtain ⟨k1, k2, k3⟩ := vx_keep h0 e1 hS (fun q _ h => hF q h) hF hL hz
    rw [← e1] at hP1
    have hD0 : va_D (va_A w0 H.size) w0 := by
      obtain ⟨n1, n2⟩ := zD_mem.mp (zD_perm hperm hD)
      rw [List.map_append, List.nodup_append] at n1
      exact zD_mem.mpr ⟨n1.1, fun q hq => zA_mem.mpr (Or.inl ⟨q.2, hq⟩)⟩
    obtain ⟨g1, -⟩ := z_frame (zP_perm hperm hP) (zD_perm hperm hD) hF k2 hP1 hD0
    obtain ⟨t2, a1, b1⟩ := kx Ex q ce T'.heap (locs ++ L) hp (zP_perm hperm.symm g1) k3 (by rw [e1]; exact hce) hcv hcl T' rfl X'
    exact ⟨t2, sg.trans a1, b1⟩
end ZK
section ZM
variable {E : zE} {Q : State → Prop} {cells slots : Nat} {ws w0 fr : va_W} {lv : List (Option Value)} {pc : Nat} {stk st : List Value} {cc : ByteArray} {own : String} {Ts : List Cond} {rm : Room}
variable {l : Launch} {D : va_G} {tys : List (ClassId × FieldType)} {post : Option Value → va_W → Prop} {px : String → Prop} {mc ms : Nat}
variable {y : MethodName} {bytes : ByteArray} {maxL n index : Nat} {ret : Option FieldType} {wl wl' : List Cond} {rm1 : Room} {b : Nat} {As : List Value} {host : String}
theorem z_callV (C : zC E cc own Ts rm) (hE : zOf E l D tys) (hM : zN l y wl rm1 D tys (.ref b :: As) w0 post mc ms) (hG : GoodIn Ts (wsV own index y.cls y wl)) (hw : wl = Cond.code y bytes maxL ret :: wl') (hm : rm1.cells = mc ∧ rm1.slots = ms) (hd : y.cls = y.cls ∧ y.cls ≠ "java/lang/invoke/MethodHandle" ∧ y.cls ≠ "java/lang/invoke/VarHandle" ∧ (parseMethodDescriptor y.desc).map (fun d => d.parameters.length) = some n) (hR : rm1.frames + 1 ≤ rm.frames ∧ 8 + (maxL + 11) + rm1.locals ≤ rm.locals) (hn : As.length = n) (hst : stk = As.reverse ++ .ref b :: st) (hperm : ws.Perm (w0 ++ fr)) (kb : Nat) {ci : Nat} {fs : List Value} {cl : vw_C} (hb : w0[kb]? = some (b, .inr (ci, fs))) (hc : vwCl[ci]? = some cl) (hcn : cl.1 = y.cls) (hcat : (st.map fun v => v.category).sum ≤ 8) (hf : cells + mc ≤ rm.cells ∧ slots + ms ≤ rm.slots) (hdg : decode cc pc = .ok (.invokevirtual index, 3)) (kk : ∀ (r : Option Value) (w1 : va_W), post r w1 → zG E Q (cells + mc) (slots + ms) (w1 ++ fr) lv (pc + 3) (r.toList ++ st)) : zG E Q cells slots ws lv pc stk := by
  obtain ⟨p, l', e, R, s, m, args, below, meth, c, D', tys', A, nL⟩ := E
  obtain ⟨rfl, rfl, rfl, hX⟩ := hE
  obtain ⟨c1, c2, c3, c4, c5, c6, c7, c8, rfl⟩ := C
  intro H locs ls hP hD hS hL
  refine z_ret hP hD hS c7 hperm (va_runV (C := y.cls) (As := As) ⟨c1, c2, c3, c4, c5⟩ (hM H.size) (cwV n c5 hG hw hm.1 hm.2 hd hR) ⟨zPre_blind, ?_, fun U hU hW => ⟨rfl, z_pre hP hD c6 hX hS c7 hperm U hU hW⟩⟩ rfl hn hL.size hst (lv_room hcat) hdg hf) (fun r w1 H1 locs1 hp hP hD hS => kk r w1 hp H1 locs1 ls hP hD hS hL)
  obtain ⟨k', hk'⟩ := List.getElem?_of_mem (hperm.mem_iff.mpr (List.mem_append_left _ (List.mem_of_getElem? hb)))
  obtain ⟨cell, q1, q2, q3⟩ := va_recv c6 hP hc hk'
  exact ⟨cell, q1, q2, by rw [← hcn]; exact q3⟩
theorem z_callVx (C : zC E cc own Ts rm) (hE : zOf E l D tys) (hM : zNX l y wl rm1 D tys (.ref b :: As) w0 post px mc ms) (hG : GoodIn Ts (wsV own index y.cls y wl)) (hw : wl = Cond.code y bytes maxL ret :: wl') (hm : rm1.cells = mc ∧ rm1.slots = ms) (hd : y.cls = y.cls ∧ y.cls ≠ "java/lang/invoke/MethodHandle" ∧ y.cls ≠ "java/lang/invoke/VarHandle" ∧ (parseMethodDescriptor y.desc).map (fun d => d.parameters.length) = some n) (hR : rm1.frames + 1 ≤ rm.frames ∧ 8 + (maxL + 11) + rm1.locals ≤ rm.locals) (hn : As.length = n) (hst : stk = As.reverse ++ .ref b :: st) (hperm : ws.Perm (w0 ++ fr)) (kb : Nat) {ci : Nat} {fs : List Value} {cl : vw_C} (hb : w0[kb]? = some (b, .inr (ci, fs))) (hc : vwCl[ci]? = some cl) (hcn : cl.1 = y.cls) (hcat : (st.map fun v => v.category).sum ≤ 8) (hf : cells + mc ≤ rm.cells ∧ slots + ms ≤ rm.slots) (hdg : decode cc pc = .ok (.invokevirtual index, 3)) (kx : ∀ Ex : String, px Ex → zV E Q (cells + mc) (slots + ms) ws lv pc st Ex) (kk : ∀ (r : Option Value) (w1 : va_W), post r w1 → zG E Q (cells + mc) (slots + ms) (w1 ++ fr) lv (pc + 3) (r.toList ++ st)) : zG E Q cells slots ws lv pc stk := by
  obtain ⟨p, l', e, R, s, m, args, below, meth, c, D', tys', A, nL⟩ := E
  obtain ⟨rfl, rfl, rfl, hX⟩ := hE
  obtain ⟨c1, c2, c3, c4, c5, c6, c7, c8, rfl⟩ := C
  intro H locs ls hP hD hS hL
  refine z_retx hP hD hS c7 hperm (vx_runV (C := y.cls) (As := As) ⟨c1, c2, c3, c4, c5⟩ (hM H.size) (cwV n c5 hG hw hm.1 hm.2 hd hR) ⟨zPre_blind, ?_, fun U hU hW => ⟨rfl, z_pre hP hD c6 hX hS c7 hperm U hU hW⟩⟩ rfl hn hL.size hst (lv_room hcat) hdg hf) (fun Ex q ce H1 locs1 hp hP hS hq hcv hcl => kx Ex hp H1 locs1 ls q ce hP hD hS hL hq hcv hcl) (fun r w1 H1 locs1 hp hP hD hS => kk r w1 hp H1 locs1 ls hP hD hS hL)
  obtain ⟨k', hk'⟩ := List.getElem?_of_mem (hperm.mem_iff.mpr (List.mem_append_left _ (List.mem_of_getElem? hb)))
  obtain ⟨cell, q1, q2, q3⟩ := va_recv c6 hP hc hk'
  exact ⟨cell, q1, q2, by rw [← hcn]; exact q3⟩
theorem z_callS (C : zC E cc own Ts rm) (hE : zOf E l D tys) (hM : zN l y wl rm1 D tys As w0 post mc ms) (hG : GoodIn Ts (va_wsS own index y wl)) (hw : wl = Cond.code y bytes maxL ret :: wl') (hm : rm1.cells = mc ∧ rm1.slots = ms) (hd : y.cls ≠ "java/lang/invoke/MethodHandle" ∧ y.cls ≠ "java/lang/invoke/VarHandle" ∧ (parseMethodDescriptor y.desc).map (fun d => d.parameters.length) = some n) (hR : rm1.frames + 1 ≤ rm.frames ∧ 8 + (maxL + 11) + rm1.locals ≤ rm.locals) (hn : As.length = n) (hst : stk = As.reverse ++ st) (hperm : ws.Perm (w0 ++ fr)) (hcat : (st.map fun v => v.category).sum ≤ 8) (hf : cells + mc ≤ rm.cells ∧ slots + ms ≤ rm.slots) (hdg : decode cc pc = .ok (.invokestatic index, 3)) (kk : ∀ (r : Option Value) (w1 : va_W), post r w1 → zG E Q (cells + mc) (slots + ms) (w1 ++ fr) lv (pc + 3) (r.toList ++ st)) : zG E Q cells slots ws lv pc stk := by
  obtain ⟨p, l', e, R, s, m, args, below, meth, c, D', tys', A, nL⟩ := E
  obtain ⟨rfl, rfl, rfl, hX⟩ := hE
  obtain ⟨c1, c2, c3, c4, c5, c6, c7, c8, rfl⟩ := C
  intro H locs ls hP hD hS hL
  exact z_ret hP hD hS c7 hperm (va_runS (As := As) ⟨c1, c2, c3, c4, c5⟩ (hM H.size) (va_cwS n c5 hG hw hm.1 hm.2 hd hR) ⟨zPre_blind, fun U hU hW => ⟨rfl, z_pre hP hD c6 hX hS c7 hperm U hU hW⟩⟩ rfl hn hL.size hst (lv_room hcat) hdg hf) (fun r w1 H1 locs1 hp hP hD hS => kk r w1 hp H1 locs1 ls hP hD hS hL)
theorem z_callSN (C : zC E cc own Ts rm) (hE : zOf E l D tys) (hM : zN l y wl rm1 D tys As w0 post mc ms) (hG : GoodIn Ts wl) (hw : wl = Cond.code y bytes maxL ret :: wl') (hm : rm1.cells = mc ∧ rm1.slots = ms) (hl : Cond.methodLinkNest own index y host ∈ zNs) (hini : Cond.initialized y.cls ∈ Ts) (hstt : Cond.static y ∈ Ts) (hd : y.cls ≠ "java/lang/invoke/MethodHandle" ∧ y.cls ≠ "java/lang/invoke/VarHandle" ∧ (parseMethodDescriptor y.desc).map (fun d => d.parameters.length) = some n) (hR : rm1.frames + 1 ≤ rm.frames ∧ 8 + (maxL + 11) + rm1.locals ≤ rm.locals) (hn : As.length = n) (hst : stk = As.reverse ++ st) (hperm : ws.Perm (w0 ++ fr)) (hcat : (st.map fun v => v.category).sum ≤ 8) (hf : cells + mc ≤ rm.cells ∧ slots + ms ≤ rm.slots) (hdg : decode cc pc = .ok (.invokestatic index, 3)) (kk : ∀ (r : Option Value) (w1 : va_W), post r w1 → zG E Q (cells + mc) (slots + ms) (w1 ++ fr) lv (pc + 3) (r.toList ++ st)) : zG E Q cells slots ws lv pc stk := by
  obtain ⟨p, l', e, R, s, m, args, below, meth, c, D', tys', A, nL⟩ := E
  obtain ⟨rfl, rfl, rfl, hX⟩ := hE
  obtain ⟨c1, c2, c3, c4, c5, c6, c7, c8, rfl⟩ := C
  intro H locs ls hP hD hS hL
  exact z_ret hP hD hS c7 hperm (va_runSN (As := As) ⟨c1, c2, c3, c4, c5⟩ (hM H.size) ⟨va_cnB n c5 hG hw hm.1 hm.2 (hX.1 _ hl) (c5 _ hini) hd hR, c5 _ hstt, trivial⟩ ⟨zPre_blind, fun U hU hW => ⟨rfl, z_pre hP hD c6 hX hS c7 hperm U hU hW⟩⟩ rfl hn hL.size hst (lv_room hcat) hdg hf) (fun r w1 H1 locs1 hp hP hD hS => kk r w1 hp H1 locs1 ls hP hD hS hL)
theorem z_callI (C : zC E cc own Ts rm) (hE : zOf E l D tys) (hM : zN l y wl rm1 D tys (.ref b :: As) w0 post mc ms) (hG : GoodIn Ts wl) (hw : wl = Cond.code y bytes maxL none :: wl') (hm : rm1.cells = mc ∧ rm1.slots = ms) (hini : Cond.initialized y.cls ∈ Ts) (hlk : Cond.methodLink own index y ∈ Ts) (hin : Cond.instanceMethod y ∈ Ts) (hy1 : y.name = "<init>") (hd : y.cls ≠ "java/lang/invoke/MethodHandle" ∧ y.cls ≠ "java/lang/invoke/VarHandle" ∧ (parseMethodDescriptor y.desc).map (fun d => d.parameters.length) = some n) (hR : rm1.frames + 1 ≤ rm.frames ∧ 8 + (maxL + 11) + rm1.locals ≤ rm.locals) (hn : As.length = n) (hst : stk = As.reverse ++ .ref b :: st) (hperm : ws.Perm (w0 ++ fr)) (hcat : (st.map fun v => v.category).sum ≤ 8) (hf : cells + mc ≤ rm.cells ∧ slots + ms ≤ rm.slots) (hdg : decode cc pc = .ok (.invokespecial index, 3)) (kk : ∀ (r : Option Value) (w1 : va_W), post r w1 → zG E Q (cells + mc) (slots + ms) (w1 ++ fr) lv (pc + 3) (r.toList ++ st)) : zG E Q cells slots ws lv pc stk := by
  obtain ⟨p, l', e, R, s, m, args, below, meth, c, D', tys', A, nL⟩ := E
  obtain ⟨rfl, rfl, rfl, hX⟩ := hE
  obtain ⟨c1, c2, c3, c4, c5, c6, c7, c8, rfl⟩ := C
  intro H locs ls hP hD hS hL
  exact z_ret hP hD hS c7 hperm (va_runI (As := As) ⟨c1, c2, c3, c4, c5⟩ (hM H.size) (cwI n c5 hG hw hm.1 hm.2 (c5 _ hini) (c5 _ hlk) (c5 _ hin) hy1 hd hR) ⟨zPre_blind, fun U hU hW => ⟨rfl, z_pre hP hD c6 hX hS c7 hperm U hU hW⟩⟩ rfl hn hL.size hst (lv_room hcat) hdg hf) (fun r w1 H1 locs1 hp hP hD hS => kk r w1 hp H1 locs1 ls hP hD hS hL)
theorem z_callIN (C : zC E cc own Ts rm) (hE : zOf E l D tys) (hM : zN l y wl rm1 D tys (.ref b :: As) w0 post mc ms) (hG : GoodIn Ts wl) (hw : wl = Cond.code y bytes maxL none :: wl') (hm : rm1.cells = mc ∧ rm1.slots = ms) (hl : Cond.methodLinkNest own index y host ∈ zNs) (hini : Cond.initialized y.cls ∈ Ts) (hin : Cond.instanceMethod y ∈ Ts) (hy1 : y.name = "<init>") (hd : y.cls ≠ "java/lang/invoke/MethodHandle" ∧ y.cls ≠ "java/lang/invoke/VarHandle" ∧ (parseMethodDescriptor y.desc).map (fun d => d.parameters.length) = some n) (hR : rm1.frames + 1 ≤ rm.frames ∧ 8 + (maxL + 11) + rm1.locals ≤ rm.locals) (hn : As.length = n) (hst : stk = As.reverse ++ .ref b :: st) (hperm : ws.Perm (w0 ++ fr)) (hcat : (st.map fun v => v.category).sum ≤ 8) (hf : cells + mc ≤ rm.cells ∧ slots + ms ≤ rm.slots) (hdg : decode cc pc = .ok (.invokespecial index, 3)) (kk : ∀ (r : Option Value) (w1 : va_W), post r w1 → zG E Q (cells + mc) (slots + ms) (w1 ++ fr) lv (pc + 3) (r.toList ++ st)) : zG E Q cells slots ws lv pc stk := by
  obtain ⟨p, l', e, R, s, m, args, below, meth, c, D', tys', A, nL⟩ := E
  obtain ⟨rfl, rfl, rfl, hX⟩ := hE
  obtain ⟨c1, c2, c3, c4, c5, c6, c7, c8, rfl⟩ := C
  intro H locs ls hP hD hS hL
  exact z_ret hP hD hS c7 hperm (va_runIN (As := As) ⟨c1, c2, c3, c4, c5⟩ (hM H.size) ⟨va_cnB n c5 hG hw hm.1 hm.2 (hX.1 _ hl) (c5 _ hini) hd hR, hy1, c5 _ hin⟩ ⟨zPre_blind, fun U hU hW => ⟨rfl, z_pre hP hD c6 hX hS c7 hperm U hU hW⟩⟩ rfl hn hL.size hst (lv_room hcat) hdg hf) (fun r w1 H1 locs1 hp hP hD hS => kk r w1 hp H1 locs1 ls hP hD hS hL)
theorem z_objInit (C : zC E cc own Ts rm) {idx b : Nat} (h1 : Cond.methodLink own idx objectInit ∈ Ts) (h2 : Cond.instanceMethod objectInit ∈ Ts) (h3 : Cond.code objectInit ⟨#[0xb1]⟩ 1 none ∈ Ts) (hcat : (st.map fun v => v.category).sum ≤ 8) (hr : 1 ≤ rm.frames ∧ 20 ≤ rm.locals) (hdg : decode cc pc = .ok (.invokespecial idx, 3)) (k : zG E Q cells slots ws lv (pc + 3) st) : zG E Q cells slots ws lv pc (.ref b :: st) := by
  obtain ⟨p, l, e, R, s, m, args, below, meth, c, D, tys, A, nL⟩ := E
  obtain ⟨c1, c2, c3, c4, c5, c6, c7, c8, rfl⟩ := C
  intro H locs ls hP hD hS hL
  refine W.objInit c1 c2 c4 (c5 _ h1) (c5 _ h2) (c5 _ h3) rfl (hL.size.trans c3.symm) rfl hdg hr.1 ?_ (k H locs ls hP hD hS hL)
  have := lv_room (m := m) (pc := pc) (ls := ls) (rest := .ref b :: st) hcat
  omega
theorem z_max (C : zC E cc own Ts rm) {x y : Int32} {idx : Nat} (h1 : Cond.methodLink own idx Lib.Math.max.name ∈ Ts) (h2 : Cond.static Lib.Math.max.name ∈ Ts) (h3 : Cond.initialized "java/lang/Math" ∈ Ts) (h4 : Cond.code Lib.Math.max.name Lib.Math.max.code 2 (some .int) ∈ Ts) (hcat : (st.map fun v => v.category).sum ≤ 8) (hr : 1 ≤ rm.frames ∧ 21 ≤ rm.locals) (hc : cells ≤ rm.cells ∧ slots ≤ rm.slots) (hdg : decode cc pc = .ok (.invokestatic idx, 3)) (k : zG E Q cells slots ws lv (pc + 3) (.int (if x < y then y else x) :: st)) : zG E Q cells slots ws lv pc (.int y :: .int x :: st) := by
  obtain ⟨p, l, e, R, s, m, args, below, meth, c, D, tys, A, nL⟩ := E
  obtain ⟨c1, c2, c3, c4, c5, c6, c7, c8, rfl⟩ := C
  intro H locs ls hP hD hS hL
  exact va_mmax c1 c2 (c3.trans hL.size.symm) c4 (c5 _ h1) (c5 _ h2) (c5 _ h3) (c5 _ h4) hr.1 (by omega) hc.1 hc.2 hdg (k H locs ls hP hD hS hL)
theorem z_min (C : zC E cc own Ts rm) {x y : Int32} {idx : Nat} (h1 : Cond.methodLink own idx Lib.Math.min.name ∈ Ts) (h2 : Cond.static Lib.Math.min.name ∈ Ts) (h3 : Cond.initialized "java/lang/Math" ∈ Ts) (h4 : Cond.code Lib.Math.min.name Lib.Math.min.code 2 (some .int) ∈ Ts) (hcat : (st.map fun v => v.category).sum ≤ 8) (hr : 1 ≤ rm.frames ∧ 21 ≤ rm.locals) (hc : cells ≤ rm.cells ∧ slots ≤ rm.slots) (hdg : decode cc pc = .ok (.invokestatic idx, 3)) (k : zG E Q cells slots ws lv (pc + 3) (.int (if y < x then y else x) :: st)) : zG E Q cells slots ws lv pc (.int y :: .int x :: st) := by
  obtain ⟨p, l, e, R, s, m, args, below, meth, c, D, tys, A, nL⟩ := E
  obtain ⟨c1, c2, c3, c4, c5, c6, c7, c8, rfl⟩ := C
  intro H locs ls hP hD hS hL
  exact va_mmin c1 c2 (c3.trans hL.size.symm) c4 (c5 _ h1) (c5 _ h2) (c5 _ h3) (c5 _ h4) hr.1 (by omega) hc.1 hc.2 hdg (k H locs ls hP hD hS hL)
/-- throw new X("text") that leaves the method -/
theorem z_throw (C : zC E cc own Ts rm) (hE : zOf E l D tys) (hT : zThr E Q w0 px mc ms) (ho : own = RX4) {cls text : String} {ik is ic : Nat} (hw : ws = w0) (hpx : px cls) (hcls : Bundle.fit cls = true) (hk : Cond.classLink own ik cls ∈ Ts) (hini : Cond.initialized cls ∈ Ts) (hat : ∀ w ∈ (vx_atS own ic cls ["java/lang/RuntimeException", "java/lang/Exception"]).filter goodWord, w ∈ Ts) (hng : ∀ w ∈ (vx_atS own ic cls ["java/lang/RuntimeException", "java/lang/Exception"]).filter (fun w => !goodWord w), w ∈ zNs)
    (hgood : ∀ w ∈ Cond.classLink own ik cls :: Cond.initialized cls :: vx_atS own ic cls ["java/lang/RuntimeException", "java/lang/Exception"], vx_ot w = true) (hs : (is, text) ∈ zSt)
    (d0 : decode cc pc = .ok (.new ik, 3)) (d3 : decode cc (pc + 3) = .ok (.dup, 1)) (d4 : decode cc (pc + 4) = .ok (.ldc is, 2)) (d6 : decode cc (pc + 6) = .ok (.invokespecial ic, 3)) (d9 : decode cc (pc + 9) = .ok (.athrow, 1))
    (hcat : (st.map fun v => v.category).sum ≤ 8) (hr : 6 ≤ rm.frames ∧ 90 ≤ rm.locals) (hc : cells + 1 ≤ rm.cells ∧ slots + 6 ≤ rm.slots) (hm : cells + 1 ≤ mc ∧ slots + 6 ≤ ms) : zG E Q cells slots ws lv pc st := by
  obtain ⟨p, l', e, R, s, m, args, below, meth, c, D', tys', A, nL⟩ := E
  obtain ⟨rfl, rfl, rfl, hX⟩ := hE
  obtain ⟨c1, c2, c3, c4, c5, c6, c7, c8, rfl⟩ := C
  obtain ⟨t1, t2, post, rfl⟩ := hT
  subst hw
  intro H locs ls hP hD hS hL
  obtain ⟨sa, hsa⟩ := hX.2.2.1 _ hs
  refine vx_throwS (names := ["java/lang/RuntimeException", "java/lang/Exception"]) c1 c2 t2 c4 hcls (by decide +kernel) (c5 _ hk) (c5 _ hini) (by rw [ho]; exact hsa) (vx_hat (fun w hw => c5 _ (hat w hw)) hng (fun w hw => va_Nw.use (zNs_tables w hw) (hX.1 w hw))) hgood hX.2.2.2.2.1 hX.2.2.2.2.2 hS (hL.size.trans c3.symm) d0 d3 d4 d6 d9 (fun x hx => (t1 x hx).elim) (by show 2 + 3 < _; omega) (by show _ + (13 * (2 + 1) + 43) ≤ _; omega) hc.1 hc.2 c8 (fun t hv hz hk => ⟨hpx, ?_, ?_⟩) hS.2.2 hm.1 hm.2
  · exact hP.kept fun k q hq => hk q.1 (hP k q hq).lt
  · exact ⟨Nat.le_trans hS.1 hz, fun q h1 h2 => by rw [hk q (Nat.lt_of_lt_of_le h1 hS.1)]; exact hS.2.1 q h1 h2⟩
/-- a callee's throw leaves the method -/
theorem z_out (C : zC E cc own Ts rm) (hT : zThr E Q w0 px mc ms) {Ex : String} (hw : ws = w0) (hpx : px Ex) (hm : cells ≤ mc ∧ slots ≤ ms) : zV E Q cells slots ws lv pc st Ex := by
  obtain ⟨p, l', e, R, s, m, args, below, meth, c, D', tys', A, nL⟩ := E
  obtain ⟨c1, c2, c3, c4, c5, c6, c7, c8, rfl⟩ := C
  obtain ⟨t1, t2, post, rfl⟩ := hT
  subst hw
  intro H locs ls q ce hP hD hS hL hq hcv hcl
  exact vx_out (fun x hx => (t1 x hx).elim) c8 hq hcv hcl (fun t ht _ => ⟨hpx, by rw [ht]; exact hP, hS.F ht⟩) hS.2.2 hm.1 hm.2
end ZM
