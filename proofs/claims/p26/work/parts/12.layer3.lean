/-! THE LAYER, third part: worlds up to their order, contracts, calls, ends. -/
theorem zP_mem {D : va_G} {ws : va_W} {H : Heap} : va_P D vwCl ws H ↔ ∀ q ∈ ws, va_at D vwCl q H := by
  constructor
  · intro h q hq
    obtain ⟨k, hk⟩ := List.getElem?_of_mem hq
    exact h k q hk
  · intro h k q hk
    exact h q (List.mem_of_getElem? hk)
theorem zD_mem {A : Nat → Prop} {ws : va_W} : va_D A ws ↔ (ws.map (·.1)).Nodup ∧ ∀ q ∈ ws, A q.1 := by
  constructor
  · intro h
    refine ⟨?_, fun q hq => ?_⟩
    · refine List.pairwise_iff_getElem.mpr fun i j hi hj hij he => ?_
      rw [List.length_map] at hi hj
      rw [List.getElem_map, List.getElem_map] at he
      have := h.1 i j _ _ (List.getElem?_eq_getElem hi) (List.getElem?_eq_getElem hj) he
      omega
    · obtain ⟨k, hk⟩ := List.getElem?_of_mem hq
      exact h.2 k q hk
  · intro ⟨h1, h2⟩
    refine ⟨fun i j p q hp hq he => ?_, fun k q hk => h2 q (List.mem_of_getElem? hk)⟩
    have h1' := List.pairwise_iff_getElem.mp h1
    have hi := (List.getElem?_eq_some_iff.mp hp)
    have hj := (List.getElem?_eq_some_iff.mp hq)
    obtain ⟨hi, ei⟩ := hi
    obtain ⟨hj, ej⟩ := hj
    subst ei; subst ej
    have key : ∀ (i j : Nat) (hi : i < ws.length) (hj : j < ws.length), i < j → ws[i].1 ≠ ws[j].1 := by
      intro i j hi hj hij
      have := h1' i j (by rw [List.length_map]; exact hi) (by rw [List.length_map]; exact hj) hij
      rw [List.getElem_map, List.getElem_map] at this
      exact this
    rcases Nat.lt_trichotomy i j with hij | hij | hij
    · exact absurd he (key i j hi hj hij)
    · exact hij
    · exact absurd he.symm (key j i hj hi hij)
theorem zP_perm {D : va_G} {ws ws' : va_W} {H : Heap} (h : ws.Perm ws') (hP : va_P D vwCl ws H) : va_P D vwCl ws' H := zP_mem.mpr fun q hq => zP_mem.mp hP q (h.mem_iff.mpr hq)
theorem zD_perm {A : Nat → Prop} {ws ws' : va_W} (h : ws.Perm ws') (hD : va_D A ws) : va_D A ws' := by
  obtain ⟨h1, h2⟩ := zD_mem.mp hD
  exact zD_mem.mpr ⟨(h.map _).nodup_iff.mp h1, fun q hq => h2 q (h.mem_iff.mpr hq)⟩
theorem zA_mem {ws : va_W} {sz q : Nat} : va_A ws sz q ↔ (∃ e, (q, e) ∈ ws) ∨ sz ≤ q := by
  constructor
  · rintro (⟨k, e, h⟩ | h)
    · exact Or.inl ⟨e, List.mem_of_getElem? h⟩
    · exact Or.inr h
  · rintro (⟨e, h⟩ | h)
    · obtain ⟨k, hk⟩ := List.getElem?_of_mem h
      exact Or.inl ⟨k, e, hk⟩
    · exact Or.inr h
/-- the frame rule -/
theorem z_frame {D : va_G} {A0 : Nat → Prop} {w0 w1 fr : va_W} {H H1 : Heap} (hP : va_P D vwCl (w0 ++ fr) H) (hD : va_D A0 (w0 ++ fr)) (hF : ∀ q, va_A w0 H.size q → A0 q) (hk : ∀ q : Nat, q < H.size → ¬ va_A w0 H.size q → H1[q]? = H[q]?) (hP1 : va_P D vwCl w1 H1) (hD1 : va_D (va_A w0 H.size) w1) : va_P D vwCl (w1 ++ fr) H1 ∧ va_D A0 (w1 ++ fr) := by
  have hPm := zP_mem.mp hP
  obtain ⟨n1, n2⟩ := zD_mem.mp hD
  obtain ⟨m1, m2⟩ := zD_mem.mp hD1
  rw [List.map_append, List.nodup_append] at n1
  obtain ⟨a1, a2, a3⟩ := n1
  have out : ∀ q ∈ fr, q.1 < H.size ∧ ¬ va_A w0 H.size q.1 := by
    intro q hq
    have hl := (hPm q (List.mem_append_right _ hq)).lt
    refine ⟨hl, fun h => ?_⟩
    rcases zA_mem.mp h with ⟨e, h⟩ | h
    · exact a3 q.1 (List.mem_map.mpr ⟨_, h, rfl⟩) q.1 (List.mem_map.mpr ⟨q, hq, rfl⟩) rfl
    · omega
  refine ⟨zP_mem.mpr fun q hq => ?_, zD_mem.mpr ⟨?_, fun q hq => ?_⟩⟩
  · rcases List.mem_append.mp hq with h | h
    · exact zP_mem.mp hP1 q h
    · exact (hPm q (List.mem_append_right _ h)).kept (hk q.1 (out q h).1 (out q h).2)
  · rw [List.map_append, List.nodup_append]
    refine ⟨m1, a2, fun x hx y hy hxy => ?_⟩
    obtain ⟨p, hp, rfl⟩ := List.mem_map.mp hx
    obtain ⟨q, hq, rfl⟩ := List.mem_map.mp hy
    exact (out q hq).2 (by rw [← hxy]; exact m2 p hp)
  · rcases List.mem_append.mp hq with h | h
    · exact hF q.1 (m2 q h)
    · exact n2 q (List.mem_append_right _ h)
/-- the words that the good ones don't hold -/
def zNs : List Cond := [.methodLinkNest RX4 31 yX0_init "PaperGuild", .methodLinkNest RX4 41 yX1_init "PaperGuild", .methodLinkNest RX1 41 yX4_holds "PaperGuild", .methodLinkNest RX2 34 yX3_init "PaperGuild",
  .declares (Bundle.initS "java/lang/RuntimeException"), .declares (Bundle.initS "java/lang/Exception"), .declares (Bundle.initS Bundle.tN),
  .castable "java/lang/IndexOutOfBoundsException" "java/lang/IndexOutOfBoundsException", .castable "java/lang/IllegalArgumentException" "java/lang/IllegalArgumentException", .castable "java/lang/IllegalStateException" "java/lang/IllegalStateException"]
def zSt : List (Nat × String) := [(202, "no such kind"), (52, "needs out of range"), (65, "kinds would need one another round"), (204, "no such author"), (70, "length out of range"), (74, "no room for another model"), (208, "no such model"), (93, "place out of range"), (98, "no room for another step"), (107, "a kind that is needed is missing"), (113, "no steps"), (125, "models would use one another round"), (128, "set out of range"), (206, "no such pupil"), (139, "a kind that is needed is not known"), (151, "no such place"), (157, "not so many cells"), (210, "no such cell"), (185, "age out of range")]
def zNo : List (String × String) := [("java/lang/IllegalArgumentException", "java/lang/IllegalStateException"), ("java/lang/IllegalStateException", "java/lang/IllegalArgumentException"), ("java/lang/IndexOutOfBoundsException", "java/lang/IllegalArgumentException"), ("java/lang/IndexOutOfBoundsException", "java/lang/IllegalStateException")]
/-- what every method's start gives beside its words -/
def zX (A : Nat → Prop) (U : State) : Prop :=
  (∀ w ∈ zNs, va_Nw w U) ∧ va_AO "PaperGuild$Model" U ∧ (∀ q ∈ zSt, ∃ a : Nat, vk_R RX4 q.1 q.2 a U) ∧ (∀ q ∈ zNo, va_Nc q.1 q.2 U) ∧ vx_Zq Bundle.tN "UNASSIGNED_STACK" Bundle.steD A U U.heap ∧ vx_Zq Bundle.tN "SUPPRESSED_SENTINEL" Bundle.listD A U U.heap
theorem zNs_warm {s U : State} (hW : s.WarmedH U.vm) : ∀ w ∈ zNs, va_Nw w s → va_Nw w U := by
  intro w hw h
  simp only [zNs, List.mem_cons, List.not_mem_nil, or_false] at hw
  rcases hw with rfl | rfl | rfl | rfl | rfl | rfl | rfl | rfl | rfl | rfl
  · exact h.warmM hW
  · exact h.warmM hW
  · exact h.warmM hW
  · exact h.warmM hW
  · exact h.warmD hW
  · exact h.warmD hW
  · exact h.warmD hW
  · exact h.warmC hW
  · exact h.warmC hW
  · exact h.warmC hW
theorem zNs_tables : ∀ w ∈ zNs, w.onTables = true := by decide +kernel
theorem zX.go {A B : Nat → Prop} {s U : State} {H : Heap} {locs : List Loc} (h : zX A s) (hS : va_S A s.heap H locs) (hU : U.heap = H) (hW : s.WarmedH U.vm) (hAB : ∀ q, B q → A q) : zX B U := by
  obtain ⟨h1, h2, h3, h4, h5, h6⟩ := h
  have hk : ∀ a : Nat, a < s.heap.size → ¬ A a → U.heap[a]? = s.heap[a]? := fun a h h' => by rw [hU]; exact hS.2.1 a h h'
  refine ⟨fun w hw => zNs_warm hW w hw (h1 w hw), va_AO.moved hW.alike h2, fun q hq => ?_, fun q hq => va_Nc.moved hW.alike (h4 q hq), ((h5.moved hW.alike).kept hk).narrow hAB, ((h6.moved hW.alike).kept hk).narrow hAB⟩
  obtain ⟨a, ha⟩ := h3 q hq
  exact ⟨a, ha.warm hW⟩
theorem zX.calling {A : Nat → Prop} {U : State} (h : zX A U) (g : JFrame) (mk : MethodId) (a : Array Value) : zX A (U.calling g mk a) := by
  obtain ⟨h1, h2, h3, h4, h5, h6⟩ := h
  refine ⟨fun w hw => va_Nw.same (u := U) (zNs_tables w hw) rfl (h1 w hw), va_AO.moved (u := U) (Vm.Alike.refl U.vm) h2, fun q hq => ?_, fun q hq => va_Nc.moved (u := U) (Vm.Alike.refl U.vm) (h4 q hq), h5.moved (u := U) (Vm.Alike.refl U.vm), h6.moved (u := U) (Vm.Alike.refl U.vm)⟩
  obtain ⟨b, hb⟩ := h3 q hq
  exact ⟨b, vk_R.same (u := U) rfl hb⟩
/-- a contract's start: the world w0 -/
def zPre (D : va_G) (tys : List (ClassId × FieldType)) (w0 : va_W) (sz : Nat) : State → Prop := fun U => U.heap.size = sz ∧ va_P D vwCl w0 U.heap ∧ va_K D vwCl tys U ∧ va_D (fun _ => True) w0 ∧ zX (va_A w0 sz) U
/-- its end: an answer and a world -/
def zQ (D : va_G) (post : Option Value → va_W → Prop) (A : Nat → Prop) : Array Value → State → Outcome → State → Prop := fun _ st oc t => (∃ (r : Option Value) (w1 : va_W), oc = .returned r ∧ post r w1 ∧ va_P D vwCl w1 t.heap ∧ va_D A w1) ∧ va_F A st t
/-- its throw: a class, the world as it was -/
def zXC (D : va_G) (w0 : va_W) (px : String → Prop) (A : Nat → Prop) : String → State → State → Prop := fun E st t => px E ∧ va_P D vwCl w0 t.heap ∧ va_F A st t
def zN (l : Launch) (y : MethodName) (wl : List Cond) (rm : Room) (D : va_G) (tys : List (ClassId × FieldType)) (av : List Value) (w0 : va_W) (post : Option Value → va_W → Prop) (mc ms : Nat) : Prop :=
  ∀ sz : Nat, Met l y wl rm (va_Pc av (zPre D tys w0 sz)) (zQ D post (va_A w0 sz)) mc ms (va_A w0 sz)
def zNX (l : Launch) (y : MethodName) (wl : List Cond) (rm : Room) (D : va_G) (tys : List (ClassId × FieldType)) (av : List Value) (w0 : va_W) (post : Option Value → va_W → Prop) (px : String → Prop) (mc ms : Nat) : Prop :=
  ∀ sz : Nat, vx_Met l y wl rm (va_Pc av (zPre D tys w0 sz)) (zQ D post (va_A w0 sz)) (zXC D w0 px (va_A w0 sz)) mc ms (va_A w0 sz)
theorem zPre_blind {D : va_G} {tys : List (ClassId × FieldType)} {w0 : va_W} {sz : Nat} {av : List Value} : FrameBlind (va_Pc av (zPre D tys w0 sz)) := by
  intro a U g mk h
  obtain ⟨h0, h1, h2, h3, h4, h5⟩ := h
  exact ⟨h0, h1, h2, va_K.moved (u := U) (U := U.calling g mk a) (Vm.Alike.refl U.vm) h3, h4, h5.calling g mk a⟩
/-- E is of this launch, these classes -/
def zOf (E : zE) (l : Launch) (D : va_G) (tys : List (ClassId × FieldType)) : Prop :=
  match E with
  | (_, l', _, _, s, _, _, _, _, _, D', tys', A, _) => l' = l ∧ D' = D ∧ tys' = tys ∧ zX A s
theorem zT_of {E : zE} {l : Launch} {D : va_G} {tys : List (ClassId × FieldType)} {t0 : Nat} {cA : ClassId} {ty : FieldType} (h : zOf E l D tys) (ht : tys[t0]? = some (cA, ty)) : zT E t0 cA ty := by
  obtain ⟨p, l, e, R, s, m, args, below, meth, c, D, tys, A, nL⟩ := E
  obtain ⟨rfl, rfl, rfl, -⟩ := h
  exact ht
/-- how E's method may end -/
def zRet (E : zE) (Q : State → Prop) (ret : Option FieldType) (post : Option Value → va_W → Prop) (mc ms : Nat) : Prop :=
  match E with
  | (p, l, e, R, s, m, args, below, meth, c, D, _, A, _) => meth.sig.returnType = ret ∧ ∀ (H : Heap) (locs : List Loc) (g : JFrame), W p l e R s m args below meth c H locs mc ms (MQ below (zQ D post A) args s mc ms A) g → W p l e R s m args below meth c H locs mc ms Q g
/-- q, thrown over the frame at pc -/
def zV (E : zE) (Q : State → Prop) (cells slots : Nat) (ws : va_W) (lv : List (Option Value)) (pc : Nat) (st : List Value) (Ex : String) : Prop :=
  match E with
  | (p, l, e, R, s, m, args, below, meth, c, D, _, A, nL) => ∀ (H : Heap) (locs : List Loc) (ls : Array Slot) (q : Nat) (ce : Cell), va_P D vwCl ws H → va_D A ws → va_S A s.heap H locs → zL nL ls lv → H[q]? = some ce → ce.vm = .none → s.vm.findClass Ex = some ce.cls → vx_W p l e R s m args below meth c H locs cells slots Q (F0 m pc ls st) q
/-- how E's method may throw -/
def zThr (E : zE) (Q : State → Prop) (w0 : va_W) (px : String → Prop) (mc ms : Nat) : Prop :=
  match E with
  | (_, l, _, _, s, _, args, below, _, c, D, _, A, _) => (∀ x ∈ c.exceptionTable.toList, False) ∧ l.stackTraces = false ∧ ∃ post : Option Value → va_W → Prop, Q = vx_MQ below (zQ D post A) (zXC D w0 px A) args s mc ms A
section ZC
variable {E : zE} {Q : State → Prop} {cells slots : Nat} {ws ws' : va_W} {lv : List (Option Value)} {pc : Nat} {st : List Value} {cc : ByteArray} {own : String} {Ts : List Cond} {rm : Room}
variable {l : Launch} {D : va_G} {tys : List (ClassId × FieldType)} {post : Option Value → va_W → Prop} {mc ms : Nat}
theorem z_perm (h : ws.Perm ws') (k : zG E Q cells slots ws' lv pc st) : zG E Q cells slots ws lv pc st := by
  obtain ⟨p, l, e, R, s, m, args, below, meth, c, D, tys, A, nL⟩ := E
  intro H locs ls hP hD hS hL
  exact k H locs ls (zP_perm h hP) (zD_perm h hD) hS hL
theorem z_iret (C : zC E cc own Ts rm) (hR : zRet E Q (some .int) post mc ms) {v : Int32} (hdg : decode cc pc = .ok (.ireturn, 1)) (hc : cells ≤ mc) (hs : slots ≤ ms) (hp : post (some (.int v)) ws) : zG E Q cells slots ws lv pc [.int v] := by
  obtain ⟨p, l, e, R, s, m, args, below, meth, c, D, tys, A, nL⟩ := E
  intro H locs ls hP hD hS hL
  refine W.widen hc hs (hR.2 H locs _ ?_)
  exact W.iret C.1 C.2.1 hR.1 (fun t ht _ => ⟨⟨_, ws, rfl, hp, by rw [ht]; exact hP, hD⟩, hS.F ht⟩) hS.2.2 hdg C.2.2.2.2.2.2.2.1
theorem z_zret (C : zC E cc own Ts rm) (hR : zRet E Q (some .boolean) post mc ms) {v : Int32} (hn : narrow .boolean (.int v) = .int v) (hdg : decode cc pc = .ok (.ireturn, 1)) (hc : cells ≤ mc) (hs : slots ≤ ms) (hp : post (some (.int v)) ws) : zG E Q cells slots ws lv pc [.int v] := by
  obtain ⟨p, l, e, R, s, m, args, below, meth, c, D, tys, A, nL⟩ := E
  intro H locs ls hP hD hS hL
  refine W.widen hc hs (hR.2 H locs _ ?_)
  exact W.zret C.1 C.2.1 hR.1 hn (fun t ht _ => ⟨⟨_, ws, rfl, hp, by rw [ht]; exact hP, hD⟩, hS.F ht⟩) hS.2.2 hdg C.2.2.2.2.2.2.2.1
theorem z_vret (C : zC E cc own Ts rm) (hR : zRet E Q none post mc ms) (hdg : decode cc pc = .ok (.return_, 1)) (hc : cells ≤ mc) (hs : slots ≤ ms) (hp : post none ws) : zG E Q cells slots ws lv pc [] := by
  obtain ⟨p, l, e, R, s, m, args, below, meth, c, D, tys, A, nL⟩ := E
  intro H locs ls hP hD hS hL
  refine W.widen hc hs (hR.2 H locs _ ?_)
  exact W.vret C.1 C.2.1 hR.1 (fun t ht _ => ⟨⟨_, ws, rfl, hp, by rw [ht]; exact hP, hD⟩, hS.F ht⟩) hS.2.2 hdg C.2.2.2.2.2.2.2.1
theorem z_aret (C : zC E cc own Ts rm) {rt : String} (hR : zRet E Q (some (.object rt)) post mc ms) {a : Nat} (hdg : decode cc pc = .ok (.areturn, 1)) (hc : cells ≤ mc) (hs : slots ≤ ms) (hp : post (some (.ref a)) ws) : zG E Q cells slots ws lv pc [.ref a] := by
  obtain ⟨p, l, e, R, s, m, args, below, meth, c, D, tys, A, nL⟩ := E
  intro H locs ls hP hD hS hL
  refine W.widen hc hs (hR.2 H locs _ ?_)
  exact W.aret C.1 C.2.1 hR.1 (Or.inl ⟨rt, rfl⟩) (Or.inr ⟨a, rfl⟩) (fun t ht _ => ⟨⟨_, ws, rfl, hp, by rw [ht]; exact hP, hD⟩, hS.F ht⟩) hS.2.2 hdg C.2.2.2.2.2.2.2.1
/-- the entry's locals -/
theorem z_args {vs : List Value} : ∀ (k : Nat), vs.all (fun v => v.category == 1) = true → (lg_sl vs).length = vs.length ∧ ∀ (i : Nat) (v : Value), vs[i]? = some v → (k + i, v) ∈ lv_args k vs ∧ v.category = 1 := by
  induction vs with
  | nil => intro k _; exact ⟨rfl, fun i v h => by simp at h⟩
  | cons a r ih =>
    intro k h
    rw [List.all_cons, Bool.and_eq_true, beq_iff_eq] at h
    have hne : ¬ a.category = 2 := by omega
    obtain ⟨g1, g2⟩ := ih (k + 1) h.2
    refine ⟨by simp [lg_sl, hne] at g1 ⊢; omega, fun i v hi => ?_⟩
    simp only [lv_args, hne, if_false]
    cases i with
    | zero =>
      have : a = v := by simpa using hi
      subst this
      exact ⟨List.mem_cons_self, h.1⟩
    | succ i =>
      have hi' : r[i]? = some v := by simpa using hi
      obtain ⟨q1, q2⟩ := g2 i v hi'
      refine ⟨List.mem_cons_of_mem _ ?_, q2⟩
      rw [show k + (i + 1) = k + 1 + i by omega]
      exact q1
theorem z_entry {vs : List Value} {n : Nat} {lv : List (Option Value)} (hc : vs.all (fun v => v.category == 1) = true) (hn : vs.length ≤ n) (hlv : vs.map some ++ List.replicate (n - vs.length) none = lv) : zL n ((lg_sl vs ++ List.replicate (n - (lg_sl vs).length) Slot.unset).toArray) lv := by
  obtain ⟨g1, g2⟩ := z_args 0 hc
  subst hlv
  refine ⟨by simp; omega, _, lv_entry vs (by rw [g1]; exact hn), fun i v hi => ?_⟩
  by_cases hlt : i < vs.length
  · rw [List.getElem?_append_left (by simpa using hlt)] at hi
    have h9 : vs[i]? = some v := by
      rw [List.getElem?_map] at hi
      cases hv : vs[i]? with
      | none => rw [hv] at hi; cases hi
      | some w => rw [hv] at hi; simpa using hi
    have := g2 i v h9
    rw [Nat.zero_add] at this
    exact this
  · rw [List.getElem?_append_right (by simp; omega), List.getElem?_replicate] at hi
    split at hi <;> simp at hi
theorem zN_of {y : MethodName} {wl wl' : List Cond} {rm : Room} {vs : List Value} {w0 : va_W} {cc : ByteArray} {maxL : Nat} {ret : Option FieldType} {lv0 : List (Option Value)} (hy : plainName y.cls = true) (hw : wl = Cond.code y cc maxL ret :: wl') (hcat : vs.all (fun v => v.category == 1) = true) (hlen : vs.length ≤ maxL) (hlv : vs.map some ++ List.replicate (maxL - vs.length) none = lv0)
    (body : ∀ (E : zE) (Q : State → Prop), zC E cc y.cls wl rm → zOf E l D tys → zRet E Q ret post mc ms → (y.name = "<init>" → zInit E) → zG E Q 0 0 w0 lv0 0 []) : zN l y wl rm D tys vs w0 post mc ms := by
  intro sz
  refine Met.ofW (cc := cc) (maxL := maxL) (ret := ret) hy hw ?_
  intro p e s m args below meth c s₁ B hml hv
  obtain ⟨rfl, hsz, hP, hK, hD0, hX⟩ := hv
  have hts := atoms_spec (ws := wl) B.pre
  have hown : s.vm.findClass y.cls = some m.cls := findClass_of_methodNamed B.named
  subst hsz
  have hD := hD0.self (sz := s.heap.size)
  rw [lg_entry_eq]
  have hA : ∀ q : Nat, s.heap.size ≤ q → va_A w0 s.heap.size q := fun q h => Or.inr h
  exact body (p, l, e, (headSpec wl rm).room, s, m, vs.toArray, below, meth, c, D, tys, va_A w0 s.heap.size, maxL) _ ⟨B.exec, B.bytes, hml, hown, hts, hK, hA, B.notSynchronized, rfl⟩ ⟨rfl, rfl, rfl, hX⟩ ⟨B.returns, fun _ _ _ h => h⟩ (fun hn => (name_of_methodNamed B.named B.method).1.trans hn) s.heap [] _ hP hD va_S.rf (z_entry hcat hlen hlv)
theorem zNX_of {y : MethodName} {wl wl' : List Cond} {rm : Room} {vs : List Value} {w0 : va_W} {px : String → Prop} {cc : ByteArray} {maxL : Nat} {ret : Option FieldType} {lv0 : List (Option Value)} (hl : l.stackTraces = false) (hy : plainName y.cls = true) (hw : wl = Cond.code y cc maxL ret :: wl') (hcat : vs.all (fun v => v.category == 1) = true) (hlen : vs.length ≤ maxL) (hlv : vs.map some ++ List.replicate (maxL - vs.length) none = lv0)
    (body : ∀ (E : zE) (Q : State → Prop), zC E cc y.cls wl rm → zOf E l D tys → zRet E Q ret post mc ms → zThr E Q w0 px mc ms → zG E Q 0 0 w0 lv0 0 []) : zNX l y wl rm D tys vs w0 post px mc ms := by
  intro sz
  refine vx_ofW (cc := cc) (maxL := maxL) (ret := ret) hy hw ?_
  intro p e s m args below meth c s₁ B hml hno hv
  obtain ⟨rfl, hsz, hP, hK, hD0, hX⟩ := hv
  have hts := atoms_spec (ws := wl) B.pre
  have hown : s.vm.findClass y.cls = some m.cls := findClass_of_methodNamed B.named
  subst hsz
  have hD := hD0.self (sz := s.heap.size)
  rw [lg_entry_eq]
  have hA : ∀ q : Nat, s.heap.size ≤ q → va_A w0 s.heap.size q := fun q h => Or.inr h
  exact body (p, l, e, (headSpec wl rm).room, s, m, vs.toArray, below, meth, c, D, tys, va_A w0 s.heap.size, maxL) _ ⟨B.exec, B.bytes, hml, hown, hts, hK, hA, B.notSynchronized, rfl⟩ ⟨rfl, rfl, rfl, hX⟩ ⟨B.returns, fun _ _ _ h => vx_ret h⟩ ⟨hno, hl, post, rfl⟩ s.heap [] _ hP hD va_S.rf (z_entry hcat hlen hlv)
end ZC
