section
-- ===== PART A: goes FIRST, ahead of the names: the tables' words, and 'selects' of the private methods out of them =====
/-- a private method of a class that the tables say can be made, by its rows of tables_1 -/
def lw_okq (q : MethodName × Nat) : Prop := (q.1.cls ≠ "java/lang/invoke/MethodHandle" ∧ q.1.cls ≠ "java/lang/invoke/VarHandle") ∧ Cond.instantiable q.1.cls q.2 ∈ tables_1 ∧ Cond.privateMethod q.1 ∈ tables_1 ∧ Cond.instanceMethod q.1 ∈ tables_1
theorem lw_p0 : lw_okq (⟨"PaperGuild$Mill", "fillFewest", "()V"⟩, 4) := ⟨⟨by decide +kernel, by decide +kernel⟩, List.mem_of_getElem? (i := 45) (by decide +kernel), List.mem_of_getElem? (i := 103) (by decide +kernel), List.mem_of_getElem? (i := 104) (by decide +kernel)⟩
theorem lw_p1 : lw_okq (⟨"PaperGuild$Mill", "fewestFor", "(I)I"⟩, 4) := ⟨⟨by decide +kernel, by decide +kernel⟩, List.mem_of_getElem? (i := 45) (by decide +kernel), List.mem_of_getElem? (i := 107) (by decide +kernel), List.mem_of_getElem? (i := 108) (by decide +kernel)⟩
theorem lw_p2 : lw_okq (⟨"PaperGuild$Mill", "isDemanded", "(I)Z"⟩, 4) := ⟨⟨by decide +kernel, by decide +kernel⟩, List.mem_of_getElem? (i := 45) (by decide +kernel), List.mem_of_getElem? (i := 111) (by decide +kernel), List.mem_of_getElem? (i := 112) (by decide +kernel)⟩
theorem lw_p3 : lw_okq (⟨"PaperGuild$Mill", "addWaysWith", "(I)V"⟩, 4) := ⟨⟨by decide +kernel, by decide +kernel⟩, List.mem_of_getElem? (i := 45) (by decide +kernel), List.mem_of_getElem? (i := 126) (by decide +kernel), List.mem_of_getElem? (i := 127) (by decide +kernel)⟩
theorem lw_p4 : lw_okq (⟨"PaperGuild", "checkKind", "(I)V"⟩, 8) := ⟨⟨by decide +kernel, by decide +kernel⟩, List.mem_of_getElem? (i := 16) (by decide +kernel), List.mem_of_getElem? (i := 148) (by decide +kernel), List.mem_of_getElem? (i := 149) (by decide +kernel)⟩
theorem lw_p5 : lw_okq (⟨"java/lang/Throwable", "fillInStackTrace", "(I)Ljava/lang/Throwable;"⟩, 6) := ⟨⟨by decide +kernel, by decide +kernel⟩, List.mem_of_getElem? (i := 190) (by decide +kernel), List.mem_of_getElem? (i := 188) (by decide +kernel), List.mem_of_getElem? (i := 189) (by decide +kernel)⟩
theorem lw_p6 : lw_okq (⟨"PaperGuild", "checkAuthor", "(I)V"⟩, 8) := ⟨⟨by decide +kernel, by decide +kernel⟩, List.mem_of_getElem? (i := 16) (by decide +kernel), List.mem_of_getElem? (i := 249) (by decide +kernel), List.mem_of_getElem? (i := 250) (by decide +kernel)⟩
theorem lw_p7 : lw_okq (⟨"PaperGuild", "modelAt", "(I)LPaperGuild$Model;"⟩, 8) := ⟨⟨by decide +kernel, by decide +kernel⟩, List.mem_of_getElem? (i := 16) (by decide +kernel), List.mem_of_getElem? (i := 350) (by decide +kernel), List.mem_of_getElem? (i := 351) (by decide +kernel)⟩
theorem lw_p8 : lw_okq (⟨"PaperGuild", "checkModel", "(I)V"⟩, 8) := ⟨⟨by decide +kernel, by decide +kernel⟩, List.mem_of_getElem? (i := 16) (by decide +kernel), List.mem_of_getElem? (i := 354) (by decide +kernel), List.mem_of_getElem? (i := 355) (by decide +kernel)⟩
theorem lw_p9 : lw_okq (⟨"PaperGuild$Stacks", "copyUpwards", "(I)V"⟩, 6) := ⟨⟨by decide +kernel, by decide +kernel⟩, List.mem_of_getElem? (i := 276) (by decide +kernel), List.mem_of_getElem? (i := 377) (by decide +kernel), List.mem_of_getElem? (i := 378) (by decide +kernel)⟩
theorem lw_p10 : lw_okq (⟨"PaperGuild$Stacks", "isPlace", "(I)Z"⟩, 6) := ⟨⟨by decide +kernel, by decide +kernel⟩, List.mem_of_getElem? (i := 276) (by decide +kernel), List.mem_of_getElem? (i := 385) (by decide +kernel), List.mem_of_getElem? (i := 386) (by decide +kernel)⟩
theorem lw_p11 : lw_okq (⟨"PaperGuild$Stacks", "copyCell", "(II)V"⟩, 6) := ⟨⟨by decide +kernel, by decide +kernel⟩, List.mem_of_getElem? (i := 276) (by decide +kernel), List.mem_of_getElem? (i := 389) (by decide +kernel), List.mem_of_getElem? (i := 390) (by decide +kernel)⟩
theorem lw_p12 : lw_okq (⟨"PaperGuild$Stacks", "copyDownwards", "(I)V"⟩, 6) := ⟨⟨by decide +kernel, by decide +kernel⟩, List.mem_of_getElem? (i := 276) (by decide +kernel), List.mem_of_getElem? (i := 397) (by decide +kernel), List.mem_of_getElem? (i := 398) (by decide +kernel)⟩
theorem lw_p13 : lw_okq (⟨"PaperGuild$Stacks", "swapRows", "()V"⟩, 6) := ⟨⟨by decide +kernel, by decide +kernel⟩, List.mem_of_getElem? (i := 276) (by decide +kernel), List.mem_of_getElem? (i := 401) (by decide +kernel), List.mem_of_getElem? (i := 402) (by decide +kernel)⟩
theorem lw_p14 : lw_okq (⟨"PaperGuild", "modelsCountedFor", "(I)I"⟩, 8) := ⟨⟨by decide +kernel, by decide +kernel⟩, List.mem_of_getElem? (i := 16) (by decide +kernel), List.mem_of_getElem? (i := 424) (by decide +kernel), List.mem_of_getElem? (i := 425) (by decide +kernel)⟩
theorem lw_p15 : lw_okq (⟨"PaperGuild", "checkPupil", "(I)V"⟩, 8) := ⟨⟨by decide +kernel, by decide +kernel⟩, List.mem_of_getElem? (i := 16) (by decide +kernel), List.mem_of_getElem? (i := 445) (by decide +kernel), List.mem_of_getElem? (i := 446) (by decide +kernel)⟩
def lw_privs_1 : List (MethodName × Nat) := [(⟨"PaperGuild$Mill", "fillFewest", "()V"⟩, 4), (⟨"PaperGuild$Mill", "fewestFor", "(I)I"⟩, 4), (⟨"PaperGuild$Mill", "isDemanded", "(I)Z"⟩, 4), (⟨"PaperGuild$Mill", "addWaysWith", "(I)V"⟩, 4), (⟨"PaperGuild", "checkKind", "(I)V"⟩, 8), (⟨"java/lang/Throwable", "fillInStackTrace", "(I)Ljava/lang/Throwable;"⟩, 6), (⟨"PaperGuild", "checkAuthor", "(I)V"⟩, 8), (⟨"PaperGuild", "modelAt", "(I)LPaperGuild$Model;"⟩, 8), (⟨"PaperGuild", "checkModel", "(I)V"⟩, 8), (⟨"PaperGuild$Stacks", "copyUpwards", "(I)V"⟩, 6), (⟨"PaperGuild$Stacks", "isPlace", "(I)Z"⟩, 6), (⟨"PaperGuild$Stacks", "copyCell", "(II)V"⟩, 6), (⟨"PaperGuild$Stacks", "copyDownwards", "(I)V"⟩, 6), (⟨"PaperGuild$Stacks", "swapRows", "()V"⟩, 6), (⟨"PaperGuild", "modelsCountedFor", "(I)I"⟩, 8), (⟨"PaperGuild", "checkPupil", "(I)V"⟩, 8)]
theorem lw_r1 : ∀ q ∈ lw_privs_1, lw_okq q := List.forall_mem_cons.mpr ⟨lw_p0, List.forall_mem_cons.mpr ⟨lw_p1, List.forall_mem_cons.mpr ⟨lw_p2, List.forall_mem_cons.mpr ⟨lw_p3, List.forall_mem_cons.mpr ⟨lw_p4, List.forall_mem_cons.mpr ⟨lw_p5, List.forall_mem_cons.mpr ⟨lw_p6, List.forall_mem_cons.mpr ⟨lw_p7, List.forall_mem_cons.mpr ⟨lw_p8, List.forall_mem_cons.mpr ⟨lw_p9, List.forall_mem_cons.mpr ⟨lw_p10, List.forall_mem_cons.mpr ⟨lw_p11, List.forall_mem_cons.mpr ⟨lw_p12, List.forall_mem_cons.mpr ⟨lw_p13, List.forall_mem_cons.mpr ⟨lw_p14, List.forall_mem_cons.mpr ⟨lw_p15, fun _ h => absurd h List.not_mem_nil⟩⟩⟩⟩⟩⟩⟩⟩⟩⟩⟩⟩⟩⟩⟩⟩
theorem lw_p16 : lw_okq (⟨"PaperGuild", "checkCell", "(LPaperGuild$Model;I)V"⟩, 8) := ⟨⟨by decide +kernel, by decide +kernel⟩, List.mem_of_getElem? (i := 16) (by decide +kernel), List.mem_of_getElem? (i := 500) (by decide +kernel), List.mem_of_getElem? (i := 501) (by decide +kernel)⟩
theorem lw_p17 : lw_okq (⟨"PaperGuild$Follower", "takeStep", "(IZ)V"⟩, 3) := ⟨⟨by decide +kernel, by decide +kernel⟩, List.mem_of_getElem? (i := 26) (by decide +kernel), List.mem_of_getElem? (i := 509) (by decide +kernel), List.mem_of_getElem? (i := 510) (by decide +kernel)⟩
theorem lw_p18 : lw_okq (⟨"PaperGuild", "kindsCountedFor", "(I)I"⟩, 8) := ⟨⟨by decide +kernel, by decide +kernel⟩, List.mem_of_getElem? (i := 16) (by decide +kernel), List.mem_of_getElem? (i := 545) (by decide +kernel), List.mem_of_getElem? (i := 546) (by decide +kernel)⟩
theorem lw_p19 : lw_okq (⟨"PaperGuild", "modelsOf", "(I)I"⟩, 8) := ⟨⟨by decide +kernel, by decide +kernel⟩, List.mem_of_getElem? (i := 16) (by decide +kernel), List.mem_of_getElem? (i := 570) (by decide +kernel), List.mem_of_getElem? (i := 571) (by decide +kernel)⟩
theorem lw_p20 : lw_okq (⟨"PaperGuildModel", "closed", "(I)I"⟩, 20) := ⟨⟨by decide +kernel, by decide +kernel⟩, List.mem_of_getElem? (i := 574) (by decide +kernel), List.mem_of_getElem? (i := 652) (by decide +kernel), List.mem_of_getElem? (i := 653) (by decide +kernel)⟩
theorem lw_p21 : lw_okq (⟨"PaperGuildModel", "fails", "(I)I"⟩, 20) := ⟨⟨by decide +kernel, by decide +kernel⟩, List.mem_of_getElem? (i := 574) (by decide +kernel), List.mem_of_getElem? (i := 656) (by decide +kernel), List.mem_of_getElem? (i := 657) (by decide +kernel)⟩
theorem lw_p22 : lw_okq (⟨"PaperGuildModel", "folds", "(I)V"⟩, 20) := ⟨⟨by decide +kernel, by decide +kernel⟩, List.mem_of_getElem? (i := 574) (by decide +kernel), List.mem_of_getElem? (i := 668) (by decide +kernel), List.mem_of_getElem? (i := 669) (by decide +kernel)⟩
theorem lw_p23 : lw_okq (⟨"PaperGuildModel", "counts", "(I)V"⟩, 20) := ⟨⟨by decide +kernel, by decide +kernel⟩, List.mem_of_getElem? (i := 574) (by decide +kernel), List.mem_of_getElem? (i := 672) (by decide +kernel), List.mem_of_getElem? (i := 673) (by decide +kernel)⟩
theorem lw_p24 : lw_okq (⟨"PaperGuildModel", "makes", "(IIZ)V"⟩, 20) := ⟨⟨by decide +kernel, by decide +kernel⟩, List.mem_of_getElem? (i := 574) (by decide +kernel), List.mem_of_getElem? (i := 676) (by decide +kernel), List.mem_of_getElem? (i := 677) (by decide +kernel)⟩
theorem lw_p25 : lw_okq (⟨"PaperGuildModel", "ownKinds", "(I)I"⟩, 20) := ⟨⟨by decide +kernel, by decide +kernel⟩, List.mem_of_getElem? (i := 574) (by decide +kernel), List.mem_of_getElem? (i := 680) (by decide +kernel), List.mem_of_getElem? (i := 681) (by decide +kernel)⟩
theorem lw_p26 : lw_okq (⟨"PaperGuildModel", "isModel", "(I)Z"⟩, 20) := ⟨⟨by decide +kernel, by decide +kernel⟩, List.mem_of_getElem? (i := 574) (by decide +kernel), List.mem_of_getElem? (i := 688) (by decide +kernel), List.mem_of_getElem? (i := 689) (by decide +kernel)⟩
theorem lw_p27 : lw_okq (⟨"PaperGuildModel", "used", "(I)I"⟩, 20) := ⟨⟨by decide +kernel, by decide +kernel⟩, List.mem_of_getElem? (i := 574) (by decide +kernel), List.mem_of_getElem? (i := 696) (by decide +kernel), List.mem_of_getElem? (i := 697) (by decide +kernel)⟩
theorem lw_p28 : lw_okq (⟨"PaperGuildModel", "layersOf", "(I)I"⟩, 20) := ⟨⟨by decide +kernel, by decide +kernel⟩, List.mem_of_getElem? (i := 574) (by decide +kernel), List.mem_of_getElem? (i := 728) (by decide +kernel), List.mem_of_getElem? (i := 729) (by decide +kernel)⟩
theorem lw_p29 : lw_okq (⟨"PaperGuildModel", "isCell", "(II)Z"⟩, 20) := ⟨⟨by decide +kernel, by decide +kernel⟩, List.mem_of_getElem? (i := 574) (by decide +kernel), List.mem_of_getElem? (i := 740) (by decide +kernel), List.mem_of_getElem? (i := 741) (by decide +kernel)⟩
theorem lw_p30 : lw_okq (⟨"PaperGuildModel", "kindsFor", "(I)I"⟩, 20) := ⟨⟨by decide +kernel, by decide +kernel⟩, List.mem_of_getElem? (i := 574) (by decide +kernel), List.mem_of_getElem? (i := 760) (by decide +kernel), List.mem_of_getElem? (i := 761) (by decide +kernel)⟩
theorem lw_p31 : lw_okq (⟨"PaperGuildModel", "isExam", "(II)Z"⟩, 20) := ⟨⟨by decide +kernel, by decide +kernel⟩, List.mem_of_getElem? (i := 574) (by decide +kernel), List.mem_of_getElem? (i := 768) (by decide +kernel), List.mem_of_getElem? (i := 769) (by decide +kernel)⟩
def lw_privs_2 : List (MethodName × Nat) := [(⟨"PaperGuild", "checkCell", "(LPaperGuild$Model;I)V"⟩, 8), (⟨"PaperGuild$Follower", "takeStep", "(IZ)V"⟩, 3), (⟨"PaperGuild", "kindsCountedFor", "(I)I"⟩, 8), (⟨"PaperGuild", "modelsOf", "(I)I"⟩, 8), (⟨"PaperGuildModel", "closed", "(I)I"⟩, 20), (⟨"PaperGuildModel", "fails", "(I)I"⟩, 20), (⟨"PaperGuildModel", "folds", "(I)V"⟩, 20), (⟨"PaperGuildModel", "counts", "(I)V"⟩, 20), (⟨"PaperGuildModel", "makes", "(IIZ)V"⟩, 20), (⟨"PaperGuildModel", "ownKinds", "(I)I"⟩, 20), (⟨"PaperGuildModel", "isModel", "(I)Z"⟩, 20), (⟨"PaperGuildModel", "used", "(I)I"⟩, 20), (⟨"PaperGuildModel", "layersOf", "(I)I"⟩, 20), (⟨"PaperGuildModel", "isCell", "(II)Z"⟩, 20), (⟨"PaperGuildModel", "kindsFor", "(I)I"⟩, 20), (⟨"PaperGuildModel", "isExam", "(II)Z"⟩, 20)]
theorem lw_r2 : ∀ q ∈ lw_privs_2, lw_okq q := List.forall_mem_cons.mpr ⟨lw_p16, List.forall_mem_cons.mpr ⟨lw_p17, List.forall_mem_cons.mpr ⟨lw_p18, List.forall_mem_cons.mpr ⟨lw_p19, List.forall_mem_cons.mpr ⟨lw_p20, List.forall_mem_cons.mpr ⟨lw_p21, List.forall_mem_cons.mpr ⟨lw_p22, List.forall_mem_cons.mpr ⟨lw_p23, List.forall_mem_cons.mpr ⟨lw_p24, List.forall_mem_cons.mpr ⟨lw_p25, List.forall_mem_cons.mpr ⟨lw_p26, List.forall_mem_cons.mpr ⟨lw_p27, List.forall_mem_cons.mpr ⟨lw_p28, List.forall_mem_cons.mpr ⟨lw_p29, List.forall_mem_cons.mpr ⟨lw_p30, List.forall_mem_cons.mpr ⟨lw_p31, fun _ h => absurd h List.not_mem_nil⟩⟩⟩⟩⟩⟩⟩⟩⟩⟩⟩⟩⟩⟩⟩⟩
theorem lw_p32 : lw_okq (⟨"PaperGuildModel", "fewest", "()V"⟩, 20) := ⟨⟨by decide +kernel, by decide +kernel⟩, List.mem_of_getElem? (i := 574) (by decide +kernel), List.mem_of_getElem? (i := 784) (by decide +kernel), List.mem_of_getElem? (i := 785) (by decide +kernel)⟩
def lw_privs_3 : List (MethodName × Nat) := [(⟨"PaperGuildModel", "fewest", "()V"⟩, 20)]
theorem lw_r3 : ∀ q ∈ lw_privs_3, lw_okq q := List.forall_mem_cons.mpr ⟨lw_p32, fun _ h => absurd h List.not_mem_nil⟩
def lw_privs : List (MethodName × Nat) := lw_privs_1 ++ (lw_privs_2 ++ (lw_privs_3))
def lw_tbl : List Cond := k2_sels lw_privs ++ tables_1
theorem lw_privs_ok : ∀ q ∈ lw_privs, lw_okq q := by
  show ∀ q ∈ lw_privs_1 ++ (lw_privs_2 ++ (lw_privs_3)), lw_okq q
  exact List.forall_mem_append.mpr ⟨lw_r1, List.forall_mem_append.mpr ⟨lw_r2, lw_r3⟩⟩
-- ===== end of PART A; then your names; then what follows =====
end
section
/-! ===== BEGIN words of one list among another's, by their places ===== -/
theorem goodIn_r {big : List Cond} (ws : List Cond) (ps : List Nat) (hp : ws = ps.filterMap (fun i => big[i]?)) (h : ws.all goodWord = true) : GoodIn big ws := by
  intro w hw
  have h1 := List.all_eq_true.mp h w hw
  rw [hp] at hw
  obtain ⟨i, -, hi⟩ := List.mem_filterMap.mp hw
  have hm : w ∈ big := by first | exact List.mem_of_getElem? hi | exact List.getElem?_mem hi
  exact ⟨hm, good_of_word h1⟩
theorem goodIn_app {big a b : List Cond} (ha : GoodIn big a) (hb : GoodIn big b) : GoodIn big (a ++ b) := fun w h => (List.mem_append.mp h).elim (ha w) (hb w)
theorem goodIn_ca {big a b : List Cond} {c : Cond} (ha : GoodIn big (c :: a)) (hb : GoodIn big b) : GoodIn big (c :: (a ++ b)) := fun w h => (List.mem_cons.mp h).elim (fun e => ha w (List.mem_cons.mpr (Or.inl e))) (fun h => (List.mem_append.mp h).elim (fun h => ha w (List.mem_cons.mpr (Or.inr h))) (hb w))
theorem goodIn_sub {big ws : List Cond} (hm : ∀ w ∈ ws, w ∈ big) (h : ws.all goodWord = true) : GoodIn big ws := fun w hw => ⟨hm w hw, good_of_word (List.all_eq_true.mp h w hw)⟩
/-! ===== END ===== -/

/-! ===== BEGIN exceptions that leave a method, and their catching by the caller (launches without stack traces) ===== -/
section VXA
/-! The laws vx_back, vx_callV, vx_callS, vx_callSW, vx_throw0, vx_throwS follow proofs of the library, with one case more: JvmDerived/Free/Laws.lean (Back.of_free), Shelf42/LK1.lean (callV, callS), Shelf/KitTraced.lean (throwNew0V, throwNewS). -/
/-- where a method has thrown q: the class by its name, the cell, what was written, the world -/
def vx_T (XC : String → State → State → Prop) (st : State) (q : Addr) (t : State) (mc ms : Nat) (free : Addr → Prop) : Prop :=
  ∃ (E : String) (ce : Cell) (L : List Loc), XC E st t ∧ t.heap[q]? = some ce ∧ ce.vm = .none ∧ st.vm.findClass E = some ce.cls ∧ st.WarmedH t.vm ∧ st.sameButNew ({ t with vm := st.vm } : State) L mc ms ∧ ∀ z ∈ L, free z.base
def vx_Q (Qc : Array Value → State → Outcome → State → Prop) (XC : String → State → State → Prop) (mc ms : Nat) (free : Addr → Prop) : Array Value → State → Outcome → State → Prop := fun a st o t =>
  (Qc a st o t ∧ ∃ L, FrameEnd st o t L mc ms ∧ ∀ q ∈ L, free q.base) ∨ ∃ q, o = .threw q ∧ vx_T XC st q t mc ms free
/-- a callee that returns or throws -/
def vx_Met (l : Launch) (y : MethodName) (ws : List Cond) (rm : Room) (Pc : Array Value → State → Prop) (Qc : Array Value → State → Outcome → State → Prop) (XC : String → State → State → Prop) (mc ms : Nat) (free : Addr → Prop) : Prop :=
  MetFree l y (headSpec ws rm) Pc (fun _ _ _ _ _ => True) (vx_Q Qc XC mc ms free)
def vx_Post (XC : String → State → State → Prop) (mc ms : Nat) (free : Addr → Prop) : Pt → Array Value → Addr → Pt → Prop := fun A a q B =>
  ∃ (g : JFrame) (mk : MethodId) (t : State) (L : List Loc) (E : String) (ce : Cell), B.U.heap = t.heap ∧ B.U.vm = t.vm ∧ XC E (A.U.calling g mk a) t ∧ t.heap[q]? = some ce ∧ ce.vm = .none ∧ A.U.vm.findClass E = some ce.cls ∧ B.locs = A.locs ++ L ∧ (∀ z ∈ L, free z.base) ∧ B.cells = A.cells + mc ∧ B.slots = A.slots + ms
def vx_Back (l : Launch) (R : Room) (p : Program) (e : Env) (below : List Frame) (s : State) (sargs : Array Value) (y : MethodName) (len W9 : Nat)
    (Pre : Pt → Array Value → Prop) (Post : Pt → Array Value → Option Value → Pt → Prop) (PostX : Pt → Array Value → Addr → Pt → Prop) : Prop :=
  ∀ (m : MethodId) (meth : Method) (c : Code) (A : Pt) (g : JFrame) (ig : Instr) (mk : MethodId) (a : Array Value),
    Stand p l e R s m sargs below meth c A.U A.locs A.cells A.slots → g.method = m → g.locals.size = c.maxLocals → decode c.code g.pc = .ok (ig, len) →
    2 * g.monitorRoom + (g.stack.map fun v => v.category).sum ≤ W9 → A.U.methodNamed? y = some mk → Pre A a →
    (∃ (v : Option Value) (B : Pt), Stand p l e R s m sargs below meth c B.U B.locs B.cells B.slots ∧ Post A a v B ∧
      Steps p.tables e below (doInvoke e (A.U.setTop g) [] mk a).1 (B.U.setTop { g with pc := g.pc + len, stack := v.toList ++ g.stack })) ∨
    (∃ (q : Addr) (B : Pt), Stand p l e R s m sargs below meth c B.U B.locs B.cells B.slots ∧ PostX A a q B ∧
      Steps p.tables e below (doInvoke e (A.U.setTop g) [] mk a).1 ((B.U.setTop g).pushFrame (.throwing q)))
section Payer
variable {l : Launch} {R : Room} {p : Program} {e : Env} {below : List Frame} {s : State} {sargs : Array Value} {y : MethodName} {len W9 : Nat}
theorem vx_back {ws : List Cond} {rm : Room} {Pc : Array Value → State → Prop} {Qc : Array Value → State → Outcome → State → Prop} {XC : String → State → State → Prop} {mc ms : Nat} {free : Addr → Prop} {bytes : ByteArray} {maxL : Nat} {ret : Option FieldType}
    (hM : vx_Met l y ws rm Pc Qc XC mc ms free) (hblind : FrameBlind Pc) (hrc : rm.cells = mc) (hrs : rm.slots = ms)
    (hframes : rm.frames + 1 ≤ R.frames) (hlocals : W9 + (maxL + 11) + rm.locals ≤ R.locals)
    (hws : ∀ w ∈ ws, ∀ a' U, s.WarmedH U.vm → w.before a' U = true) (hcode : Cond.code y bytes maxL ret ∈ ws) (hinit : ∀ a' U, s.WarmedH U.vm → (Cond.initialized y.cls).before a' U = true) :
    vx_Back l R p e below s sargs y len W9 (PreOf R mc ms Pc) (PostOf Qc mc ms free) (vx_Post XC mc ms free) := by
  intro m meth c A g ig mk a X hg hsize hdg hW hn hp
  have h1 : (headSpec ws rm).pre.before a A.U = true := atoms_intro fun w hw => hws w hw _ _ X.warmed
  have h2 : (Cond.code y bytes maxL ret).before a A.U = true := hws _ hcode _ _ X.warmed
  have h3 : (Cond.initialized y.cls).before a A.U = true := hinit _ _ X.warmed
  have h4 : A.cells + (headSpec ws rm).room.cells ≤ R.cells := by rw [show (headSpec ws rm).room.cells = mc from hrc]; exact hp.1
  have h5 : A.slots + (headSpec ws rm).room.slots ≤ R.slots := by rw [show (headSpec ws rm).room.slots = ms from hrs]; exact hp.2.1
  have hPc : Pc a (A.U.calling g mk a) := hblind _ _ _ _ hp.2.2
  obtain ⟨U, Ls, c0, s0⟩ := A
  dsimp only [Pt.U, Pt.locs, Pt.cells, Pt.slots] at h1 h2 h3 h4 h5 X hn hPc ⊢
  obtain ⟨methY, cY, hmY, hcY, -, hlY, -, -, -, -⟩ := Cond.code_spec hn h2
  obtain ⟨kY, hkY, -⟩ := className_of_methodNamed hn
  have hinitY : kY.init = .initialized := Cond.initialized_spec (findClass_of_methodNamed hn) hkY h3
  have h : At U g.method c below := by rw [hg]; exact X.here
  have hlocals9 : W9 + (maxL + 11) + (headSpec ws rm).room.locals ≤ R.locals := hlocals
  have happ : (headSpec ws rm).appliesLoose y e.platform (U.calling g mk a) = true :=
    Spec.appliesLoose_calling (g := g) h hdg hn hkY hinitY
      (X.room_calling (g := g) (R' := (headSpec ws rm).room) hsize hmY hcY hframes (by rw [hlY]; omega) h4 h5) h1
  obtain ⟨mid, hmid⟩ := h.above
  have hfr : (U.setTop g).frames = (.java g :: mid) ++ below := by rw [State.frames_setTop' g h.top, hmid]; rfl
  obtain ⟨o, s₂, hsteps, -, hend, hq⟩ := Steps.callFree hM p X.admits X.cas X.clock (acts := []) hfr happ hPc trivial
  have hq' : vx_Q Qc XC mc ms free a (U.calling g mk a) o s₂ := hq
  rw [State.frames_setTop' g h.top] at hend
  obtain ⟨g₀, hg0⟩ := Option.isSome_iff_exists.mp h.top
  obtain ⟨r, hr⟩ := State.topJava?_eq_some.mp hg0
  have hr' : (({ U with heap := s₂.heap, slotsUsed := s₂.slotsUsed } : State).setVm s₂.vm).frames = .java g₀ :: r := hr
  rcases hq' with ⟨hqc, L, hfe, hL⟩ | ⟨q, rfl, E, ce, L, hx, hce, hcv, hcl, hW₂, hsm, hL⟩
  · obtain ⟨⟨v, rfl⟩, hW₂, e2, q2, q3, q4, q5, q6⟩ := id hfe
    have e3 : s₂ = ({ (U.calling g mk a).setFrames s₂.frames with heap := s₂.heap, slotsUsed := s₂.slotsUsed } : State).setVm s₂.vm := by
      have : s₂ = ({ s₂ with vm := (U.calling g mk a).vm } : State).setVm s₂.vm := rfl
      rw [e2] at this
      exact this
    obtain ⟨c₂, i₂, len₂, hc₂, hd₂, hf₂⟩ := hend
    have hW' : U.WarmedH s₂.vm := hW₂
    have hcc : c₂ = c := by
      have h1 : s₂.code? g.method = U.code? g.method := by
        rw [State.code?_eq, State.code?_eq, hW'.alike.method?]
      exact Option.some.inj (hc₂.symm.trans (h1.trans h.code))
    subst hcc
    have hlen : len₂ = len := by rw [hdg] at hd₂; cases hd₂; rfl
    subst hlen
    have hs₂ : s₂ = (({ U with heap := s₂.heap, slotsUsed := s₂.slotsUsed } : State).setVm s₂.vm).setTop { g with pc := g.pc + len₂, stack := v.toList ++ g.stack } := by
      refine e3.trans ?_
      rw [hf₂, State.calling_eq h.top, State.setFrames_setFrames, State.setTop_of_frames _ hr', hr]
      rfl
    have hsame : U.sameButNew ({ U with heap := s₂.heap, slotsUsed := s₂.slotsUsed } : State) L mc ms := by
      refine ⟨?_, q2, q3, q4, q5, q6⟩
      obtain ⟨t, ht, -⟩ := State.frames_cons hr
      show ({ U with heap := s₂.heap, slotsUsed := s₂.slotsUsed } : State) = { U.setFrames U.frames with heap := s₂.heap, slotsUsed := s₂.slotsUsed }
      rw [State.setFrames_self ht]
    subst hg
    refine Or.inl ⟨v, ⟨(({ U with heap := s₂.heap, slotsUsed := s₂.slotsUsed } : State).setVm s₂.vm), Ls ++ L, c0 + mc, s0 + ms⟩,
      ⟨X.admits, X.cas, X.clock, X.frames, X.room, X.hears, X.method, X.code, (X.here.setHeapUsed s₂.heap s₂.slotsUsed).setVm hW'.alike, X.tail, State.WarmedH.trans X.warmed hW', X.limits, X.bytes, X.same.trans (hsame.setVm s.vm)⟩,
      ⟨g, mk, s₂, L, rfl, rfl, hqc, rfl, hL, rfl, rfl⟩, ?_⟩
    show Steps p.tables e below _ ((({ U with heap := s₂.heap, slotsUsed := s₂.slotsUsed } : State).setVm s₂.vm).setTop { g with pc := g.pc + len₂, stack := v.toList ++ g.stack })
    rw [← hs₂]
    exact hsteps
  · obtain ⟨e2, q2, q3, q4, q5, q6⟩ := id hsm
    have e3 : s₂ = ({ (U.calling g mk a).setFrames s₂.frames with heap := s₂.heap, slotsUsed := s₂.slotsUsed } : State).setVm s₂.vm := by
      have : s₂ = ({ s₂ with vm := (U.calling g mk a).vm } : State).setVm s₂.vm := rfl
      rw [e2] at this
      exact this
    have hf₂ : s₂.frames = .throwing q :: .java g :: U.frames.tail := hend
    have hW' : U.WarmedH s₂.vm := hW₂
    have hs₂ : s₂ = ((({ U with heap := s₂.heap, slotsUsed := s₂.slotsUsed } : State).setVm s₂.vm).setTop g).pushFrame (.throwing q) := by
      refine e3.trans ?_
      rw [hf₂, State.calling_eq h.top, State.setFrames_setFrames, State.pushFrame, State.frames_setTop _ hr', State.setTop_of_frames _ hr', State.setFrames_setFrames, hr]
      rfl
    have hsame : U.sameButNew ({ U with heap := s₂.heap, slotsUsed := s₂.slotsUsed } : State) L mc ms := by
      refine ⟨?_, q2, q3, q4, q5, q6⟩
      obtain ⟨t, ht, -⟩ := State.frames_cons hr
      show ({ U with heap := s₂.heap, slotsUsed := s₂.slotsUsed } : State) = { U.setFrames U.frames with heap := s₂.heap, slotsUsed := s₂.slotsUsed }
      rw [State.setFrames_self ht]
    subst hg
    refine Or.inr ⟨q, ⟨(({ U with heap := s₂.heap, slotsUsed := s₂.slotsUsed } : State).setVm s₂.vm), Ls ++ L, c0 + mc, s0 + ms⟩,
      ⟨X.admits, X.cas, X.clock, X.frames, X.room, X.hears, X.method, X.code, (X.here.setHeapUsed s₂.heap s₂.slotsUsed).setVm hW'.alike, X.tail, State.WarmedH.trans X.warmed hW', X.limits, X.bytes, X.same.trans (hsame.setVm s.vm)⟩,
      ⟨g, mk, s₂, L, E, ce, rfl, rfl, hx, hce, hcv, hcl, rfl, hL, rfl, rfl⟩, ?_⟩
    show Steps p.tables e below _ (((({ U with heap := s₂.heap, slotsUsed := s₂.slotsUsed } : State).setVm s₂.vm).setTop g).pushFrame (.throwing q))
    rw [← hs₂]
    exact hsteps
end Payer
section Calls
variable {p : Program} {l : Launch} {e : Env} {R : Room} {s : State} {m : MethodId} {args : Array Value} {below : List Frame} {meth : Method} {c : Code} {T : State} {locs : List Loc} {cells slots : Nat}
theorem vx_callV (X : Stand p l e R s m args below meth c T locs cells slots) (hexec : p.tables.exec = Jvm.exec) {own C : String} {index : Nat} {y : MethodName} {bytes : ByteArray} {maxL : Nat} {ret : Option FieldType}
    (hown : s.vm.findClass own = some m.cls) (hlink : (Cond.methodLink own index y).before args s = true) (hinst : (Cond.instanceMethod y).before args s = true) (hsel : (Cond.selects C y y).before args s = true)
    (hcode : (Cond.code y bytes maxL ret).before args s = true) (hy : y.cls ≠ "java/lang/invoke/MethodHandle" ∧ y.cls ≠ "java/lang/invoke/VarHandle")
    {W9 : Nat} {Pre : Pt → Array Value → Prop} {Post : Pt → Array Value → Option Value → Pt → Prop} {PostX : Pt → Array Value → Addr → Pt → Prop} (hK : vx_Back l R p e below s args y 3 W9 Pre Post PostX)
    {b : Addr} {cellB : Cell} (hcell : T.heap[b]? = some cellB) (hobj : cellB.vm.isStatics = false) (hcls : s.vm.findClass C = some cellB.cls)
    {g : JFrame} (hg : g.method = m) (hsize : g.locals.size = c.maxLocals) {argsL rest : List Value} (hlen : ∀ sig, parseMethodDescriptor y.desc = some sig → argsL.length = sig.parameters.length)
    (hstack : g.stack = argsL.reverse ++ .ref b :: rest) (hW : 2 * g.monitorRoom + (rest.map fun v => v.category).sum ≤ W9) (hdg : decode c.code g.pc = .ok (.invokevirtual index, 3))
    (hpre : ∀ vm₁, s.WarmedH vm₁ → Pre ⟨T.setVm vm₁, locs, cells, slots⟩ (Value.ref b :: argsL).toArray) :
    (∃ (v : Option Value) (vm₁ : Vm) (B : Pt), s.WarmedH vm₁ ∧ Stand p l e R s m args below meth c B.U B.locs B.cells B.slots ∧ Post ⟨T.setVm vm₁, locs, cells, slots⟩ (Value.ref b :: argsL).toArray v B ∧
      ∀ target, Steps p.tables e below (B.U.setTop { g with pc := g.pc + 3, stack := v.toList ++ rest }) target → Steps p.tables e below (T.setTop g) target) ∨
    (∃ (q : Addr) (vm₁ : Vm) (B : Pt), s.WarmedH vm₁ ∧ Stand p l e R s m args below meth c B.U B.locs B.cells B.slots ∧ PostX ⟨T.setVm vm₁, locs, cells, slots⟩ (Value.ref b :: argsL).toArray q B ∧
      Steps p.tables e below (T.setTop g) ((B.U.setTop { g with stack := rest }).pushFrame (.throwing q))) := by
  obtain ⟨mk, methM, hnamed, hmethM, hstM, habM⟩ := Cond.instanceMethod_spec hinst
  obtain ⟨methM', cM, hmethM', -, -, -, -, -, -, hsigM⟩ := Cond.code_spec hnamed hcode
  cases hmethM.symm.trans hmethM'
  obtain ⟨c2, r2, m2, q1, q2, q3, q4, kP, hkP, hkPi⟩ := Cond.selects_spec hsel
  cases hcls.symm.trans q1
  cases (State.methodFound?_of_named hnamed hy).symm.trans q2
  cases hnamed.symm.trans q3
  have hselP : selectMethod e.platform s.vm cellB.cls mk = .method mk := by rw [Launch.admits_selectMethod X.admits]; exact q4
  obtain ⟨vm₁, X₁, hstep₁⟩ := X.invokevirtual hexec hown hlink hnamed hmethM hstM hkP hkPi hy (a := b) (cell := cellB) hcell
    (fun z h => by rw [h] at hobj; cases hobj) hselP hmethM habM hkP hkPi (g := g) hg (argsL := argsL) (rest := rest) (hlen _ hsigM) hstack hdg
  rcases hK m meth c ⟨T.setVm vm₁, locs, cells, slots⟩ { g with stack := rest } (.invokevirtual index) mk (Value.ref b :: argsL).toArray X₁ hg hsize hdg hW (X₁.named hnamed) (hpre vm₁ X₁.warmed) with ⟨v, B, X', hpost, hsteps⟩ | ⟨q, B, X', hpost, hsteps⟩
  · exact Or.inl ⟨v, vm₁, B, X₁.warmed, X', hpost, fun target h => hstep₁ _ fun acts => by rw [doInvoke_state]; exact hsteps.trans h⟩
  · exact Or.inr ⟨q, vm₁, B, X₁.warmed, X', hpost, hstep₁ _ fun acts => by rw [doInvoke_state]; exact hsteps⟩
theorem vx_callS (X : Stand p l e R s m args below meth c T locs cells slots) (hexec : p.tables.exec = Jvm.exec) {own : String} {index : Nat} {y : MethodName} {bytes : ByteArray} {maxL : Nat} {ret : Option FieldType}
    (hown : s.vm.findClass own = some m.cls) (hlink : (Cond.methodLink own index y).before args s = true) (hstat : (Cond.static y).before args s = true) (hinit : (Cond.initialized y.cls).before args s = true)
    (hcode : (Cond.code y bytes maxL ret).before args s = true) (hy : y.cls ≠ "java/lang/invoke/MethodHandle" ∧ y.cls ≠ "java/lang/invoke/VarHandle")
    {W9 : Nat} {Pre : Pt → Array Value → Prop} {Post : Pt → Array Value → Option Value → Pt → Prop} {PostX : Pt → Array Value → Addr → Pt → Prop} (hK : vx_Back l R p e below s args y 3 W9 Pre Post PostX)
    {g : JFrame} (hg : g.method = m) (hsize : g.locals.size = c.maxLocals) {argsL rest : List Value} (hlen : ∀ sig, parseMethodDescriptor y.desc = some sig → argsL.length = sig.parameters.length)
    (hstack : g.stack = argsL.reverse ++ rest) (hW : 2 * g.monitorRoom + (rest.map fun v => v.category).sum ≤ W9) (hdg : decode c.code g.pc = .ok (.invokestatic index, 3))
    (hpre : ∀ vm₁, s.WarmedH vm₁ → Pre ⟨T.setVm vm₁, locs, cells, slots⟩ argsL.toArray) :
    (∃ (v : Option Value) (vm₁ : Vm) (B : Pt), s.WarmedH vm₁ ∧ Stand p l e R s m args below meth c B.U B.locs B.cells B.slots ∧ Post ⟨T.setVm vm₁, locs, cells, slots⟩ argsL.toArray v B ∧
      ∀ target, Steps p.tables e below (B.U.setTop { g with pc := g.pc + 3, stack := v.toList ++ rest }) target → Steps p.tables e below (T.setTop g) target) ∨
    (∃ (q : Addr) (vm₁ : Vm) (B : Pt), s.WarmedH vm₁ ∧ Stand p l e R s m args below meth c B.U B.locs B.cells B.slots ∧ PostX ⟨T.setVm vm₁, locs, cells, slots⟩ argsL.toArray q B ∧
      Steps p.tables e below (T.setTop g) ((B.U.setTop { g with stack := rest }).pushFrame (.throwing q))) := by
  obtain ⟨mk, hnamed⟩ := Cond.code_named hcode
  obtain ⟨methM, cM, hmethM, -, -, -, -, -, -, hsigM⟩ := Cond.code_spec hnamed hcode
  have hstatic : methM.isStatic = true := Cond.static_spec hnamed hmethM hstat
  obtain ⟨kP, hkP, -⟩ := className_of_methodNamed hnamed
  have hinitP : kP.init = .initialized := Cond.initialized_spec (findClass_of_methodNamed hnamed) hkP hinit
  obtain ⟨vm₁, X₁, hstep₁⟩ := X.invokestatic hexec hown hlink hnamed hmethM hstatic hkP hinitP hy (g := g) hg (argsL := argsL) (rest := rest) (hlen _ hsigM) hstack hdg
  rcases hK m meth c ⟨T.setVm vm₁, locs, cells, slots⟩ { g with stack := rest } (.invokestatic index) mk argsL.toArray X₁ hg hsize hdg hW (X₁.named hnamed) (hpre vm₁ X₁.warmed) with ⟨v, B, X', hpost, hsteps⟩ | ⟨q, B, X', hpost, hsteps⟩
  · exact Or.inl ⟨v, vm₁, B, X₁.warmed, X', hpost, fun target h => hstep₁ _ fun acts => by rw [doInvoke_state]; exact hsteps.trans h⟩
  · exact Or.inr ⟨q, vm₁, B, X₁.warmed, X', hpost, hstep₁ _ fun acts => by rw [doInvoke_state]; exact hsteps⟩
end Calls
theorem vx_cls {s : State} {T : State} {vm₁ : Vm} {E : String} {k : ClassId} (hW : s.WarmedH vm₁) (h : (T.setVm vm₁).vm.findClass E = some k) : s.vm.findClass E = some k := by
  have h1 : vm₁.findClass E = some k := h
  rw [hW.alike.findClass] at h1
  exact h1
/-- the method's frame g, with q thrown over it -/
def vx_W (p : Program) (l : Launch) (e : Env) (R : Room) (s : State) (m : MethodId) (args : Array Value) (below : List Frame) (meth : Method) (c : Code) (H : Heap) (locs : List Loc) (cells slots : Nat) (Q : State → Prop) (g : JFrame) (q : Addr) : Prop :=
  ∀ T : State, T.heap = H → Stand p l e R s m args below meth c T locs cells slots → ∃ t, Steps p.tables e below ((T.setTop g).pushFrame (.throwing q)) t ∧ Q t
def vx_Run (p : Program) (l : Launch) (e : Env) (R : Room) (s : State) (m : MethodId) (args : Array Value) (below : List Frame) (meth : Method) (c : Code) (H : Heap) (locs : List Loc) (cells slots mc ms : Nat) (g : JFrame) (rest : List Value) (Qa : State → Outcome → State → Prop) (XC : String → State → State → Prop) (free : Addr → Prop) : Prop :=
  ∀ T : State, T.heap = H → Stand p l e R s m args below meth c T locs cells slots →
    (∃ (v : Option Value) (st₀ t T' : State) (L : List Loc), st₀.heap = H ∧ Stand p l e R s m args below meth c T' (locs ++ L) (cells + mc) (slots + ms) ∧ (∀ q ∈ L, free q.base) ∧ T'.heap = t.heap ∧ T'.vm = t.vm ∧ Qa st₀ (.returned v) t ∧
      Goes p e below T g T' { g with pc := g.pc + 3, stack := v.toList ++ rest }) ∨
    (∃ (q : Addr) (st₀ t T' : State) (L : List Loc) (E : String) (ce : Cell), st₀.heap = H ∧ Stand p l e R s m args below meth c T' (locs ++ L) (cells + mc) (slots + ms) ∧ (∀ z ∈ L, free z.base) ∧ T'.heap = t.heap ∧ T'.vm = t.vm ∧ XC E st₀ t ∧ t.heap[q]? = some ce ∧ ce.vm = .none ∧ s.vm.findClass E = some ce.cls ∧
      Steps p.tables e below (T.setTop g) ((T'.setTop { g with stack := rest }).pushFrame (.throwing q)))
def vx_X {S : Type} (px : S → Prop) (B : String → S → State → Prop) (A : Nat → Prop) : String → State → State → Prop := fun E st t => ∃ u : S, px u ∧ B E u t ∧ va_F A st t
section Runs
variable {p : Program} {l : Launch} {e : Env} {R : Room} {s : State} {m : MethodId} {args : Array Value} {below : List Frame} {meth : Method} {c : Code} {H : Heap} {locs : List Loc} {cells slots : Nat}
variable {y : MethodName} {bytes cc : ByteArray} {maxL nL mc ms n index : Nat} {ret : Option FieldType} {ws : List Cond} {rm : Room} {Pc : Array Value → State → Prop} {Qc : Array Value → State → Outcome → State → Prop} {XC : String → State → State → Prop} {free : Addr → Prop} {Ts : List Cond} {own C : String} {b : Addr} {As rest : List Value} {g : JFrame}
theorem vx_callBack (cb : CallB R s args own index y bytes maxL ret ws rm mc ms n) (hM : vx_Met l y ws rm Pc Qc XC mc ms free) (hbl : FrameBlind Pc) : vx_Back l R p e below s args y 3 8 (PreOf R mc ms Pc) (PostOf Qc mc ms free) (vx_Post XC mc ms free) := by
  obtain ⟨hrc, hrs, hfr, hlo, hws, hcw, -, hini, -⟩ := cb
  exact vx_back (bytes := bytes) (maxL := maxL) (ret := ret) hM hbl hrc hrs hfr hlo hws hcw (fun a' U hW => word_at hW (Or.inl (by first | rfl | simp [Cond.onTables, Cond.keeps, Cond.steady])) hini)
theorem vx_runV (S : CallFix p m c cc nL s args Ts own) (hM : vx_Met l y ws rm Pc Qc XC mc ms free) (cw : CallW R s args own C index y bytes maxL ret ws rm mc ms n) (hp : PreV s H C b Pc As)
    (hg : g.method = m) (hn : As.length = n) (hsize : g.locals.size = nL) (hstack : g.stack = As.reverse ++ .ref b :: rest) (hW : 2 * g.monitorRoom + (rest.map fun v => v.category).sum ≤ 8) (hdg : decode cc g.pc = .ok (.invokevirtual index, 3)) (hf : cells + mc ≤ R.cells ∧ slots + ms ≤ R.slots) :
    vx_Run p l e R s m args below meth c H locs cells slots mc ms g rest (Qc (Value.ref b :: As).toArray) XC free := by
  have hK : vx_Back l R p e below s args y 3 8 (PreOf R mc ms Pc) (PostOf Qc mc ms free) (vx_Post XC mc ms free) := vx_callBack cw.1 hM hp.1
  obtain ⟨⟨-, -, -, -, -, -, hcode, -, hy, hlen, hl⟩, hin, hse⟩ := cw
  obtain ⟨hx, hb, hml, ho, -⟩ := S
  obtain ⟨-, ⟨cellB, hcB, hoB, hclB⟩, hPc⟩ := hp
  intro T hT X
  rcases vx_callV X hx (C := C) (bytes := bytes) (maxL := maxL) (ret := ret) ho hl hin hse hcode hy hK (by rw [hT]; exact hcB) hoB hclB hg (hsize.trans hml.symm) (argsL := As) (rest := rest) (fun sig h => hn.trans (hlen sig h)) hstack hW (by rw [hb]; exact hdg)
    (fun vm₁ hW₁ => ⟨hf.1, hf.2, hPc (T.setVm vm₁) hT hW₁⟩) with ⟨v, vm₁, ⟨U', l2, c2, s2⟩, hW₁, X', ⟨g', mk, t, L, e1, e2, hq, h1, hL, h2, h3⟩, st⟩ | ⟨q, vm₁, ⟨U', l2, c2, s2⟩, hW₁, X', ⟨g', mk, t, L, E, ce, e1, e2, hq, hce, hcv, hcl, h1, hL, h2, h3⟩, st⟩
  · dsimp only [Pt.U, Pt.locs, Pt.cells, Pt.slots] at X' e1 e2 h1 h2 h3 st
    subst h1; subst h2; subst h3
    exact Or.inl ⟨v, (T.setVm vm₁).calling g' mk (Value.ref b :: As).toArray, t, U', L, hT, X', hL, e1, e2, hq, st⟩
  · dsimp only [Pt.U, Pt.locs, Pt.cells, Pt.slots] at X' e1 e2 h1 h2 h3 st hcl
    subst h1; subst h2; subst h3
    exact Or.inr ⟨q, (T.setVm vm₁).calling g' mk (Value.ref b :: As).toArray, t, U', L, E, ce, hT, X', hL, e1, e2, hq, hce, hcv, vx_cls hW₁ hcl, st⟩
theorem vx_runS (S : CallFix p m c cc nL s args Ts own) (hM : vx_Met l y ws rm Pc Qc XC mc ms free) (cw : CallB R s args own index y bytes maxL ret ws rm mc ms n ∧ (Cond.static y).before args s = true) (hp : PreS s H Pc As)
    (hg : g.method = m) (hn : As.length = n) (hsize : g.locals.size = nL) (hstack : g.stack = As.reverse ++ rest) (hW : 2 * g.monitorRoom + (rest.map fun v => v.category).sum ≤ 8) (hdg : decode cc g.pc = .ok (.invokestatic index, 3)) (hf : cells + mc ≤ R.cells ∧ slots + ms ≤ R.slots) :
    vx_Run p l e R s m args below meth c H locs cells slots mc ms g rest (Qc As.toArray) XC free := by
  have hK : vx_Back l R p e below s args y 3 8 (PreOf R mc ms Pc) (PostOf Qc mc ms free) (vx_Post XC mc ms free) := vx_callBack cw.1 hM hp.1
  obtain ⟨⟨-, -, -, -, -, -, hcode, hini, hy, hlen, hl⟩, hstt⟩ := cw
  obtain ⟨hx, hb, hml, ho, -⟩ := S
  intro T hT X
  rcases vx_callS X hx (bytes := bytes) (maxL := maxL) (ret := ret) ho hl hstt hini hcode hy hK hg (hsize.trans hml.symm) (argsL := As) (rest := rest) (fun sig h => hn.trans (hlen sig h)) hstack hW (by rw [hb]; exact hdg)
    (fun vm₁ hW₁ => ⟨hf.1, hf.2, hp.2 (T.setVm vm₁) hT hW₁⟩) with ⟨v, vm₁, ⟨U', l2, c2, s2⟩, hW₁, X', ⟨g', mk, t, L, e1, e2, hq, h1, hL, h2, h3⟩, st⟩ | ⟨q, vm₁, ⟨U', l2, c2, s2⟩, hW₁, X', ⟨g', mk, t, L, E, ce, e1, e2, hq, hce, hcv, hcl, h1, hL, h2, h3⟩, st⟩
  · dsimp only [Pt.U, Pt.locs, Pt.cells, Pt.slots] at X' e1 e2 h1 h2 h3 st
    subst h1; subst h2; subst h3
    exact Or.inl ⟨v, (T.setVm vm₁).calling g' mk As.toArray, t, U', L, hT, X', hL, e1, e2, hq, st⟩
  · dsimp only [Pt.U, Pt.locs, Pt.cells, Pt.slots] at X' e1 e2 h1 h2 h3 st hcl
    subst h1; subst h2; subst h3
    exact Or.inr ⟨q, (T.setVm vm₁).calling g' mk As.toArray, t, U', L, E, ce, hT, X', hL, e1, e2, hq, hce, hcv, vx_cls hW₁ hcl, st⟩
end Runs
section Rows
variable {p : Program} {l : Launch} {e : Env} {R : Room} {s : State} {m : MethodId} {args : Array Value} {below : List Frame} {meth : Method} {c : Code} {H : Heap} {locs : List Loc} {cells slots : Nat} {Q : State → Prop}
variable {mc ms : Nat} {free : Addr → Prop} {A0 A1 : Nat → Prop} {H0 : Heap} {a : Array Value} {pc : Nat} {ls : Array Slot} {st0 rest : List Value}
theorem vx_keep {st₀ t T' : State} {L : List Loc} (h0 : st₀.heap = H) (e1 : T'.heap = t.heap) (hS : va_S A0 H0 H locs) (hA : ∀ q, q < H.size → A1 q → A0 q) (hf : ∀ q, free q → A0 q) (hL : ∀ q ∈ L, free q.base) (hF : va_F A1 st₀ t) :
    H.size ≤ T'.heap.size ∧ (∀ q : Nat, q < H.size → ¬ A1 q → T'.heap[q]? = H[q]?) ∧ va_S A0 H0 T'.heap (locs ++ L) := by
  obtain ⟨hz, hk⟩ := hF
  rw [h0] at hz hk
  exact ⟨by rw [e1]; exact hz, fun q h1 h2 => by rw [e1]; exact hk q h1 h2,
    ⟨Nat.le_trans hS.1 (by rw [e1]; exact hz), fun q h1 h2 => by rw [e1, hk q (Nat.lt_of_lt_of_le h1 hS.1) (fun z => h2 (hA q (Nat.lt_of_lt_of_le h1 hS.1) z))]; exact hS.2.1 q h1 h2, fun q hq => by
      rcases List.mem_append.mp hq with h | h
      · exact hS.2.2 q h
      · exact hf _ (hL q h)⟩⟩
theorem vx_calli {S SX : Type} {post : Int32 → S → Prop} {px : SX → Prop} {B : S → State → Prop} {BX : String → SX → State → Prop} {AX : Nat → Prop} (hr : vx_Run p l e R s m args below meth c H locs cells slots mc ms (F0 m pc ls st0) rest (va_Qi post B A1 a) (vx_X px BX AX) free) (hS : va_S A0 H0 H locs) (hA : ∀ q, q < H.size → A1 q → A0 q) (hf : ∀ q, free q → A0 q) (hAX : ∀ q, q < H.size → AX q → A0 q)
    (kx : ∀ (E : String) (ce : Cell) (q9 : Addr) (u : SX) (t : State) (H1 : Heap) (locs1 : List Loc), t.heap = H1 → s.vm.Alike t.vm → px u → BX E u t → H.size ≤ H1.size → (∀ q : Nat, q < H.size → ¬ AX q → H1[q]? = H[q]?) → va_S A0 H0 H1 locs1 → H1[q9]? = some ce → ce.vm = .none → s.vm.findClass E = some ce.cls → vx_W p l e R s m args below meth c H1 locs1 (cells + mc) (slots + ms) Q (F0 m pc ls rest) q9)
    (kk : ∀ (r : Int32) (u : S) (t : State) (H1 : Heap) (locs1 : List Loc), t.heap = H1 → s.vm.Alike t.vm → post r u → B u t → H.size ≤ H1.size → (∀ q : Nat, q < H.size → ¬ A1 q → H1[q]? = H[q]?) → va_S A0 H0 H1 locs1 → W p l e R s m args below meth c H1 locs1 (cells + mc) (slots + ms) Q (F0 m (pc + 3) ls (.int r :: rest))) : W p l e R s m args below meth c H locs cells slots Q (F0 m pc ls st0) := by
  intro T hT X
  rcases hr T hT X with ⟨v, st₀, t, T', L, h0, X', hL, e1, e2, ⟨⟨r, u, hv, hp, hb⟩, hF⟩, st⟩ | ⟨q, st₀, t, T', L, E, ce, h0, X', hL, e1, e2, ⟨u, hp, hb, hF⟩, hce, hcv, hcl, st⟩
  · cases hv
    obtain ⟨k1, k2, k3⟩ := vx_keep h0 e1 hS hA hf hL hF
    obtain ⟨t2, a1, b1⟩ := kk r u t T'.heap (locs ++ L) e1.symm (by rw [← e2]; exact X'.warmed.alike) hp hb k1 k2 k3 T' rfl X'
    exact ⟨t2, st t2 a1, b1⟩
  · obtain ⟨k1, k2, k3⟩ := vx_keep h0 e1 hS hAX hf hL hF
    obtain ⟨t2, a1, b1⟩ := kx E ce q u t T'.heap (locs ++ L) e1.symm (by rw [← e2]; exact X'.warmed.alike) hp hb k1 k2 k3 (by rw [e1]; exact hce) hcv hcl T' rfl X'
    exact ⟨t2, st.trans a1, b1⟩
theorem vx_calll {S SX : Type} {post : Int64 → S → Prop} {px : SX → Prop} {B : S → State → Prop} {BX : String → SX → State → Prop} {AX : Nat → Prop} (hr : vx_Run p l e R s m args below meth c H locs cells slots mc ms (F0 m pc ls st0) rest (va_Ql post B A1 a) (vx_X px BX AX) free) (hS : va_S A0 H0 H locs) (hA : ∀ q, q < H.size → A1 q → A0 q) (hf : ∀ q, free q → A0 q) (hAX : ∀ q, q < H.size → AX q → A0 q)
    (kx : ∀ (E : String) (ce : Cell) (q9 : Addr) (u : SX) (t : State) (H1 : Heap) (locs1 : List Loc), t.heap = H1 → s.vm.Alike t.vm → px u → BX E u t → H.size ≤ H1.size → (∀ q : Nat, q < H.size → ¬ AX q → H1[q]? = H[q]?) → va_S A0 H0 H1 locs1 → H1[q9]? = some ce → ce.vm = .none → s.vm.findClass E = some ce.cls → vx_W p l e R s m args below meth c H1 locs1 (cells + mc) (slots + ms) Q (F0 m pc ls rest) q9)
    (kk : ∀ (r : Int64) (u : S) (t : State) (H1 : Heap) (locs1 : List Loc), t.heap = H1 → s.vm.Alike t.vm → post r u → B u t → H.size ≤ H1.size → (∀ q : Nat, q < H.size → ¬ A1 q → H1[q]? = H[q]?) → va_S A0 H0 H1 locs1 → W p l e R s m args below meth c H1 locs1 (cells + mc) (slots + ms) Q (F0 m (pc + 3) ls (.long r :: rest))) : W p l e R s m args below meth c H locs cells slots Q (F0 m pc ls st0) := by
  intro T hT X
  rcases hr T hT X with ⟨v, st₀, t, T', L, h0, X', hL, e1, e2, ⟨⟨r, u, hv, hp, hb⟩, hF⟩, st⟩ | ⟨q, st₀, t, T', L, E, ce, h0, X', hL, e1, e2, ⟨u, hp, hb, hF⟩, hce, hcv, hcl, st⟩
  · cases hv
    obtain ⟨k1, k2, k3⟩ := vx_keep h0 e1 hS hA hf hL hF
    obtain ⟨t2, a1, b1⟩ := kk r u t T'.heap (locs ++ L) e1.symm (by rw [← e2]; exact X'.warmed.alike) hp hb k1 k2 k3 T' rfl X'
    exact ⟨t2, st t2 a1, b1⟩
  · obtain ⟨k1, k2, k3⟩ := vx_keep h0 e1 hS hAX hf hL hF
    obtain ⟨t2, a1, b1⟩ := kx E ce q u t T'.heap (locs ++ L) e1.symm (by rw [← e2]; exact X'.warmed.alike) hp hb k1 k2 k3 (by rw [e1]; exact hce) hcv hcl T' rfl X'
    exact ⟨t2, st.trans a1, b1⟩
theorem vx_callf {S SX : Type} {post : UInt32 → S → Prop} {px : SX → Prop} {B : S → State → Prop} {BX : String → SX → State → Prop} {AX : Nat → Prop} (hr : vx_Run p l e R s m args below meth c H locs cells slots mc ms (F0 m pc ls st0) rest (va_Qf post B A1 a) (vx_X px BX AX) free) (hS : va_S A0 H0 H locs) (hA : ∀ q, q < H.size → A1 q → A0 q) (hf : ∀ q, free q → A0 q) (hAX : ∀ q, q < H.size → AX q → A0 q)
    (kx : ∀ (E : String) (ce : Cell) (q9 : Addr) (u : SX) (t : State) (H1 : Heap) (locs1 : List Loc), t.heap = H1 → s.vm.Alike t.vm → px u → BX E u t → H.size ≤ H1.size → (∀ q : Nat, q < H.size → ¬ AX q → H1[q]? = H[q]?) → va_S A0 H0 H1 locs1 → H1[q9]? = some ce → ce.vm = .none → s.vm.findClass E = some ce.cls → vx_W p l e R s m args below meth c H1 locs1 (cells + mc) (slots + ms) Q (F0 m pc ls rest) q9)
    (kk : ∀ (r : UInt32) (u : S) (t : State) (H1 : Heap) (locs1 : List Loc), t.heap = H1 → s.vm.Alike t.vm → post r u → B u t → H.size ≤ H1.size → (∀ q : Nat, q < H.size → ¬ A1 q → H1[q]? = H[q]?) → va_S A0 H0 H1 locs1 → W p l e R s m args below meth c H1 locs1 (cells + mc) (slots + ms) Q (F0 m (pc + 3) ls (.float r :: rest))) : W p l e R s m args below meth c H locs cells slots Q (F0 m pc ls st0) := by
  intro T hT X
  rcases hr T hT X with ⟨v, st₀, t, T', L, h0, X', hL, e1, e2, ⟨⟨r, u, hv, hp, hb⟩, hF⟩, st⟩ | ⟨q, st₀, t, T', L, E, ce, h0, X', hL, e1, e2, ⟨u, hp, hb, hF⟩, hce, hcv, hcl, st⟩
  · cases hv
    obtain ⟨k1, k2, k3⟩ := vx_keep h0 e1 hS hA hf hL hF
    obtain ⟨t2, a1, b1⟩ := kk r u t T'.heap (locs ++ L) e1.symm (by rw [← e2]; exact X'.warmed.alike) hp hb k1 k2 k3 T' rfl X'
    exact ⟨t2, st t2 a1, b1⟩
  · obtain ⟨k1, k2, k3⟩ := vx_keep h0 e1 hS hAX hf hL hF
    obtain ⟨t2, a1, b1⟩ := kx E ce q u t T'.heap (locs ++ L) e1.symm (by rw [← e2]; exact X'.warmed.alike) hp hb k1 k2 k3 (by rw [e1]; exact hce) hcv hcl T' rfl X'
    exact ⟨t2, st.trans a1, b1⟩
theorem vx_calld {S SX : Type} {post : UInt64 → S → Prop} {px : SX → Prop} {B : S → State → Prop} {BX : String → SX → State → Prop} {AX : Nat → Prop} (hr : vx_Run p l e R s m args below meth c H locs cells slots mc ms (F0 m pc ls st0) rest (va_Qd post B A1 a) (vx_X px BX AX) free) (hS : va_S A0 H0 H locs) (hA : ∀ q, q < H.size → A1 q → A0 q) (hf : ∀ q, free q → A0 q) (hAX : ∀ q, q < H.size → AX q → A0 q)
    (kx : ∀ (E : String) (ce : Cell) (q9 : Addr) (u : SX) (t : State) (H1 : Heap) (locs1 : List Loc), t.heap = H1 → s.vm.Alike t.vm → px u → BX E u t → H.size ≤ H1.size → (∀ q : Nat, q < H.size → ¬ AX q → H1[q]? = H[q]?) → va_S A0 H0 H1 locs1 → H1[q9]? = some ce → ce.vm = .none → s.vm.findClass E = some ce.cls → vx_W p l e R s m args below meth c H1 locs1 (cells + mc) (slots + ms) Q (F0 m pc ls rest) q9)
    (kk : ∀ (r : UInt64) (u : S) (t : State) (H1 : Heap) (locs1 : List Loc), t.heap = H1 → s.vm.Alike t.vm → post r u → B u t → H.size ≤ H1.size → (∀ q : Nat, q < H.size → ¬ A1 q → H1[q]? = H[q]?) → va_S A0 H0 H1 locs1 → W p l e R s m args below meth c H1 locs1 (cells + mc) (slots + ms) Q (F0 m (pc + 3) ls (.double r :: rest))) : W p l e R s m args below meth c H locs cells slots Q (F0 m pc ls st0) := by
  intro T hT X
  rcases hr T hT X with ⟨v, st₀, t, T', L, h0, X', hL, e1, e2, ⟨⟨r, u, hv, hp, hb⟩, hF⟩, st⟩ | ⟨q, st₀, t, T', L, E, ce, h0, X', hL, e1, e2, ⟨u, hp, hb, hF⟩, hce, hcv, hcl, st⟩
  · cases hv
    obtain ⟨k1, k2, k3⟩ := vx_keep h0 e1 hS hA hf hL hF
    obtain ⟨t2, a1, b1⟩ := kk r u t T'.heap (locs ++ L) e1.symm (by rw [← e2]; exact X'.warmed.alike) hp hb k1 k2 k3 T' rfl X'
    exact ⟨t2, st t2 a1, b1⟩
  · obtain ⟨k1, k2, k3⟩ := vx_keep h0 e1 hS hAX hf hL hF
    obtain ⟨t2, a1, b1⟩ := kx E ce q u t T'.heap (locs ++ L) e1.symm (by rw [← e2]; exact X'.warmed.alike) hp hb k1 k2 k3 (by rw [e1]; exact hce) hcv hcl T' rfl X'
    exact ⟨t2, st.trans a1, b1⟩
theorem vx_callv {S SX : Type} {post : S → Prop} {px : SX → Prop} {B : S → State → Prop} {BX : String → SX → State → Prop} {AX : Nat → Prop} (hr : vx_Run p l e R s m args below meth c H locs cells slots mc ms (F0 m pc ls st0) rest (va_Qv post B A1 a) (vx_X px BX AX) free) (hS : va_S A0 H0 H locs) (hA : ∀ q, q < H.size → A1 q → A0 q) (hf : ∀ q, free q → A0 q) (hAX : ∀ q, q < H.size → AX q → A0 q)
    (kx : ∀ (E : String) (ce : Cell) (q9 : Addr) (u : SX) (t : State) (H1 : Heap) (locs1 : List Loc), t.heap = H1 → s.vm.Alike t.vm → px u → BX E u t → H.size ≤ H1.size → (∀ q : Nat, q < H.size → ¬ AX q → H1[q]? = H[q]?) → va_S A0 H0 H1 locs1 → H1[q9]? = some ce → ce.vm = .none → s.vm.findClass E = some ce.cls → vx_W p l e R s m args below meth c H1 locs1 (cells + mc) (slots + ms) Q (F0 m pc ls rest) q9)
    (kk : ∀ (u : S) (t : State) (H1 : Heap) (locs1 : List Loc), t.heap = H1 → s.vm.Alike t.vm → post u → B u t → H.size ≤ H1.size → (∀ q : Nat, q < H.size → ¬ A1 q → H1[q]? = H[q]?) → va_S A0 H0 H1 locs1 → W p l e R s m args below meth c H1 locs1 (cells + mc) (slots + ms) Q (F0 m (pc + 3) ls (rest))) : W p l e R s m args below meth c H locs cells slots Q (F0 m pc ls st0) := by
  intro T hT X
  rcases hr T hT X with ⟨v, st₀, t, T', L, h0, X', hL, e1, e2, ⟨⟨u, hv, hp, hb⟩, hF⟩, st⟩ | ⟨q, st₀, t, T', L, E, ce, h0, X', hL, e1, e2, ⟨u, hp, hb, hF⟩, hce, hcv, hcl, st⟩
  · cases hv
    obtain ⟨k1, k2, k3⟩ := vx_keep h0 e1 hS hA hf hL hF
    obtain ⟨t2, a1, b1⟩ := kk u t T'.heap (locs ++ L) e1.symm (by rw [← e2]; exact X'.warmed.alike) hp hb k1 k2 k3 T' rfl X'
    exact ⟨t2, st t2 a1, b1⟩
  · obtain ⟨k1, k2, k3⟩ := vx_keep h0 e1 hS hAX hf hL hF
    obtain ⟨t2, a1, b1⟩ := kx E ce q u t T'.heap (locs ++ L) e1.symm (by rw [← e2]; exact X'.warmed.alike) hp hb k1 k2 k3 (by rw [e1]; exact hce) hcv hcl T' rfl X'
    exact ⟨t2, st.trans a1, b1⟩
/-- caught by the row x of this method's table; the rows ahead don't take it -/
theorem vx_catch {own name : String} {E : String} {ce : Cell} {q : Addr} (hown : s.vm.findClass own = some m.cls) (pre : List ExceptionTableEntry) (x : ExceptionTableEntry) (suf : List ExceptionTableEntry) (hsplit : c.exceptionTable.toList = pre ++ x :: suf)
    (hpass : ∀ z ∈ pre, covers z pc = false ∨ (z.catchType ≠ 0 ∧ ∃ nm : String, (Cond.classLink own z.catchType nm).before args s = true ∧ va_Nc E nm s)) (hx : covers x pc = true) (h0 : x.catchType ≠ 0)
    (hlink : (Cond.classLink own x.catchType name).before args s = true) (hcast : (Cond.castable E name).before args s = true) (hcell : H[q]? = some ce) (hv : ce.vm = .none) (hcl : s.vm.findClass E = some ce.cls)
    (kk : W p l e R s m args below meth c H locs cells slots Q (F0 m x.handlerPc ls [.ref q])) : vx_W p l e R s m args below meth c H locs cells slots Q (F0 m pc ls rest) q := by
  intro T hT X
  have hpl : e.platform.magicAccessors = ({} : Platform).magicAccessors := by rw [X.admits.platform]
  obtain ⟨c3, c4, hc3, hc4, hasg⟩ := Cond.castable_spec hcast
  cases Option.some.inj (hc3.symm.trans hcl)
  obtain ⟨c5, hc5, hcl5⟩ := Cond.classLink_spec hown hlink e.platform hpl
  cases Option.some.inj (hc4.symm.trans hc5)
  obtain ⟨vm', X', st⟩ := X.thenCaughtThrough q (g := F0 m pc ls rest) rfl (Steps.refl _) (by rw [hT]; exact hcell) (by rw [hv]; rfl) (by obtain ⟨k9, h9, -⟩ := Vm.findClass_spec hcl; exact ⟨k9, h9⟩) pre x suf hsplit
    (fun z hz => by
      rcases hpass z hz with h | ⟨hz0, nm, hl1, hn1⟩
      · exact Or.inl h
      · obtain ⟨c6, hc6, hcl6⟩ := Cond.classLink_spec hown hl1 e.platform hpl
        obtain ⟨a8, b8, h1, h2, h3⟩ := hn1
        cases Option.some.inj (h1.symm.trans hcl)
        cases Option.some.inj (h2.symm.trans hc6)
        exact Or.inr ⟨hz0, _, hcl6, h3⟩) hx (Or.inr ⟨h0, c4, hcl5, hasg⟩)
  obtain ⟨t, a1, b1⟩ := kk (T.setVm vm') hT X'
  exact ⟨t, st.trans a1, b1⟩
end Rows
section Ends
variable {p : Program} {l : Launch} {e : Env} {R : Room} {s : State} {m : MethodId} {args : Array Value} {below : List Frame} {meth : Method} {c : Code} {H : Heap} {locs : List Loc} {cells slots : Nat} {Q : State → Prop}
variable {mc ms : Nat} {free : Addr → Prop} {A0 A1 : Nat → Prop} {H0 : Heap} {a : Array Value} {ls : Array Slot} {st0 rest : List Value}
variable {Qc : Array Value → State → Outcome → State → Prop} {XC : String → State → State → Prop}
/-- what a body that may throw owes at its end -/
def vx_MQ (below : List Frame) (Qc : Array Value → State → Outcome → State → Prop) (XC : String → State → State → Prop) (a : Array Value) (s : State) (mc ms : Nat) (free : Addr → Prop) : State → Prop := fun t =>
  ∃ o, t.status = .running ∧ Ended t below o ∧ vx_Q Qc XC mc ms free a s o t
theorem vx_ret {g : JFrame} {mc ms : Nat} (k : W p l e R s m args below meth c H locs cells slots (MQ below Qc args s mc ms free) g) : W p l e R s m args below meth c H locs cells slots (vx_MQ below Qc XC args s mc ms free) g := by
  intro T hT X
  obtain ⟨t, a1, o, b1, b2, b3, b4⟩ := k T hT X
  exact ⟨t, a1, o, b1, b2, Or.inl ⟨b3, b4⟩⟩
/-- not caught here: it goes on to the caller -/
theorem vx_widen {g : JFrame} {q : Addr} {k n : Nat} (h1 : cells ≤ k) (h2 : slots ≤ n) (kk : vx_W p l e R s m args below meth c H locs k n Q g q) : vx_W p l e R s m args below meth c H locs cells slots Q g q := fun T hT X => kk T hT (stand_widen X h1 h2)
theorem vx_out {pc : Nat} {E : String} {ce : Cell} {q : Addr} {mc ms : Nat} (hout : ∀ x ∈ c.exceptionTable.toList, covers x pc = false) (hlocks : meth.locks = false) (hcell : H[q]? = some ce) (hv : ce.vm = .none) (hcl : s.vm.findClass E = some ce.cls)
    (hx : ∀ t : State, t.heap = H → s.vm.Alike t.vm → XC E s t) (hf : ∀ z ∈ locs, free z.base) (hc : cells ≤ mc) (hs : slots ≤ ms) :
    vx_W p l e R s m args below meth c H locs cells slots (vx_MQ below Qc XC args s mc ms free) (F0 m pc ls rest) q := by
  intro T hT X
  obtain ⟨st1, hrun, hend, hW, hsm⟩ := X.leaveThrown q (g := F0 m pc ls rest) rfl rfl rfl hout hlocks
  have hcell9 : (T.setFrames (.throwing q :: below)).heap[q]? = some ce := by
    show T.heap[q]? = some ce
    rw [hT]; exact hcell
  exact ⟨_, st1, .threw q, hrun, hend, Or.inr ⟨q, rfl, E, ce, locs, hx _ hT hW.alike, hcell9, hv, hcl, hW, hsm.mono hc hs, hf⟩⟩
theorem vx_frame {U : State} {k n : Nat} (h : s.sameButNew ({ U with vm := s.vm } : State) locs k n) : s.heap.size ≤ U.heap.size ∧ ∀ q : Nat, q < s.heap.size → (∀ z ∈ locs, z.base ≠ q) → U.heap[q]? = s.heap[q]? := by
  obtain ⟨-, h2, -, -, -, h6⟩ := h
  refine ⟨h2, fun q hq hz => ?_⟩
  obtain ⟨c9, e1, e2, e3, e4⟩ := h6 q _ (Array.getElem?_eq_getElem hq)
  have hs : c9.slots = (s.heap[q]).slots := Array.ext_getElem? fun i => e4 i fun hm => hz _ hm rfl
  have h9 : c9 = s.heap[q] := by
    rw [hs] at e2
    exact e2
  have e5 : U.heap[q]? = some c9 := e1
  rw [e5, h9, Array.getElem?_eq_getElem hq]
/-- the words of a throw but the four that speak of the heap -/
def vx_no (w : Cond) : Bool := decide (w ≠ .isRef (.static Bundle.tN "UNASSIGNED_STACK" Bundle.steD)) && decide (w ≠ .isRef (.static Bundle.tN "SUPPRESSED_SENTINEL" Bundle.listD)) && decide (w ≠ .laysStatic Bundle.tN "UNASSIGNED_STACK" Bundle.steD) && decide (w ≠ .laysStatic Bundle.tN "SUPPRESSED_SENTINEL" Bundle.listD)
def vx_at0 (own : String) (ic : Nat) (X : String) (names : List String) : List Cond := (Bundle.ownAtoms0 own ic X names).filter vx_no
def vx_atS (own : String) (ic : Nat) (X : String) (names : List String) : List Cond := (Bundle.ownAtoms own ic X names).filter vx_no
/-- a word that the tables alone decide, or a good one -/
def vx_ot (w : Cond) : Bool := w.onTables || goodWord w
theorem vx_ot_at {args a' : Array Value} {s U : State} {w : Cond} (hW : s.WarmedH U.vm) (hvm : s.vm = U.vm) (hg : vx_ot w = true) (h : w.before args s = true) : w.before a' U = true := by
  simp only [vx_ot, Bool.or_eq_true] at hg
  rcases hg with hg | hg
  · exact va_tabs hg hvm h
  · exact word_at hW (good_of_word hg) h
/-- a list's words: the good ones out of the method's own list, the others by premises of their own -/
theorem vx_hat {args : Array Value} {s : State} {L B : List Cond} (h1 : ∀ w ∈ L.filter goodWord, w.before args s = true) (h2 : ∀ w ∈ L.filter (fun w => !goodWord w), w ∈ B) (h3 : ∀ w ∈ B, w.before args s = true) : ∀ w ∈ L, w.before args s = true := by
  intro w hw
  by_cases g : goodWord w = true
  · exact h1 w (List.mem_filter.mpr ⟨hw, g⟩)
  · refine h3 w (h2 w (List.mem_filter.mpr ⟨hw, ?_⟩))
    show (!goodWord w) = true
    cases hgw : goodWord w
    · rfl
    · exact absurd hgw g
theorem vx_c {args : Array Value} {s : State} {w : Cond} {B : List Cond} (h : w.before args s = true) (t : ∀ w ∈ B, w.before args s = true) : ∀ w' ∈ w :: B, w'.before args s = true := fun w' h' => (List.mem_cons.mp h').elim (fun e => by rw [e]; exact h) (t w')
theorem vx_n {args : Array Value} {s : State} : ∀ w ∈ ([] : List Cond), w.before args s = true := fun _ h => nomatch h
theorem vx_own {args : Array Value} {s : State} {L : List Cond} (h1 : ∀ w ∈ L.filter vx_no, w.before args s = true)
    (hU : (Cond.isRef (.static Bundle.tN "UNASSIGNED_STACK" Bundle.steD)).before args s = true) (hN : (Cond.isRef (.static Bundle.tN "SUPPRESSED_SENTINEL" Bundle.listD)).before args s = true)
    (lU : (Cond.laysStatic Bundle.tN "UNASSIGNED_STACK" Bundle.steD).before args s = true) (lN : (Cond.laysStatic Bundle.tN "SUPPRESSED_SENTINEL" Bundle.listD).before args s = true) : ∀ w ∈ L, w.before args s = true := by
  intro w hw
  by_cases e1 : w = .isRef (.static Bundle.tN "UNASSIGNED_STACK" Bundle.steD)
  · rw [e1]; exact hU
  · by_cases e2 : w = .isRef (.static Bundle.tN "SUPPRESSED_SENTINEL" Bundle.listD)
    · rw [e2]; exact hN
    · by_cases e3 : w = .laysStatic Bundle.tN "UNASSIGNED_STACK" Bundle.steD
      · rw [e3]; exact lU
      · by_cases e4 : w = .laysStatic Bundle.tN "SUPPRESSED_SENTINEL" Bundle.listD
        · rw [e4]; exact lN
        · exact h1 w (List.mem_filter.mpr ⟨hw, by unfold vx_no; rw [decide_eq_true e1, decide_eq_true e2, decide_eq_true e3, decide_eq_true e4]; rfl⟩)
/-- where a static field lies, its class's statics cell in H -/
def vx_L (C n d : String) (A : Nat → Prop) (U : State) (H : Heap) : Prop := ∃ (c : ClassId) (k : Class) (i : Nat) (f : Field) (a : Nat) (cell : Cell), U.vm.findClass C = some c ∧ U.fieldFound? C n d = some (c, k, i, f) ∧ f.isStatic = true ∧ k.statics = some a ∧ H[a]? = some cell ∧ cell.vm.isStatics = true ∧ cell.cls = c ∧ f.slot < cell.slots.size ∧ k.staticTypes[f.slot]? = some f.type ∧ ¬ A a
theorem vx_L.moved {C n d : String} {A : Nat → Prop} {u U : State} {H : Heap} (hvm : u.vm.Alike U.vm) (h : vx_L C n d A u H) : vx_L C n d A U H := by
  obtain ⟨c, k, i, f, a, cell, h1, h2, h3, h4, h5, h6, h7, h8, h9, h10⟩ := h
  obtain ⟨k', hi', he⟩ := State.fieldFound?_setVm hvm h2
  exact ⟨c, k', i, f, a, cell, by rw [hvm.findClass]; exact h1, hi', h3, by rw [he]; exact h4, h5, h6, h7, h8, by rw [he]; exact h9, h10⟩
theorem vx_L.kept {C n d : String} {A : Nat → Prop} {U : State} {H H1 : Heap} (h : vx_L C n d A U H) (hq : ∀ a : Nat, a < H.size → ¬ A a → H1[a]? = H[a]?) : vx_L C n d A U H1 := by
  obtain ⟨c, k, i, f, a, cell, h1, h2, h3, h4, h5, h6, h7, h8, h9, h10⟩ := h
  exact ⟨c, k, i, f, a, cell, h1, h2, h3, h4, by rw [hq a (Array.getElem?_eq_some_iff.mp h5).1 h10]; exact h5, h6, h7, h8, h9, h10⟩
theorem vx_L.narrow {C n d : String} {A B : Nat → Prop} {U : State} {H : Heap} (h : vx_L C n d A U H) (hAB : ∀ q, B q → A q) : vx_L C n d B U H := by
  obtain ⟨c, k, i, f, a, cell, h1, h2, h3, h4, h5, h6, h7, h8, h9, h10⟩ := h
  exact ⟨c, k, i, f, a, cell, h1, h2, h3, h4, h5, h6, h7, h8, h9, fun z => h10 (hAB _ z)⟩
theorem vx_L.word {C n d : String} {A : Nat → Prop} {s : State} {args : Array Value} (h : vx_L C n d A s s.heap) : (Cond.laysStatic C n d).before args s = true := by
  obtain ⟨c, k, i, f, a, cell, h1, h2, h3, h4, h5, h6, h7, h8, h9, -⟩ := h
  show (Cond.laysStatic C n d).holds args s none s [] = true
  exact Cond.laysStatic_of h1 h2 h3 h4 h5 h6 h7 h8 h9
/-- .. and what it holds: null or some reference -/
def vx_Zq (C n d : String) (A : Nat → Prop) (U : State) (H : Heap) : Prop := va_Zq C n d A U H ∧ vx_L C n d A U H
theorem vx_Zq.moved {C n d : String} {A : Nat → Prop} {u U : State} {H : Heap} (hvm : u.vm.Alike U.vm) (h : vx_Zq C n d A u H) : vx_Zq C n d A U H := ⟨va_Zq.moved hvm h.1, vx_L.moved hvm h.2⟩
theorem vx_Zq.kept {C n d : String} {A : Nat → Prop} {U : State} {H H1 : Heap} (h : vx_Zq C n d A U H) (hq : ∀ a : Nat, a < H.size → ¬ A a → H1[a]? = H[a]?) : vx_Zq C n d A U H1 := ⟨va_Zq.kept h.1 hq, vx_L.kept h.2 hq⟩
theorem vx_Zq.narrow {C n d : String} {A B : Nat → Prop} {U : State} {H : Heap} (h : vx_Zq C n d A U H) (hAB : ∀ q, B q → A q) : vx_Zq C n d B U H := ⟨va_Zq.narrow h.1 hAB, vx_L.narrow h.2 hAB⟩
theorem vx_Zqof {args : Array Value} {s : State} {C n d : String} {A : Nat → Prop} (hl : (Cond.laysStatic C n d).before args s = true) (hini : (Cond.initialized C).before args s = true) (h : (Cond.isRef (.static C n d)).before args s = true) (hA : ∀ a : Nat, a < s.heap.size → ¬ A a) : vx_Zq C n d A s s.heap := by
  refine ⟨va_Zqof hl hini h hA, ?_⟩
  obtain ⟨c, k, i, f, a, cell, h1, h2, h3, h4, h5, h6, h7, h8, h9⟩ := Cond.laysStatic_spec hl
  exact ⟨c, k, i, f, a, cell, h1, h2, h3, h4, h5, h6, h7, h8, h9, hA a (Array.getElem?_eq_some_iff.mp h5).1⟩
theorem vx_isRef {C n d : String} {v : Value} {A : Nat → Prop} {s : State} {args : Array Value} (h : va_Z C n d v A s s.heap) (hv : v.isRef = true) : (Cond.isRef (.static C n d)).before args s = true := by
  obtain ⟨cf, kf, fi, f, a, cell, h1, h2, h3, h4, h5, h6, h7, -⟩ := h
  have he : (Term.static C n d).eval args s none [] s = some v := by
    simp [Term.eval, State.fieldNamed?, h1, h2, h4, h5, h6, h7]
  simp only [Cond.before, Cond.holds, Cond.value, he]
  cases v <;> simp_all [Value.isRef]
theorem vx_isRefq {C n d : String} {A : Nat → Prop} {s : State} {args : Array Value} (h : va_Zq C n d A s s.heap) : (Cond.isRef (.static C n d)).before args s = true := by
  rcases h with h | ⟨t, h⟩
  · exact vx_isRef h rfl
  · exact vx_isRef h rfl
/-- the same frame, seen from here: as if the method were called anew in this heap -/
theorem vx_rebase {T : State} (X : Stand p l e R s m args below meth c T locs cells slots) {R' : Room} (hf : R'.frames ≤ R.frames) (hl : R'.locals ≤ R.locals) (hc : cells + R'.cells ≤ R.cells) (hs : slots + R'.slots ≤ R.slots) :
    Stand p l e R' ((T.setVm s.vm).setFrames (.invoking m args :: below)) m args below meth c T [] 0 0 := by
  have htop : (T.setVm s.vm).topJava?.isSome := X.here.top
  have hF : ((T.setVm s.vm).setFrames (.invoking m args :: below)).frames = .invoking m args :: below := State.frames_setFrames _ (State.cur_lt_of_top htop)
  obtain ⟨g₀, hg0⟩ := Option.isSome_iff_exists.mp htop
  obtain ⟨r, hr⟩ := State.topJava?_eq_some.mp hg0
  have hl9 : e.platform.stackLimits (T.setVm s.vm).me = e.platform.stackLimits s.me := X.limits
  have hb9 : (T.setVm s.vm).me.stackBytes = s.me.stackBytes := X.bytes
  refine ⟨X.admits, X.cas, X.clock, hF, ?_, X.hears, X.method, X.code, X.here, X.tail, X.warmed, ?_, ?_, ?_⟩
  · have h := X.room
    have hU : ((T.setVm s.vm).setFrames (.invoking m args :: below)).localsInUse = s.localsInUse := by
      rw [State.localsInUse_invoking hF (meth := meth) (c := c) X.method X.code, State.localsInUse_invoking X.frames X.method X.code]
    simp only [State.hasRoom, Bool.and_eq_true, decide_eq_true_eq] at h ⊢
    obtain ⟨⟨⟨⟨h1, h2, h3, h4, h5, h6⟩, h7⟩, h8⟩, h9⟩ := h
    rw [X.frames, List.length_cons] at h2 h3
    have q1 := X.heapSize
    have q2 := X.used
    simp only [hF, hU, List.length_cons, State.stackLimits_setFrames, State.stackBytes_setFrames, hl9, hb9]
    refine ⟨⟨⟨⟨by omega, by omega, by omega, by omega, by omega, h6⟩, ?_⟩, ?_⟩, X.book⟩
    · show T.heap.size + R'.cells ≤ e.platform.maxCells
      omega
    · show T.slotsUsed + R'.slots ≤ e.platform.maxSlots
      omega
  · rw [State.stackLimits_setFrames]; rfl
  · rw [State.stackBytes_setFrames]; rfl
  · refine ⟨?_, Nat.le_refl _, Nat.le_refl _, ?_, ?_, fun a c9 h9 => ⟨c9, h9, rfl, rfl, fun _ _ => rfl⟩⟩
    · obtain ⟨t, ht, -⟩ := State.frames_cons hr
      show T.setVm s.vm = { ((T.setVm s.vm).setFrames (.invoking m args :: below)).setFrames (T.setVm s.vm).frames with heap := T.heap, slotsUsed := T.slotsUsed }
      rw [State.setFrames_setFrames, State.setFrames_self ht]
      rfl
    · show T.slotsUsed = T.slotsUsed + ((T.heap.toList.drop T.heap.size).map (·.slots.size)).sum
      rw [List.drop_eq_nil_of_le (Nat.le_of_eq Array.length_toList)]
      rfl
    · show ((T.heap.toList.drop T.heap.size).map (·.slots.size)).sum ≤ 0
      rw [List.drop_eq_nil_of_le (Nat.le_of_eq Array.length_toList)]
      exact Nat.le_refl _
/-- 'throw new E()': new; dup; invokespecial; athrow -/
theorem vx_throw0 {cc : ByteArray} {pc : Nat} (hexec : p.tables.exec = Jvm.exec) (hb : c.code = cc) (hl : l.stackTraces = false) {own cls : String} {names : List String} {ik ic mc ms : Nat} {A : Nat → Prop}
    (hown : s.vm.findClass own = some m.cls) (hcls : Bundle.fit cls = true) (hnames : ∀ n ∈ names, Bundle.fit n = true)
    (hk : (Cond.classLink own ik cls).before args s = true) (hini : (Cond.initialized cls).before args s = true) (hat : ∀ w ∈ vx_at0 own ic cls names, w.before args s = true)
    (hgood : ∀ w ∈ Cond.classLink own ik cls :: Cond.initialized cls :: vx_at0 own ic cls names, vx_ot w = true)
    (hU : vx_Zq Bundle.tN "UNASSIGNED_STACK" Bundle.steD A s s.heap) (hN : vx_Zq Bundle.tN "SUPPRESSED_SENTINEL" Bundle.listD A s s.heap) (hS : va_S A s.heap H locs) (hsize : ls.size = c.maxLocals)
    (d0 : decode cc pc = .ok (.new ik, 3)) (d3 : decode cc (pc + 3) = .ok (.dup, 1)) (d4 : decode cc (pc + 4) = .ok (.invokespecial ic, 3)) (d7 : decode cc (pc + 7) = .ok (.athrow, 1))
    (hout : ∀ x ∈ c.exceptionTable.toList, covers x (pc + 7) = false)
    (hRframes : names.length + 3 < R.frames) (hRlocals : (rest.map fun v => v.category).sum + (13 * (names.length + 1) + 42) ≤ R.locals) (hRcells : cells + 1 ≤ R.cells) (hRslots : slots + 6 ≤ R.slots) (hlocks : meth.locks = false)
    (hx : ∀ t : State, s.vm.Alike t.vm → H.size ≤ t.heap.size → (∀ q : Nat, q < H.size → t.heap[q]? = H[q]?) → XC cls s t)
    (hf : ∀ z ∈ locs, free z.base) (hc : cells + 1 ≤ mc) (hs : slots + 6 ≤ ms) :
    W p l e R s m args below meth c H locs cells slots (vx_MQ below Qc XC args s mc ms free) (F0 m pc ls rest) := by
  intro T hT X
  have htr : e.platform.stackTraces = false := (show e.platform.stackTraces = l.stackTraces by rw [X.admits.platform]).trans hl
  have Y := vx_rebase X (R' := { frames := R.frames, locals := R.locals, cells := 1, slots := 6 }) (Nat.le_refl _) (Nat.le_refl _) hRcells hRslots
  obtain ⟨s', hA⟩ : ∃ z, z = (T.setVm s.vm).setFrames (.invoking m args :: below) := ⟨_, rfl⟩
  rw [← hA] at Y
  have hvm : s'.vm = s.vm := by rw [hA]; rfl
  have hhp : s'.heap = H := by rw [hA]; exact hT
  have hW0 : s.WarmedH s'.vm := by rw [hvm]; exact State.WarmedH.refl s
  have hat' : ∀ w ∈ vx_at0 own ic cls names, w.before args s' = true := fun w hw => vx_ot_at hW0 hvm.symm (hgood w (List.mem_cons_of_mem _ (List.mem_cons_of_mem _ hw))) (hat w hw)
  have hk' : (Cond.classLink own ik cls).before args s' = true := vx_ot_at hW0 hvm.symm (hgood _ List.mem_cons_self) hk
  have hini' : (Cond.initialized cls).before args s' = true := vx_ot_at hW0 hvm.symm (hgood _ (List.mem_cons_of_mem _ List.mem_cons_self)) hini
  have hU' : vx_Zq Bundle.tN "UNASSIGNED_STACK" Bundle.steD A s' s'.heap := by rw [hhp]; exact vx_Zq.moved hW0.alike (hU.kept hS.2.1)
  have hN' : vx_Zq Bundle.tN "SUPPRESSED_SENTINEL" Bundle.listD A s' s'.heap := by rw [hhp]; exact vx_Zq.moved hW0.alike (hN.kept hS.2.1)
  have h : ∀ w ∈ Bundle.ownAtoms0 own ic cls names, w.before args s' = true := vx_own hat' (vx_isRefq hU'.1) (vx_isRefq hN'.1) hU'.2.word hN'.2.word
  have hown' : s'.vm.findClass own = some m.cls := by rw [hvm]; exact hown
  have hins : (Cond.instantiable cls 6).before args s' = true := h _ (by simp [Bundle.ownAtoms0])
  obtain ⟨vm₁, cX, kX, hfX, hkX, -, -, X₁, st1⟩ := Y.newCold hexec (own := own) (C := cls) (index := ik) (n := 6) hown' hk' hins hini'
    (g := F0 m pc ls rest) rfl (by rw [hb]; exact d0) (Nat.le_refl _) (Nat.le_refl _)
  generalize hT1 : (T.setVm vm₁).pushCell { cls := cX, slots := kX.instanceTypes.map defaultValue, vm := .none } = T1 at X₁ st1
  have hcat : (Value.ref T.heap.size).category = 1 := rfl
  have hcellA : T1.heap[T.heap.size]? = some (freshCell cX kX) := by rw [← hT1]; exact State.heap_pushCell_size _ _
  have d3' : decode c.code (pc + 3) = .ok (.dup, 1) := by rw [hb]; exact d3
  obtain ⟨U, hsteps, hrun, hend, hW, hsame, ce, hce, hO⟩ := X₁.ctorThrow0 hexec htr (own := own) (cls := cls) (names := names) (ic := ic) hown' hcls hnames h (fun x hx => nomatch hx) hfX hkX hcellA (by rw [hhp, hT]; exact Nat.le_refl _)
    (g := { method := m, pc := pc + 4, locals := ls, stack := .ref T.heap.size :: .ref T.heap.size :: rest, locked := none }) rfl hsize rfl rfl (rest := rest) rfl
    (by rw [hb]; exact d4) (by rw [hb]; exact d7) hout hRframes (by simp only [List.map_cons, List.sum_cons, hcat]; omega) hlocks
  obtain ⟨f1, f2⟩ := vx_frame hsame
  rw [hhp] at f1 f2
  have hWs : s.WarmedH U.vm := State.WarmedH.trans hW0 hW
  have hcl : s.vm.findClass cls = some ce.cls := by
    have h9 := hO.cls
    rw [hvm] at h9
    exact h9
  have hall : s.sameButNew ({ U with vm := s.vm } : State) locs mc ms := by
    subst hA
    obtain ⟨e1, e2⟩ := hsame
    rw [State.setFrames_setFrames] at e1
    have h2 : (T.setVm s.vm).sameButNew ({ U with vm := s.vm } : State) [] (0 + 1) (0 + 6) := ⟨e1, e2⟩
    have h3 := X.same.trans h2
    rw [List.append_nil] at h3
    exact h3.mono hc hs
  refine ⟨U, ?_, .threw T.heap.size, hrun, hend, Or.inr ⟨T.heap.size, rfl, cls, ce, locs, hx U hWs.alike f1 (fun q hq => f2 q hq (fun z hz => nomatch hz)), hce, hO.vm, hcl, hWs, hall, hf⟩⟩
  refine st1 _ ?_
  show Steps p.tables e below (T1.setTop { method := m, pc := pc + 3, locals := ls, stack := .ref T.heap.size :: rest, locked := none }) _
  jvm_step X₁.here [X₁.here.top, hexec, d3', Value.category]
  exact hsteps
/-- 'throw new E("text")': new; dup; ldc; invokespecial; athrow -/
theorem vx_throwS {cc : ByteArray} {pc : Nat} (hexec : p.tables.exec = Jvm.exec) (hb : c.code = cc) (hl : l.stackTraces = false) {own cls text : String} {names : List String} {ik is ic mc ms sa : Nat} {A : Nat → Prop}
    (hown : s.vm.findClass own = some m.cls) (hcls : Bundle.fit cls = true) (hnames : ∀ n ∈ names, Bundle.fit n = true)
    (hk : (Cond.classLink own ik cls).before args s = true) (hini : (Cond.initialized cls).before args s = true) (hstr : vk_R own is text sa s) (hat : ∀ w ∈ vx_atS own ic cls names, w.before args s = true)
    (hgood : ∀ w ∈ Cond.classLink own ik cls :: Cond.initialized cls :: vx_atS own ic cls names, vx_ot w = true)
    (hU : vx_Zq Bundle.tN "UNASSIGNED_STACK" Bundle.steD A s s.heap) (hN : vx_Zq Bundle.tN "SUPPRESSED_SENTINEL" Bundle.listD A s s.heap) (hS : va_S A s.heap H locs) (hsize : ls.size = c.maxLocals)
    (d0 : decode cc pc = .ok (.new ik, 3)) (d3 : decode cc (pc + 3) = .ok (.dup, 1)) (d4 : decode cc (pc + 4) = .ok (.ldc is, 2)) (d6 : decode cc (pc + 6) = .ok (.invokespecial ic, 3)) (d9 : decode cc (pc + 9) = .ok (.athrow, 1))
    (hout : ∀ x ∈ c.exceptionTable.toList, covers x (pc + 9) = false)
    (hRframes : names.length + 3 < R.frames) (hRlocals : (rest.map fun v => v.category).sum + (13 * (names.length + 1) + 43) ≤ R.locals) (hRcells : cells + 1 ≤ R.cells) (hRslots : slots + 6 ≤ R.slots) (hlocks : meth.locks = false)
    (hx : ∀ t : State, s.vm.Alike t.vm → H.size ≤ t.heap.size → (∀ q : Nat, q < H.size → t.heap[q]? = H[q]?) → XC cls s t)
    (hf : ∀ z ∈ locs, free z.base) (hc : cells + 1 ≤ mc) (hs : slots + 6 ≤ ms) :
    W p l e R s m args below meth c H locs cells slots (vx_MQ below Qc XC args s mc ms free) (F0 m pc ls rest) := by
  intro T hT X
  have htr : e.platform.stackTraces = false := (show e.platform.stackTraces = l.stackTraces by rw [X.admits.platform]).trans hl
  have Y := vx_rebase X (R' := { frames := R.frames, locals := R.locals, cells := 1, slots := 6 }) (Nat.le_refl _) (Nat.le_refl _) hRcells hRslots
  obtain ⟨s', hA⟩ : ∃ z, z = (T.setVm s.vm).setFrames (.invoking m args :: below) := ⟨_, rfl⟩
  rw [← hA] at Y
  have hvm : s'.vm = s.vm := by rw [hA]; rfl
  have hhp : s'.heap = H := by rw [hA]; exact hT
  have hW0 : s.WarmedH s'.vm := by rw [hvm]; exact State.WarmedH.refl s
  have hat' : ∀ w ∈ vx_atS own ic cls names, w.before args s' = true := fun w hw => vx_ot_at hW0 hvm.symm (hgood w (List.mem_cons_of_mem _ (List.mem_cons_of_mem _ hw))) (hat w hw)
  have hk' : (Cond.classLink own ik cls).before args s' = true := vx_ot_at hW0 hvm.symm (hgood _ List.mem_cons_self) hk
  have hini' : (Cond.initialized cls).before args s' = true := vx_ot_at hW0 hvm.symm (hgood _ (List.mem_cons_of_mem _ List.mem_cons_self)) hini
  have hU' : vx_Zq Bundle.tN "UNASSIGNED_STACK" Bundle.steD A s' s'.heap := by rw [hhp]; exact vx_Zq.moved hW0.alike (hU.kept hS.2.1)
  have hN' : vx_Zq Bundle.tN "SUPPRESSED_SENTINEL" Bundle.listD A s' s'.heap := by rw [hhp]; exact vx_Zq.moved hW0.alike (hN.kept hS.2.1)
  have h : ∀ w ∈ Bundle.ownAtoms own ic cls names, w.before args s' = true := vx_own hat' (vx_isRefq hU'.1) (vx_isRefq hN'.1) hU'.2.word hN'.2.word
  have hown' : s'.vm.findClass own = some m.cls := by rw [hvm]; exact hown
  have hins : (Cond.instantiable cls 6).before args s' = true := h _ (by simp [Bundle.ownAtoms])
  obtain ⟨vm₁, cX, kX, hfX, hkX, -, -, X₁, st1⟩ := Y.newCold hexec (own := own) (C := cls) (index := ik) (n := 6) hown' hk' hins hini'
    (g := F0 m pc ls rest) rfl (by rw [hb]; exact d0) (Nat.le_refl _) (Nat.le_refl _)
  generalize hT1 : (T.setVm vm₁).pushCell { cls := cX, slots := kX.instanceTypes.map defaultValue, vm := .none } = T1 at X₁ st1
  have hcat : (Value.ref T.heap.size).category = 1 := rfl
  have hcellA : T1.heap[T.heap.size]? = some (freshCell cX kX) := by rw [← hT1]; exact State.heap_pushCell_size _ _
  have d3' : decode c.code (pc + 3) = .ok (.dup, 1) := by rw [hb]; exact d3
  have d4' : decode c.code (pc + 4) = .ok (.ldc is, 2) := by rw [hb]; exact d4
  have hstr' : vk_R own is text sa s' := vk_R.warm hW0 hstr
  obtain ⟨U, hsteps, hrun, hend, hW, hsame, ce, hce, hO⟩ := X₁.ctorThrowS hexec htr (own := own) (cls := cls) (names := names) (ic := ic) hown' hcls hnames h (fun x hx => nomatch hx) hfX hkX hcellA (by rw [hhp, hT]; exact Nat.le_refl _) (msg := .ref sa) rfl
    (g := { method := m, pc := pc + 6, locals := ls, stack := .ref sa :: .ref T.heap.size :: .ref T.heap.size :: rest, locked := none }) rfl hsize rfl rfl (rest := rest) rfl
    (by rw [hb]; exact d6) (by rw [hb]; exact d9) hout hRframes (by simp only [List.map_cons, List.sum_cons, hcat]; omega) hlocks
  obtain ⟨f1, f2⟩ := vx_frame hsame
  rw [hhp] at f1 f2
  have hWs : s.WarmedH U.vm := State.WarmedH.trans hW0 hW
  have hcl : s.vm.findClass cls = some ce.cls := by
    have h9 := hO.cls
    rw [hvm] at h9
    exact h9
  have hall : s.sameButNew ({ U with vm := s.vm } : State) locs mc ms := by
    subst hA
    obtain ⟨e1, e2⟩ := hsame
    rw [State.setFrames_setFrames] at e1
    have h2 : (T.setVm s.vm).sameButNew ({ U with vm := s.vm } : State) [] (0 + 1) (0 + 6) := ⟨e1, e2⟩
    have h3 := X.same.trans h2
    rw [List.append_nil] at h3
    exact h3.mono hc hs
  refine ⟨U, ?_, .threw T.heap.size, hrun, hend, Or.inr ⟨T.heap.size, rfl, cls, ce, locs, hx U hWs.alike f1 (fun q hq => f2 q hq (fun z hz => nomatch hz)), hce, hO.vm, hcl, hWs, hall, hf⟩⟩
  refine st1 _ ?_
  show Steps p.tables e below (T1.setTop { method := m, pc := pc + 3, locals := ls, stack := .ref T.heap.size :: rest, locked := none }) _
  jvm_step X₁.here [X₁.here.top, hexec, d3', Value.category]
  exact X₁.ldcString hexec (own := own) (text := text) (index := is) (a := sa) hown' hstr'.1 hstr'.2
    (g := { method := m, pc := pc + 4, locals := ls, stack := .ref T.heap.size :: .ref T.heap.size :: rest, locked := none }) rfl d4' _ hsteps
/-- 'throw new E("text")', the text by a wide index -/
theorem vx_throwSW {cc : ByteArray} {pc : Nat} (hexec : p.tables.exec = Jvm.exec) (hb : c.code = cc) (hl : l.stackTraces = false) {own cls text : String} {names : List String} {ik is ic mc ms sa : Nat} {A : Nat → Prop}
    (hown : s.vm.findClass own = some m.cls) (hcls : Bundle.fit cls = true) (hnames : ∀ n ∈ names, Bundle.fit n = true)
    (hk : (Cond.classLink own ik cls).before args s = true) (hini : (Cond.initialized cls).before args s = true) (hstr : vk_R own is text sa s) (hat : ∀ w ∈ vx_atS own ic cls names, w.before args s = true)
    (hgood : ∀ w ∈ Cond.classLink own ik cls :: Cond.initialized cls :: vx_atS own ic cls names, vx_ot w = true)
    (hU : vx_Zq Bundle.tN "UNASSIGNED_STACK" Bundle.steD A s s.heap) (hN : vx_Zq Bundle.tN "SUPPRESSED_SENTINEL" Bundle.listD A s s.heap) (hS : va_S A s.heap H locs) (hsize : ls.size = c.maxLocals)
    (d0 : decode cc pc = .ok (.new ik, 3)) (d3 : decode cc (pc + 3) = .ok (.dup, 1)) (d4 : decode cc (pc + 4) = .ok (.ldc_w is, 3)) (d7 : decode cc (pc + 7) = .ok (.invokespecial ic, 3)) (d10 : decode cc (pc + 10) = .ok (.athrow, 1))
    (hout : ∀ x ∈ c.exceptionTable.toList, covers x (pc + 10) = false)
    (hRframes : names.length + 3 < R.frames) (hRlocals : (rest.map fun v => v.category).sum + (13 * (names.length + 1) + 43) ≤ R.locals) (hRcells : cells + 1 ≤ R.cells) (hRslots : slots + 6 ≤ R.slots) (hlocks : meth.locks = false)
    (hx : ∀ t : State, s.vm.Alike t.vm → H.size ≤ t.heap.size → (∀ q : Nat, q < H.size → t.heap[q]? = H[q]?) → XC cls s t)
    (hf : ∀ z ∈ locs, free z.base) (hc : cells + 1 ≤ mc) (hs : slots + 6 ≤ ms) :
    W p l e R s m args below meth c H locs cells slots (vx_MQ below Qc XC args s mc ms free) (F0 m pc ls rest) := by
  intro T hT X
  have htr : e.platform.stackTraces = false := (show e.platform.stackTraces = l.stackTraces by rw [X.admits.platform]).trans hl
  have Y := vx_rebase X (R' := { frames := R.frames, locals := R.locals, cells := 1, slots := 6 }) (Nat.le_refl _) (Nat.le_refl _) hRcells hRslots
  obtain ⟨s', hA⟩ : ∃ z, z = (T.setVm s.vm).setFrames (.invoking m args :: below) := ⟨_, rfl⟩
  rw [← hA] at Y
  have hvm : s'.vm = s.vm := by rw [hA]; rfl
  have hhp : s'.heap = H := by rw [hA]; exact hT
  have hW0 : s.WarmedH s'.vm := by rw [hvm]; exact State.WarmedH.refl s
  have hat' : ∀ w ∈ vx_atS own ic cls names, w.before args s' = true := fun w hw => vx_ot_at hW0 hvm.symm (hgood w (List.mem_cons_of_mem _ (List.mem_cons_of_mem _ hw))) (hat w hw)
  have hk' : (Cond.classLink own ik cls).before args s' = true := vx_ot_at hW0 hvm.symm (hgood _ List.mem_cons_self) hk
  have hini' : (Cond.initialized cls).before args s' = true := vx_ot_at hW0 hvm.symm (hgood _ (List.mem_cons_of_mem _ List.mem_cons_self)) hini
  have hU' : vx_Zq Bundle.tN "UNASSIGNED_STACK" Bundle.steD A s' s'.heap := by rw [hhp]; exact vx_Zq.moved hW0.alike (hU.kept hS.2.1)
  have hN' : vx_Zq Bundle.tN "SUPPRESSED_SENTINEL" Bundle.listD A s' s'.heap := by rw [hhp]; exact vx_Zq.moved hW0.alike (hN.kept hS.2.1)
  have h : ∀ w ∈ Bundle.ownAtoms own ic cls names, w.before args s' = true := vx_own hat' (vx_isRefq hU'.1) (vx_isRefq hN'.1) hU'.2.word hN'.2.word
  have hown' : s'.vm.findClass own = some m.cls := by rw [hvm]; exact hown
  have hins : (Cond.instantiable cls 6).before args s' = true := h _ (by simp [Bundle.ownAtoms])
  obtain ⟨vm₁, cX, kX, hfX, hkX, -, -, X₁, st1⟩ := Y.newCold hexec (own := own) (C := cls) (index := ik) (n := 6) hown' hk' hins hini'
    (g := F0 m pc ls rest) rfl (by rw [hb]; exact d0) (Nat.le_refl _) (Nat.le_refl _)
  generalize hT1 : (T.setVm vm₁).pushCell { cls := cX, slots := kX.instanceTypes.map defaultValue, vm := .none } = T1 at X₁ st1
  have hcat : (Value.ref T.heap.size).category = 1 := rfl
  have hcellA : T1.heap[T.heap.size]? = some (freshCell cX kX) := by rw [← hT1]; exact State.heap_pushCell_size _ _
  have d3' : decode c.code (pc + 3) = .ok (.dup, 1) := by rw [hb]; exact d3
  have d4' : decode c.code (pc + 4) = .ok (.ldc_w is, 3) := by rw [hb]; exact d4
  have hstr' : vk_R own is text sa s' := vk_R.warm hW0 hstr
  obtain ⟨U, hsteps, hrun, hend, hW, hsame, ce, hce, hO⟩ := X₁.ctorThrowS hexec htr (own := own) (cls := cls) (names := names) (ic := ic) hown' hcls hnames h (fun x hx => nomatch hx) hfX hkX hcellA (by rw [hhp, hT]; exact Nat.le_refl _) (msg := .ref sa) rfl
    (g := { method := m, pc := pc + 7, locals := ls, stack := .ref sa :: .ref T.heap.size :: .ref T.heap.size :: rest, locked := none }) rfl hsize rfl rfl (rest := rest) rfl
    (by rw [hb]; exact d7) (by rw [hb]; exact d10) hout hRframes (by simp only [List.map_cons, List.sum_cons, hcat]; omega) hlocks
  obtain ⟨f1, f2⟩ := vx_frame hsame
  rw [hhp] at f1 f2
  have hWs : s.WarmedH U.vm := State.WarmedH.trans hW0 hW
  have hcl : s.vm.findClass cls = some ce.cls := by
    have h9 := hO.cls
    rw [hvm] at h9
    exact h9
  have hall : s.sameButNew ({ U with vm := s.vm } : State) locs mc ms := by
    subst hA
    obtain ⟨e1, e2⟩ := hsame
    rw [State.setFrames_setFrames] at e1
    have h2 : (T.setVm s.vm).sameButNew ({ U with vm := s.vm } : State) [] (0 + 1) (0 + 6) := ⟨e1, e2⟩
    have h3 := X.same.trans h2
    rw [List.append_nil] at h3
    exact h3.mono hc hs
  refine ⟨U, ?_, .threw T.heap.size, hrun, hend, Or.inr ⟨T.heap.size, rfl, cls, ce, locs, hx U hWs.alike f1 (fun q hq => f2 q hq (fun z hz => nomatch hz)), hce, hO.vm, hcl, hWs, hall, hf⟩⟩
  refine st1 _ ?_
  show Steps p.tables e below (T1.setTop { method := m, pc := pc + 3, locals := ls, stack := .ref T.heap.size :: rest, locked := none }) _
  jvm_step X₁.here [X₁.here.top, hexec, d3', Value.category]
  exact X₁.ldcStringW hexec (own := own) (text := text) (index := is) (a := sa) hown' hstr'.1 hstr'.2
    (g := { method := m, pc := pc + 4, locals := ls, stack := .ref T.heap.size :: .ref T.heap.size :: rest, locked := none }) rfl d4' _ hsteps
end Ends
section Bodies
variable {l : Launch}
theorem vx_ofW {y : MethodName} {ws ws' : List Cond} {rm : Room} {Pc : Array Value → State → Prop} {Qc : Array Value → State → Outcome → State → Prop} {XC : String → State → State → Prop} {mc ms : Nat} {free : Addr → Prop} {cc : ByteArray} {maxL : Nat} {ret : Option FieldType}
    (hy : plainName y.cls = true) (hw : ws = Cond.code y cc maxL ret :: ws')
    (body : ∀ p e s m args below meth c s₁, BodyLoose p l y (headSpec ws rm) cc maxL ret e s m args below meth c s₁ → c.maxLocals = maxL → (∀ x ∈ c.exceptionTable.toList, False) → Pc args s →
      W p l e (headSpec ws rm).room s m args below meth c s.heap [] 0 0 (vx_MQ below Qc XC args s mc ms free) (entryFrame m args maxL)) : vx_Met l y ws rm Pc Qc XC mc ms free := by
  refine MetFree.of_bodyS (code := cc) (maxLocals := maxL) (ret := ret) hy ?_ ?_
  · intro args s m h hn
    obtain ⟨meth, c, h1, h2, h3, h4, h5, h6, -, -⟩ := Cond.code_spec hn (atoms_spec (ws := ws) h _ (by rw [hw]; exact List.mem_cons_self))
    exact ⟨meth, c, h1, h2, h3, h4, h5, h6⟩
  · intro p e s m args below meth c s₁ B hml hP _
    have hh0 : s₁.heap = s.heap := by rw [B.state]; rfl
    have ht : ∀ x ∈ c.exceptionTable.toList, False := by
      obtain ⟨meth9, c9, h1, h2, -, -, -, -, h7, -⟩ := Cond.code_spec B.named (atoms_spec (ws := ws) B.pre _ (by rw [hw]; exact List.mem_cons_self))
      cases Option.some.inj (h1.symm.trans B.method)
      cases Option.some.inj (h2.symm.trans (Stand.of_body B).code)
      intro x hx
      rw [Array.isEmpty_iff.mp h7] at hx
      cases hx
    obtain ⟨t, a1, o, b1, b2, b3⟩ := body p e s m args below meth c s₁ B hml ht hP s₁ hh0 (Stand.of_body B)
    exact ⟨t, o, a1, b1, b2, b3⟩
/-- the table of a body with handlers -/
theorem vx_table {p : Program} {x y : MethodName} {S : Spec} {cc bytes : ByteArray} {maxL maxL' : Nat} {ret ret' : Option FieldType} {e : Env} {s s₁ : State} {m : MethodId} {args : Array Value} {below : List Frame} {meth : Method} {c : Code} {hh : List (Nat × Nat × Nat × Nat)}
    (B : BodyLoose p l y S cc maxL ret e s m args below meth c s₁) (h : (Cond.codeWith y bytes maxL' ret' hh).before args s = true) : c.exceptionTable.toList = tableOf hh := by
  obtain ⟨m9, meth9, c9, hn9, h1, h2, -, -, h6, -⟩ := Cond.codeWith_spec h
  cases Option.some.inj (hn9.symm.trans B.named)
  cases Option.some.inj (h1.symm.trans B.method)
  cases Option.some.inj (h2.symm.trans (Stand.of_body B).code)
  rw [← h6, table_eq]
end Bodies
end VXA
/-! ===== END ===== -/
/-! ===== BEGIN a static call of a method with an exception table ===== -/
section VXS
variable {p : Program} {l : Launch} {e : Env} {R : Room} {s : State} {m : MethodId} {args : Array Value} {below : List Frame} {meth : Method} {c : Code} {T : State} {H : Heap} {locs : List Loc} {cells slots : Nat}
abbrev vx_CSW (R : Room) (s : State) (args : Array Value) (own : String) (index : Nat) (y : MethodName) (bytes : ByteArray) (maxL : Nat) (ret : Option FieldType) (hh : List (Nat × Nat × Nat × Nat)) (ws : List Cond) (rm : Room) (mc ms n : Nat) : Prop :=
  (rm.cells = mc ∧ rm.slots = ms ∧ rm.frames + 1 ≤ R.frames ∧ 8 + (maxL + 11) + rm.locals ≤ R.locals ∧ (∀ w ∈ ws, ∀ (a' : Array Value) (U : State), s.WarmedH U.vm → w.before a' U = true) ∧ Cond.codeWith y bytes maxL ret hh ∈ ws) ∧
  (Cond.codeWith y bytes maxL ret hh).before args s = true ∧ (Cond.initialized y.cls).before args s = true ∧ (y.cls ≠ "java/lang/invoke/MethodHandle" ∧ y.cls ≠ "java/lang/invoke/VarHandle") ∧
  (∀ sig, parseMethodDescriptor y.desc = some sig → n = sig.parameters.length) ∧ (Cond.methodLink own index y).before args s = true ∧ (Cond.static y).before args s = true
theorem vx_cwSW {own : String} {index maxL mc ms : Nat} {y : MethodName} {bytes : ByteArray} {ret : Option FieldType} {hh : List (Nat × Nat × Nat × Nat)} {Ts ws ws' : List Cond} {rm : Room} (n : Nat) (ht : ∀ w ∈ Ts, w.before args s = true) (hT : GoodIn Ts (va_wsS own index y ws)) (hw : ws = Cond.codeWith y bytes maxL ret hh :: ws') (hrc : rm.cells = mc) (hrs : rm.slots = ms)
    (hd : y.cls ≠ "java/lang/invoke/MethodHandle" ∧ y.cls ≠ "java/lang/invoke/VarHandle" ∧ (parseMethodDescriptor y.desc).map (fun d => d.parameters.length) = some n) (hR : rm.frames + 1 ≤ R.frames ∧ 8 + (maxL + 11) + rm.locals ≤ R.locals) :
    vx_CSW R s args own index y bytes maxL ret hh ws rm mc ms n := by
  have ok : ∀ w ∈ va_wsS own index y ws, w.before args s = true := fun w h => ht w (hT w h).1
  have hG : GoodIn Ts ws := fun w h => hT w (by unfold va_wsS; exact List.mem_append_right _ h)
  have hc : Cond.codeWith y bytes maxL ret hh ∈ ws := by rw [hw]; exact List.mem_cons_self
  refine ⟨⟨hrc, hrs, hR.1, hR.2, pay_in ht hG, hc⟩, ht _ (hG _ hc).1, ok _ (by simp [va_wsS]), ⟨hd.1, hd.2.1⟩, fun sig h => ?_, ok _ (by simp [va_wsS]), ok _ (by simp [va_wsS])⟩
  have h2 := hd.2.2
  rw [h] at h2
  exact (Option.some.inj h2).symm
theorem vx_callSW (X : Stand p l e R s m args below meth c T locs cells slots) (hexec : p.tables.exec = Jvm.exec) {own : String} {index : Nat} {y : MethodName} {bytes : ByteArray} {maxL : Nat} {ret : Option FieldType} {hh : List (Nat × Nat × Nat × Nat)}
    (hown : s.vm.findClass own = some m.cls) (hlink : (Cond.methodLink own index y).before args s = true) (hstat : (Cond.static y).before args s = true) (hinit : (Cond.initialized y.cls).before args s = true)
    (hcode : (Cond.codeWith y bytes maxL ret hh).before args s = true) (hy : y.cls ≠ "java/lang/invoke/MethodHandle" ∧ y.cls ≠ "java/lang/invoke/VarHandle")
    {W9 : Nat} {Pre : Pt → Array Value → Prop} {Post : Pt → Array Value → Option Value → Pt → Prop} (hK : Back l R p e below s args y 3 W9 Pre Post)
    {g : JFrame} (hg : g.method = m) (hsize : g.locals.size = c.maxLocals) {argsL rest : List Value} (hlen : ∀ sig, parseMethodDescriptor y.desc = some sig → argsL.length = sig.parameters.length)
    (hstack : g.stack = argsL.reverse ++ rest) (hW : 2 * g.monitorRoom + (rest.map fun v => v.category).sum ≤ W9) (hdg : decode c.code g.pc = .ok (.invokestatic index, 3))
    (hpre : ∀ vm₁, s.WarmedH vm₁ → Pre ⟨T.setVm vm₁, locs, cells, slots⟩ argsL.toArray) :
    ∃ (v : Option Value) (vm₁ : Vm) (B : Pt), s.WarmedH vm₁ ∧ Stand p l e R s m args below meth c B.U B.locs B.cells B.slots ∧ Post ⟨T.setVm vm₁, locs, cells, slots⟩ argsL.toArray v B ∧
      ∀ target, Steps p.tables e below (B.U.setTop { g with pc := g.pc + 3, stack := v.toList ++ rest }) target → Steps p.tables e below (T.setTop g) target := by
  obtain ⟨mk, methM, cM, hnamed, hmethM, -, -, -, -, -, -, hsigM⟩ := Cond.codeWith_spec hcode
  have hstatic : methM.isStatic = true := Cond.static_spec hnamed hmethM hstat
  obtain ⟨kP, hkP, -⟩ := className_of_methodNamed hnamed
  have hinitP : kP.init = .initialized := Cond.initialized_spec (findClass_of_methodNamed hnamed) hkP hinit
  obtain ⟨vm₁, X₁, hstep₁⟩ := X.invokestatic hexec hown hlink hnamed hmethM hstatic hkP hinitP hy (g := g) hg (argsL := argsL) (rest := rest) (hlen _ hsigM) hstack hdg
  obtain ⟨v, B, X', hpost, hsteps⟩ := hK m meth c ⟨T.setVm vm₁, locs, cells, slots⟩ { g with stack := rest } (.invokestatic index) mk argsL.toArray X₁ hg hsize hdg hW (X₁.named hnamed) (hpre vm₁ X₁.warmed)
  exact ⟨v, vm₁, B, X₁.warmed, X', hpost, fun target h => hstep₁ _ fun acts => by rw [doInvoke_state]; exact hsteps.trans h⟩
theorem vx_runSW {y : MethodName} {bytes cc : ByteArray} {maxL nL mc ms n index : Nat} {ret : Option FieldType} {hh : List (Nat × Nat × Nat × Nat)} {ws : List Cond} {rm : Room} {Pc : Array Value → State → Prop} {Qc : Array Value → State → Outcome → State → Prop} {free : Addr → Prop} {Ts : List Cond} {own : String} {As rest : List Value} {g : JFrame}
    (S : CallFix p m c cc nL s args Ts own) (hM : Met l y ws rm Pc Qc mc ms free) (cw : vx_CSW R s args own index y bytes maxL ret hh ws rm mc ms n) (hp : PreS s H Pc As)
    (hg : g.method = m) (hn : As.length = n) (hsize : g.locals.size = nL) (hstack : g.stack = As.reverse ++ rest) (hW : 2 * g.monitorRoom + (rest.map fun v => v.category).sum ≤ 8) (hdg : decode cc g.pc = .ok (.invokestatic index, 3)) (hf : cells + mc ≤ R.cells ∧ slots + ms ≤ R.slots) :
    va_Run p l e R s m args below meth c H locs cells slots mc ms g rest (Qc As.toArray) (free) := by
  obtain ⟨⟨hrc, hrs, hfr, hlo, hws, hcw⟩, hcode, hini, hy, hlen, hl, hstt⟩ := cw
  have hK : Back l R p e below s args y 3 8 (PreOf R mc ms Pc) (PostOf Qc mc ms free) := va_backW (hh := hh) (bytes := bytes) (maxL := maxL) (ret := ret) hM hp.1 hrc hrs hfr hlo hws hcw (fun a' U hW => word_at hW (Or.inl (by first | rfl | simp [Cond.onTables, Cond.keeps, Cond.steady])) hini)
  obtain ⟨hx, hb, hml, ho, -⟩ := S
  intro T hT X
  obtain ⟨v, vm₁, ⟨U', l2, c2, s2⟩, hW₁, X', ⟨g', mk, t, L, e1, e2, hq, h1, hL, h2, h3⟩, st⟩ := vx_callSW X hx (hh := hh) (bytes := bytes) (maxL := maxL) (ret := ret) ho hl hstt hini hcode hy hK hg (hsize.trans hml.symm) (argsL := As) (rest := rest) (fun sig h => hn.trans (hlen sig h)) hstack hW (by rw [hb]; exact hdg)
    (fun vm₁ hW₁ => ⟨hf.1, hf.2, hp.2 (T.setVm vm₁) hT hW₁⟩)
  dsimp only [Pt.U, Pt.locs, Pt.cells, Pt.slots] at X' e1 e2 h1 h2 h3 st
  subst h1; subst h2; subst h3
  exact ⟨v, (T.setVm vm₁).calling g' mk As.toArray, t, U', L, hT, X', hL, e1, e2, hq, st⟩
/-- not caught here, past rows that name other classes: it goes on to the caller -/
theorem vx_outP {p : Program} {l : Launch} {e : Env} {R : Room} {s : State} {m : MethodId} {args : Array Value} {below : List Frame} {meth : Method} {c : Code} {H : Heap} {locs : List Loc} {cells slots : Nat} {free : Addr → Prop} {ls : Array Slot} {rest : List Value} {Qc : Array Value → State → Outcome → State → Prop} {XC : String → State → State → Prop}
    {pc : Nat} {own E : String} {ce : Cell} {q : Addr} {mc ms : Nat} (hown : s.vm.findClass own = some m.cls) (hlocks : meth.locks = false)
    (hpass : ∀ z ∈ c.exceptionTable.toList, covers z pc = false ∨ (z.catchType ≠ 0 ∧ ∃ nm : String, (Cond.classLink own z.catchType nm).before args s = true ∧ va_Nc E nm s)) (hcell : H[q]? = some ce) (hv : ce.vm = .none) (hcl : s.vm.findClass E = some ce.cls)
    (hx : ∀ t : State, t.heap = H → s.vm.Alike t.vm → XC E s t) (hf : ∀ z ∈ locs, free z.base) (hc : cells ≤ mc) (hs : slots ≤ ms) :
    vx_W p l e R s m args below meth c H locs cells slots (vx_MQ below Qc XC args s mc ms free) (F0 m pc ls rest) q := by
  intro T hT X
  have hpl : e.platform.magicAccessors = ({} : Platform).magicAccessors := by rw [X.admits.platform]
  obtain ⟨vm', hW', X', st⟩ := X.outThrough hlocks q (g := F0 m pc ls rest) rfl rfl rfl (cell := ce) (by rw [hT]; exact hcell) (by rw [hv]; rfl)
    (by obtain ⟨k9, h9, -⟩ := Vm.findClass_spec hcl; exact ⟨k9, h9⟩) (fun z hz => by
      rcases hpass z hz with h | ⟨hz0, nm, hl1, hn1⟩
      · exact Or.inl h
      · obtain ⟨c6, hc6, hcl6⟩ := Cond.classLink_spec hown hl1 e.platform hpl
        obtain ⟨a8, b8, h1, h2, h3⟩ := hn1
        cases Option.some.inj (h1.symm.trans hcl)
        cases Option.some.inj (h2.symm.trans hc6)
        exact Or.inr ⟨hz0, _, hcl6, h3⟩)
  obtain ⟨g₀, hfr⟩ := X'.frames_eq
  have hcell9 : ((T.setVm vm').setFrames (.throwing q :: below)).heap[q]? = some ce := by
    show T.heap[q]? = some ce
    rw [hT]; exact hcell
  have hend : Ended ((T.setVm vm').setFrames (.throwing q :: below)) below (.threw q) := State.frames_setFrames _ (State.cur_lt_of_frames hfr)
  refine ⟨(T.setVm vm').setFrames (.throwing q :: below), ?_, .threw q, X'.here.running, hend, Or.inr ⟨q, rfl, E, ce, locs, hx _ hT (X'.ends _).1.alike, hcell9, hv, hcl, (X'.ends _).1, (X'.ends _).2.mono hc hs, hf⟩⟩
  rw [X.pushThrowing_eq]
  exact st
/-- a thing of a world lies in the heap -/
theorem vx_lt {D : va_G} {cl : List vw_C} {ws : va_W} {H1 : Heap} (h : va_P D cl ws H1) {k : Nat} {q : Nat × va_E} (hk : ws[k]? = some q) : q.1 < H1.size := (h k q hk).lt
end VXS
/-! ===== END ===== -/
/-! ===== BEGIN methods with a table of their own: called by a name, returning or throwing ===== -/
section VXH
/-! vx_backW, vx_callVX, vx_callSX, vx_callVW, vx_runVW, vx_runVX, vx_runSX, vx_ofWH follow the same proofs as their sisters above (Free/Laws.lean, Shelf42/LK1.lean); vx_outP calls Shelf42/NT130.lean (outThrough). -/
section
variable {l : Launch} {R : Room} {p : Program} {e : Env} {below : List Frame} {s : State} {sargs : Array Value} {y : MethodName} {len W9 : Nat}
theorem vx_backW {ws : List Cond} {rm : Room} {Pc : Array Value → State → Prop} {Qc : Array Value → State → Outcome → State → Prop} {XC : String → State → State → Prop} {mc ms : Nat} {free : Addr → Prop} {bytes : ByteArray} {maxL : Nat} {ret : Option FieldType} {hh : List (Nat × Nat × Nat × Nat)}
    (hM : vx_Met l y ws rm Pc Qc XC mc ms free) (hblind : FrameBlind Pc) (hrc : rm.cells = mc) (hrs : rm.slots = ms)
    (hframes : rm.frames + 1 ≤ R.frames) (hlocals : W9 + (maxL + 11) + rm.locals ≤ R.locals)
    (hws : ∀ w ∈ ws, ∀ a' U, s.WarmedH U.vm → w.before a' U = true) (hcode : Cond.codeWith y bytes maxL ret hh ∈ ws) (hinit : ∀ a' U, s.WarmedH U.vm → (Cond.initialized y.cls).before a' U = true) :
    vx_Back l R p e below s sargs y len W9 (PreOf R mc ms Pc) (PostOf Qc mc ms free) (vx_Post XC mc ms free) := by
  intro m meth c A g ig mk a X hg hsize hdg hW hn hp
  have h1 : (headSpec ws rm).pre.before a A.U = true := atoms_intro fun w hw => hws w hw _ _ X.warmed
  have h2 : (Cond.codeWith y bytes maxL ret hh).before a A.U = true := hws _ hcode _ _ X.warmed
  have h3 : (Cond.initialized y.cls).before a A.U = true := hinit _ _ X.warmed
  have h4 : A.cells + (headSpec ws rm).room.cells ≤ R.cells := by rw [show (headSpec ws rm).room.cells = mc from hrc]; exact hp.1
  have h5 : A.slots + (headSpec ws rm).room.slots ≤ R.slots := by rw [show (headSpec ws rm).room.slots = ms from hrs]; exact hp.2.1
  have hPc : Pc a (A.U.calling g mk a) := hblind _ _ _ _ hp.2.2
  obtain ⟨U, Ls, c0, s0⟩ := A
  dsimp only [Pt.U, Pt.locs, Pt.cells, Pt.slots] at h1 h2 h3 h4 h5 X hn hPc ⊢
  obtain ⟨m9, methY, cY, hn9, hmY, hcY, -, hlY, -⟩ := Cond.codeWith_spec h2
  cases Option.some.inj (hn9.symm.trans hn)
  obtain ⟨kY, hkY, -⟩ := className_of_methodNamed hn
  have hinitY : kY.init = .initialized := Cond.initialized_spec (findClass_of_methodNamed hn) hkY h3
  have h : At U g.method c below := by rw [hg]; exact X.here
  have hlocals9 : W9 + (maxL + 11) + (headSpec ws rm).room.locals ≤ R.locals := hlocals
  have happ : (headSpec ws rm).appliesLoose y e.platform (U.calling g mk a) = true :=
    Spec.appliesLoose_calling (g := g) h hdg hn hkY hinitY
      (X.room_calling (g := g) (R' := (headSpec ws rm).room) hsize hmY hcY hframes (by rw [hlY]; omega) h4 h5) h1
  obtain ⟨mid, hmid⟩ := h.above
  have hfr : (U.setTop g).frames = (.java g :: mid) ++ below := by rw [State.frames_setTop' g h.top, hmid]; rfl
  obtain ⟨o, s₂, hsteps, -, hend, hq⟩ := Steps.callFree hM p X.admits X.cas X.clock (acts := []) hfr happ hPc trivial
  have hq' : vx_Q Qc XC mc ms free a (U.calling g mk a) o s₂ := hq
  rw [State.frames_setTop' g h.top] at hend
  obtain ⟨g₀, hg0⟩ := Option.isSome_iff_exists.mp h.top
  obtain ⟨r, hr⟩ := State.topJava?_eq_some.mp hg0
  have hr' : (({ U with heap := s₂.heap, slotsUsed := s₂.slotsUsed } : State).setVm s₂.vm).frames = .java g₀ :: r := hr
  rcases hq' with ⟨hqc, L, hfe, hL⟩ | ⟨q, rfl, E, ce, L, hx, hce, hcv, hcl, hW₂, hsm, hL⟩
  · obtain ⟨⟨v, rfl⟩, hW₂, e2, q2, q3, q4, q5, q6⟩ := id hfe
    have e3 : s₂ = ({ (U.calling g mk a).setFrames s₂.frames with heap := s₂.heap, slotsUsed := s₂.slotsUsed } : State).setVm s₂.vm := by
      have : s₂ = ({ s₂ with vm := (U.calling g mk a).vm } : State).setVm s₂.vm := rfl
      rw [e2] at this
      exact this
    obtain ⟨c₂, i₂, len₂, hc₂, hd₂, hf₂⟩ := hend
    have hW' : U.WarmedH s₂.vm := hW₂
    have hcc : c₂ = c := by
      have h1 : s₂.code? g.method = U.code? g.method := by
        rw [State.code?_eq, State.code?_eq, hW'.alike.method?]
      exact Option.some.inj (hc₂.symm.trans (h1.trans h.code))
    subst hcc
    have hlen : len₂ = len := by rw [hdg] at hd₂; cases hd₂; rfl
    subst hlen
    have hs₂ : s₂ = (({ U with heap := s₂.heap, slotsUsed := s₂.slotsUsed } : State).setVm s₂.vm).setTop { g with pc := g.pc + len₂, stack := v.toList ++ g.stack } := by
      refine e3.trans ?_
      rw [hf₂, State.calling_eq h.top, State.setFrames_setFrames, State.setTop_of_frames _ hr', hr]
      rfl
    have hsame : U.sameButNew ({ U with heap := s₂.heap, slotsUsed := s₂.slotsUsed } : State) L mc ms := by
      refine ⟨?_, q2, q3, q4, q5, q6⟩
      obtain ⟨t, ht, -⟩ := State.frames_cons hr
      show ({ U with heap := s₂.heap, slotsUsed := s₂.slotsUsed } : State) = { U.setFrames U.frames with heap := s₂.heap, slotsUsed := s₂.slotsUsed }
      rw [State.setFrames_self ht]
    subst hg
    refine Or.inl ⟨v, ⟨(({ U with heap := s₂.heap, slotsUsed := s₂.slotsUsed } : State).setVm s₂.vm), Ls ++ L, c0 + mc, s0 + ms⟩,
      ⟨X.admits, X.cas, X.clock, X.frames, X.room, X.hears, X.method, X.code, (X.here.setHeapUsed s₂.heap s₂.slotsUsed).setVm hW'.alike, X.tail, State.WarmedH.trans X.warmed hW', X.limits, X.bytes, X.same.trans (hsame.setVm s.vm)⟩,
      ⟨g, mk, s₂, L, rfl, rfl, hqc, rfl, hL, rfl, rfl⟩, ?_⟩
    show Steps p.tables e below _ ((({ U with heap := s₂.heap, slotsUsed := s₂.slotsUsed } : State).setVm s₂.vm).setTop { g with pc := g.pc + len₂, stack := v.toList ++ g.stack })
    rw [← hs₂]
    exact hsteps
  · obtain ⟨e2, q2, q3, q4, q5, q6⟩ := id hsm
    have e3 : s₂ = ({ (U.calling g mk a).setFrames s₂.frames with heap := s₂.heap, slotsUsed := s₂.slotsUsed } : State).setVm s₂.vm := by
      have : s₂ = ({ s₂ with vm := (U.calling g mk a).vm } : State).setVm s₂.vm := rfl
      rw [e2] at this
      exact this
    have hf₂ : s₂.frames = .throwing q :: .java g :: U.frames.tail := hend
    have hW' : U.WarmedH s₂.vm := hW₂
    have hs₂ : s₂ = ((({ U with heap := s₂.heap, slotsUsed := s₂.slotsUsed } : State).setVm s₂.vm).setTop g).pushFrame (.throwing q) := by
      refine e3.trans ?_
      rw [hf₂, State.calling_eq h.top, State.setFrames_setFrames, State.pushFrame, State.frames_setTop _ hr', State.setTop_of_frames _ hr', State.setFrames_setFrames, hr]
      rfl
    have hsame : U.sameButNew ({ U with heap := s₂.heap, slotsUsed := s₂.slotsUsed } : State) L mc ms := by
      refine ⟨?_, q2, q3, q4, q5, q6⟩
      obtain ⟨t, ht, -⟩ := State.frames_cons hr
      show ({ U with heap := s₂.heap, slotsUsed := s₂.slotsUsed } : State) = { U.setFrames U.frames with heap := s₂.heap, slotsUsed := s₂.slotsUsed }
      rw [State.setFrames_self ht]
    subst hg
    refine Or.inr ⟨q, ⟨(({ U with heap := s₂.heap, slotsUsed := s₂.slotsUsed } : State).setVm s₂.vm), Ls ++ L, c0 + mc, s0 + ms⟩,
      ⟨X.admits, X.cas, X.clock, X.frames, X.room, X.hears, X.method, X.code, (X.here.setHeapUsed s₂.heap s₂.slotsUsed).setVm hW'.alike, X.tail, State.WarmedH.trans X.warmed hW', X.limits, X.bytes, X.same.trans (hsame.setVm s.vm)⟩,
      ⟨g, mk, s₂, L, E, ce, rfl, rfl, hx, hce, hcv, hcl, rfl, hL, rfl, rfl⟩, ?_⟩
    show Steps p.tables e below _ (((({ U with heap := s₂.heap, slotsUsed := s₂.slotsUsed } : State).setVm s₂.vm).setTop g).pushFrame (.throwing q))
    rw [← hs₂]
    exact hsteps
end
variable {p : Program} {l : Launch} {e : Env} {R : Room} {s : State} {m : MethodId} {args : Array Value} {below : List Frame} {meth : Method} {c : Code} {T : State} {H : Heap} {locs : List Loc} {cells slots : Nat}
theorem vx_callVX (X : Stand p l e R s m args below meth c T locs cells slots) (hexec : p.tables.exec = Jvm.exec) {own C : String} {index : Nat} {y : MethodName} {bytes : ByteArray} {maxL : Nat} {ret : Option FieldType} {hh : List (Nat × Nat × Nat × Nat)}
    (hown : s.vm.findClass own = some m.cls) (hlink : (Cond.methodLink own index y).before args s = true) (hinst : (Cond.instanceMethod y).before args s = true) (hsel : (Cond.selects C y y).before args s = true)
    (hcode : (Cond.codeWith y bytes maxL ret hh).before args s = true) (hy : y.cls ≠ "java/lang/invoke/MethodHandle" ∧ y.cls ≠ "java/lang/invoke/VarHandle")
    {W9 : Nat} {Pre : Pt → Array Value → Prop} {Post : Pt → Array Value → Option Value → Pt → Prop} {PostX : Pt → Array Value → Addr → Pt → Prop} (hK : vx_Back l R p e below s args y 3 W9 Pre Post PostX)
    {b : Addr} {cellB : Cell} (hcell : T.heap[b]? = some cellB) (hobj : cellB.vm.isStatics = false) (hcls : s.vm.findClass C = some cellB.cls)
    {g : JFrame} (hg : g.method = m) (hsize : g.locals.size = c.maxLocals) {argsL rest : List Value} (hlen : ∀ sig, parseMethodDescriptor y.desc = some sig → argsL.length = sig.parameters.length)
    (hstack : g.stack = argsL.reverse ++ .ref b :: rest) (hW : 2 * g.monitorRoom + (rest.map fun v => v.category).sum ≤ W9) (hdg : decode c.code g.pc = .ok (.invokevirtual index, 3))
    (hpre : ∀ vm₁, s.WarmedH vm₁ → Pre ⟨T.setVm vm₁, locs, cells, slots⟩ (Value.ref b :: argsL).toArray) :
    (∃ (v : Option Value) (vm₁ : Vm) (B : Pt), s.WarmedH vm₁ ∧ Stand p l e R s m args below meth c B.U B.locs B.cells B.slots ∧ Post ⟨T.setVm vm₁, locs, cells, slots⟩ (Value.ref b :: argsL).toArray v B ∧
      ∀ target, Steps p.tables e below (B.U.setTop { g with pc := g.pc + 3, stack := v.toList ++ rest }) target → Steps p.tables e below (T.setTop g) target) ∨
    (∃ (q : Addr) (vm₁ : Vm) (B : Pt), s.WarmedH vm₁ ∧ Stand p l e R s m args below meth c B.U B.locs B.cells B.slots ∧ PostX ⟨T.setVm vm₁, locs, cells, slots⟩ (Value.ref b :: argsL).toArray q B ∧
      Steps p.tables e below (T.setTop g) ((B.U.setTop { g with stack := rest }).pushFrame (.throwing q))) := by
  obtain ⟨mk, methM, hnamed, hmethM, hstM, habM⟩ := Cond.instanceMethod_spec hinst
  obtain ⟨m8, methM', cM, hn8, hmethM', -, -, -, -, -, -, hsigM⟩ := Cond.codeWith_spec hcode
  cases Option.some.inj (hn8.symm.trans hnamed)
  cases hmethM.symm.trans hmethM'
  obtain ⟨c2, r2, m2, q1, q2, q3, q4, kP, hkP, hkPi⟩ := Cond.selects_spec hsel
  cases hcls.symm.trans q1
  cases (State.methodFound?_of_named hnamed hy).symm.trans q2
  cases hnamed.symm.trans q3
  have hselP : selectMethod e.platform s.vm cellB.cls mk = .method mk := by rw [Launch.admits_selectMethod X.admits]; exact q4
  obtain ⟨vm₁, X₁, hstep₁⟩ := X.invokevirtual hexec hown hlink hnamed hmethM hstM hkP hkPi hy (a := b) (cell := cellB) hcell
    (fun z h => by rw [h] at hobj; cases hobj) hselP hmethM habM hkP hkPi (g := g) hg (argsL := argsL) (rest := rest) (hlen _ hsigM) hstack hdg
  rcases hK m meth c ⟨T.setVm vm₁, locs, cells, slots⟩ { g with stack := rest } (.invokevirtual index) mk (Value.ref b :: argsL).toArray X₁ hg hsize hdg hW (X₁.named hnamed) (hpre vm₁ X₁.warmed) with ⟨v, B, X', hpost, hsteps⟩ | ⟨q, B, X', hpost, hsteps⟩
  · exact Or.inl ⟨v, vm₁, B, X₁.warmed, X', hpost, fun target h => hstep₁ _ fun acts => by rw [doInvoke_state]; exact hsteps.trans h⟩
  · exact Or.inr ⟨q, vm₁, B, X₁.warmed, X', hpost, hstep₁ _ fun acts => by rw [doInvoke_state]; exact hsteps⟩
theorem vx_callSX (X : Stand p l e R s m args below meth c T locs cells slots) (hexec : p.tables.exec = Jvm.exec) {own : String} {index : Nat} {y : MethodName} {bytes : ByteArray} {maxL : Nat} {ret : Option FieldType} {hh : List (Nat × Nat × Nat × Nat)}
    (hown : s.vm.findClass own = some m.cls) (hlink : (Cond.methodLink own index y).before args s = true) (hstat : (Cond.static y).before args s = true) (hinit : (Cond.initialized y.cls).before args s = true)
    (hcode : (Cond.codeWith y bytes maxL ret hh).before args s = true) (hy : y.cls ≠ "java/lang/invoke/MethodHandle" ∧ y.cls ≠ "java/lang/invoke/VarHandle")
    {W9 : Nat} {Pre : Pt → Array Value → Prop} {Post : Pt → Array Value → Option Value → Pt → Prop} {PostX : Pt → Array Value → Addr → Pt → Prop} (hK : vx_Back l R p e below s args y 3 W9 Pre Post PostX)
    {g : JFrame} (hg : g.method = m) (hsize : g.locals.size = c.maxLocals) {argsL rest : List Value} (hlen : ∀ sig, parseMethodDescriptor y.desc = some sig → argsL.length = sig.parameters.length)
    (hstack : g.stack = argsL.reverse ++ rest) (hW : 2 * g.monitorRoom + (rest.map fun v => v.category).sum ≤ W9) (hdg : decode c.code g.pc = .ok (.invokestatic index, 3))
    (hpre : ∀ vm₁, s.WarmedH vm₁ → Pre ⟨T.setVm vm₁, locs, cells, slots⟩ argsL.toArray) :
    (∃ (v : Option Value) (vm₁ : Vm) (B : Pt), s.WarmedH vm₁ ∧ Stand p l e R s m args below meth c B.U B.locs B.cells B.slots ∧ Post ⟨T.setVm vm₁, locs, cells, slots⟩ argsL.toArray v B ∧
      ∀ target, Steps p.tables e below (B.U.setTop { g with pc := g.pc + 3, stack := v.toList ++ rest }) target → Steps p.tables e below (T.setTop g) target) ∨
    (∃ (q : Addr) (vm₁ : Vm) (B : Pt), s.WarmedH vm₁ ∧ Stand p l e R s m args below meth c B.U B.locs B.cells B.slots ∧ PostX ⟨T.setVm vm₁, locs, cells, slots⟩ argsL.toArray q B ∧
      Steps p.tables e below (T.setTop g) ((B.U.setTop { g with stack := rest }).pushFrame (.throwing q))) := by
  obtain ⟨mk, methM, cM, hnamed, hmethM, -, -, -, -, -, -, hsigM⟩ := Cond.codeWith_spec hcode
  have hstatic : methM.isStatic = true := Cond.static_spec hnamed hmethM hstat
  obtain ⟨kP, hkP, -⟩ := className_of_methodNamed hnamed
  have hinitP : kP.init = .initialized := Cond.initialized_spec (findClass_of_methodNamed hnamed) hkP hinit
  obtain ⟨vm₁, X₁, hstep₁⟩ := X.invokestatic hexec hown hlink hnamed hmethM hstatic hkP hinitP hy (g := g) hg (argsL := argsL) (rest := rest) (hlen _ hsigM) hstack hdg
  rcases hK m meth c ⟨T.setVm vm₁, locs, cells, slots⟩ { g with stack := rest } (.invokestatic index) mk argsL.toArray X₁ hg hsize hdg hW (X₁.named hnamed) (hpre vm₁ X₁.warmed) with ⟨v, B, X', hpost, hsteps⟩ | ⟨q, B, X', hpost, hsteps⟩
  · exact Or.inl ⟨v, vm₁, B, X₁.warmed, X', hpost, fun target h => hstep₁ _ fun acts => by rw [doInvoke_state]; exact hsteps.trans h⟩
  · exact Or.inr ⟨q, vm₁, B, X₁.warmed, X', hpost, hstep₁ _ fun acts => by rw [doInvoke_state]; exact hsteps⟩
theorem vx_callVW (X : Stand p l e R s m args below meth c T locs cells slots) (hexec : p.tables.exec = Jvm.exec) {own C : String} {index : Nat} {y : MethodName} {bytes : ByteArray} {maxL : Nat} {ret : Option FieldType} {hh : List (Nat × Nat × Nat × Nat)}
    (hown : s.vm.findClass own = some m.cls) (hlink : (Cond.methodLink own index y).before args s = true) (hinst : (Cond.instanceMethod y).before args s = true) (hsel : (Cond.selects C y y).before args s = true)
    (hcode : (Cond.codeWith y bytes maxL ret hh).before args s = true) (hy : y.cls ≠ "java/lang/invoke/MethodHandle" ∧ y.cls ≠ "java/lang/invoke/VarHandle")
    {W9 : Nat} {Pre : Pt → Array Value → Prop} {Post : Pt → Array Value → Option Value → Pt → Prop} (hK : Back l R p e below s args y 3 W9 Pre Post)
    {b : Addr} {cellB : Cell} (hcell : T.heap[b]? = some cellB) (hobj : cellB.vm.isStatics = false) (hcls : s.vm.findClass C = some cellB.cls)
    {g : JFrame} (hg : g.method = m) (hsize : g.locals.size = c.maxLocals) {argsL rest : List Value} (hlen : ∀ sig, parseMethodDescriptor y.desc = some sig → argsL.length = sig.parameters.length)
    (hstack : g.stack = argsL.reverse ++ .ref b :: rest) (hW : 2 * g.monitorRoom + (rest.map fun v => v.category).sum ≤ W9) (hdg : decode c.code g.pc = .ok (.invokevirtual index, 3))
    (hpre : ∀ vm₁, s.WarmedH vm₁ → Pre ⟨T.setVm vm₁, locs, cells, slots⟩ (Value.ref b :: argsL).toArray) :
    ∃ (v : Option Value) (vm₁ : Vm) (B : Pt), s.WarmedH vm₁ ∧ Stand p l e R s m args below meth c B.U B.locs B.cells B.slots ∧ Post ⟨T.setVm vm₁, locs, cells, slots⟩ (Value.ref b :: argsL).toArray v B ∧
      ∀ target, Steps p.tables e below (B.U.setTop { g with pc := g.pc + 3, stack := v.toList ++ rest }) target → Steps p.tables e below (T.setTop g) target := by
  obtain ⟨mk, methM, hnamed, hmethM, hstM, habM⟩ := Cond.instanceMethod_spec hinst
  obtain ⟨m8, methM', cM, hn8, hmethM', -, -, -, -, -, -, hsigM⟩ := Cond.codeWith_spec hcode
  cases Option.some.inj (hn8.symm.trans hnamed)
  cases hmethM.symm.trans hmethM'
  obtain ⟨c2, r2, m2, q1, q2, q3, q4, kP, hkP, hkPi⟩ := Cond.selects_spec hsel
  cases hcls.symm.trans q1
  cases (State.methodFound?_of_named hnamed hy).symm.trans q2
  cases hnamed.symm.trans q3
  have hselP : selectMethod e.platform s.vm cellB.cls mk = .method mk := by rw [Launch.admits_selectMethod X.admits]; exact q4
  obtain ⟨vm₁, X₁, hstep₁⟩ := X.invokevirtual hexec hown hlink hnamed hmethM hstM hkP hkPi hy (a := b) (cell := cellB) hcell
    (fun z h => by rw [h] at hobj; cases hobj) hselP hmethM habM hkP hkPi (g := g) hg (argsL := argsL) (rest := rest) (hlen _ hsigM) hstack hdg
  obtain ⟨v, B, X', hpost, hsteps⟩ := hK m meth c ⟨T.setVm vm₁, locs, cells, slots⟩ { g with stack := rest } (.invokevirtual index) mk (Value.ref b :: argsL).toArray X₁ hg hsize hdg hW (X₁.named hnamed) (hpre vm₁ X₁.warmed)
  exact ⟨v, vm₁, B, X₁.warmed, X', hpost, fun target h => hstep₁ _ fun acts => by rw [doInvoke_state]; exact hsteps.trans h⟩
abbrev vx_CVW (R : Room) (s : State) (args : Array Value) (own C : String) (index : Nat) (y : MethodName) (bytes : ByteArray) (maxL : Nat) (ret : Option FieldType) (hh : List (Nat × Nat × Nat × Nat)) (ws : List Cond) (rm : Room) (mc ms n : Nat) : Prop :=
  (rm.cells = mc ∧ rm.slots = ms ∧ rm.frames + 1 ≤ R.frames ∧ 8 + (maxL + 11) + rm.locals ≤ R.locals ∧ (∀ w ∈ ws, ∀ (a' : Array Value) (U : State), s.WarmedH U.vm → w.before a' U = true) ∧ Cond.codeWith y bytes maxL ret hh ∈ ws) ∧
  (Cond.codeWith y bytes maxL ret hh).before args s = true ∧ (Cond.initialized y.cls).before args s = true ∧ (y.cls ≠ "java/lang/invoke/MethodHandle" ∧ y.cls ≠ "java/lang/invoke/VarHandle") ∧
  (∀ sig, parseMethodDescriptor y.desc = some sig → n = sig.parameters.length) ∧ (Cond.methodLink own index y).before args s = true ∧ (Cond.instanceMethod y).before args s = true ∧ (Cond.selects C y y).before args s = true
theorem vx_cwVW {own C : String} {index maxL mc ms : Nat} {y : MethodName} {bytes : ByteArray} {ret : Option FieldType} {hh : List (Nat × Nat × Nat × Nat)} {Ts ws ws' : List Cond} {rm : Room} (n : Nat) (ht : ∀ w ∈ Ts, w.before args s = true) (hT : GoodIn Ts (wsV own index C y ws)) (hw : ws = Cond.codeWith y bytes maxL ret hh :: ws') (hrc : rm.cells = mc) (hrs : rm.slots = ms)
    (hd : y.cls = C ∧ y.cls ≠ "java/lang/invoke/MethodHandle" ∧ y.cls ≠ "java/lang/invoke/VarHandle" ∧ (parseMethodDescriptor y.desc).map (fun d => d.parameters.length) = some n) (hR : rm.frames + 1 ≤ R.frames ∧ 8 + (maxL + 11) + rm.locals ≤ R.locals) :
    vx_CVW R s args own C index y bytes maxL ret hh ws rm mc ms n := by
  obtain ⟨hC, hd⟩ := hd
  subst hC
  have ok : ∀ w ∈ wsV own index y.cls y ws, w.before args s = true := fun w h => ht w (hT w h).1
  have hG : GoodIn Ts ws := fun w h => hT w (by unfold wsV; exact List.mem_append_right _ h)
  have hc : Cond.codeWith y bytes maxL ret hh ∈ ws := by rw [hw]; exact List.mem_cons_self
  refine ⟨⟨hrc, hrs, hR.1, hR.2, pay_in ht hG, hc⟩, ht _ (hG _ hc).1, ok _ (by simp [wsV]), ⟨hd.1, hd.2.1⟩, fun sig h => ?_, ok _ (by simp [wsV]), ok _ (by simp [wsV]), ok _ (by simp [wsV])⟩
  have h2 := hd.2.2
  rw [h] at h2
  exact (Option.some.inj h2).symm
theorem vx_runVW {y : MethodName} {bytes cc : ByteArray} {maxL nL mc ms n index : Nat} {ret : Option FieldType} {hh : List (Nat × Nat × Nat × Nat)} {ws : List Cond} {rm : Room} {Pc : Array Value → State → Prop} {Qc : Array Value → State → Outcome → State → Prop} {free : Addr → Prop} {Ts : List Cond} {own C : String} {b : Addr} {As rest : List Value} {g : JFrame}
    (S : CallFix p m c cc nL s args Ts own) (hM : Met l y ws rm Pc Qc mc ms free) (cw : vx_CVW R s args own C index y bytes maxL ret hh ws rm mc ms n) (hp : PreV s H C b Pc As)
    (hg : g.method = m) (hn : As.length = n) (hsize : g.locals.size = nL) (hstack : g.stack = As.reverse ++ .ref b :: rest) (hW : 2 * g.monitorRoom + (rest.map fun v => v.category).sum ≤ 8) (hdg : decode cc g.pc = .ok (.invokevirtual index, 3)) (hf : cells + mc ≤ R.cells ∧ slots + ms ≤ R.slots) :
    va_Run p l e R s m args below meth c H locs cells slots mc ms g rest (Qc (Value.ref b :: As).toArray) free := by
  obtain ⟨⟨hrc, hrs, hfr, hlo, hws, hcw⟩, hcode, hini, hy, hlen, hl, hin, hse⟩ := cw
  have hK : Back l R p e below s args y 3 8 (PreOf R mc ms Pc) (PostOf Qc mc ms free) := va_backW (hh := hh) (bytes := bytes) (maxL := maxL) (ret := ret) hM hp.1 hrc hrs hfr hlo hws hcw (fun a' U hW => word_at hW (Or.inl (by first | rfl | simp [Cond.onTables, Cond.keeps, Cond.steady])) hini)
  obtain ⟨hx, hb, hml, ho, -⟩ := S
  obtain ⟨-, ⟨cellB, hcB, hoB, hclB⟩, hPc⟩ := hp
  intro T hT X
  obtain ⟨v, vm₁, ⟨U', l2, c2, s2⟩, hW₁, X', ⟨g', mk, t, L, e1, e2, hq, h1, hL, h2, h3⟩, st⟩ := vx_callVW X hx (C := C) (hh := hh) (bytes := bytes) (maxL := maxL) (ret := ret) ho hl hin hse hcode hy hK (by rw [hT]; exact hcB) hoB hclB hg (hsize.trans hml.symm) (argsL := As) (rest := rest) (fun sig h => hn.trans (hlen sig h)) hstack hW (by rw [hb]; exact hdg)
    (fun vm₁ hW₁ => ⟨hf.1, hf.2, hPc (T.setVm vm₁) hT hW₁⟩)
  dsimp only [Pt.U, Pt.locs, Pt.cells, Pt.slots] at X' e1 e2 h1 h2 h3 st
  subst h1; subst h2; subst h3
  exact ⟨v, (T.setVm vm₁).calling g' mk (Value.ref b :: As).toArray, t, U', L, hT, X', hL, e1, e2, hq, st⟩
section
variable {y : MethodName} {bytes cc : ByteArray} {maxL nL mc ms n index : Nat} {ret : Option FieldType} {ws : List Cond} {rm : Room} {Pc : Array Value → State → Prop} {Qc : Array Value → State → Outcome → State → Prop} {XC : String → State → State → Prop} {free : Addr → Prop} {Ts : List Cond} {own C : String} {b : Addr} {As rest : List Value} {g : JFrame}
theorem vx_runVX {hh : List (Nat × Nat × Nat × Nat)} (S : CallFix p m c cc nL s args Ts own) (hM : vx_Met l y ws rm Pc Qc XC mc ms free) (cw : vx_CVW R s args own C index y bytes maxL ret hh ws rm mc ms n) (hp : PreV s H C b Pc As)
    (hg : g.method = m) (hn : As.length = n) (hsize : g.locals.size = nL) (hstack : g.stack = As.reverse ++ .ref b :: rest) (hW : 2 * g.monitorRoom + (rest.map fun v => v.category).sum ≤ 8) (hdg : decode cc g.pc = .ok (.invokevirtual index, 3)) (hf : cells + mc ≤ R.cells ∧ slots + ms ≤ R.slots) :
    vx_Run p l e R s m args below meth c H locs cells slots mc ms g rest (Qc (Value.ref b :: As).toArray) XC free := by
  obtain ⟨⟨hrc, hrs, hfr, hlo, hws, hcw⟩, hcode, hini, hy, hlen, hl, hin, hse⟩ := cw
  have hK : vx_Back l R p e below s args y 3 8 (PreOf R mc ms Pc) (PostOf Qc mc ms free) (vx_Post XC mc ms free) := vx_backW (hh := hh) (bytes := bytes) (maxL := maxL) (ret := ret) hM hp.1 hrc hrs hfr hlo hws hcw (fun a' U hW => word_at hW (Or.inl (by first | rfl | simp [Cond.onTables, Cond.keeps, Cond.steady])) hini)
  obtain ⟨hx, hb, hml, ho, -⟩ := S
  obtain ⟨-, ⟨cellB, hcB, hoB, hclB⟩, hPc⟩ := hp
  intro T hT X
  rcases vx_callVX X hx (C := C) (hh := hh) (bytes := bytes) (maxL := maxL) (ret := ret) ho hl hin hse hcode hy hK (by rw [hT]; exact hcB) hoB hclB hg (hsize.trans hml.symm) (argsL := As) (rest := rest) (fun sig h => hn.trans (hlen sig h)) hstack hW (by rw [hb]; exact hdg)
    (fun vm₁ hW₁ => ⟨hf.1, hf.2, hPc (T.setVm vm₁) hT hW₁⟩) with ⟨v, vm₁, ⟨U', l2, c2, s2⟩, hW₁, X', ⟨g', mk, t, L, e1, e2, hq, h1, hL, h2, h3⟩, st⟩ | ⟨q, vm₁, ⟨U', l2, c2, s2⟩, hW₁, X', ⟨g', mk, t, L, E, ce, e1, e2, hq, hce, hcv, hcl, h1, hL, h2, h3⟩, st⟩
  · dsimp only [Pt.U, Pt.locs, Pt.cells, Pt.slots] at X' e1 e2 h1 h2 h3 st
    subst h1; subst h2; subst h3
    exact Or.inl ⟨v, (T.setVm vm₁).calling g' mk (Value.ref b :: As).toArray, t, U', L, hT, X', hL, e1, e2, hq, st⟩
  · dsimp only [Pt.U, Pt.locs, Pt.cells, Pt.slots] at X' e1 e2 h1 h2 h3 st hcl
    subst h1; subst h2; subst h3
    exact Or.inr ⟨q, (T.setVm vm₁).calling g' mk (Value.ref b :: As).toArray, t, U', L, E, ce, hT, X', hL, e1, e2, hq, hce, hcv, vx_cls hW₁ hcl, st⟩
theorem vx_runSX {hh : List (Nat × Nat × Nat × Nat)} (S : CallFix p m c cc nL s args Ts own) (hM : vx_Met l y ws rm Pc Qc XC mc ms free) (cw : vx_CSW R s args own index y bytes maxL ret hh ws rm mc ms n) (hp : PreS s H Pc As)
    (hg : g.method = m) (hn : As.length = n) (hsize : g.locals.size = nL) (hstack : g.stack = As.reverse ++ rest) (hW : 2 * g.monitorRoom + (rest.map fun v => v.category).sum ≤ 8) (hdg : decode cc g.pc = .ok (.invokestatic index, 3)) (hf : cells + mc ≤ R.cells ∧ slots + ms ≤ R.slots) :
    vx_Run p l e R s m args below meth c H locs cells slots mc ms g rest (Qc As.toArray) XC free := by
  obtain ⟨⟨hrc, hrs, hfr, hlo, hws, hcw⟩, hcode, hini, hy, hlen, hl, hstt⟩ := cw
  have hK : vx_Back l R p e below s args y 3 8 (PreOf R mc ms Pc) (PostOf Qc mc ms free) (vx_Post XC mc ms free) := vx_backW (hh := hh) (bytes := bytes) (maxL := maxL) (ret := ret) hM hp.1 hrc hrs hfr hlo hws hcw (fun a' U hW => word_at hW (Or.inl (by first | rfl | simp [Cond.onTables, Cond.keeps, Cond.steady])) hini)
  obtain ⟨hx, hb, hml, ho, -⟩ := S
  intro T hT X
  rcases vx_callSX X hx (hh := hh) (bytes := bytes) (maxL := maxL) (ret := ret) ho hl hstt hini hcode hy hK hg (hsize.trans hml.symm) (argsL := As) (rest := rest) (fun sig h => hn.trans (hlen sig h)) hstack hW (by rw [hb]; exact hdg)
    (fun vm₁ hW₁ => ⟨hf.1, hf.2, hp.2 (T.setVm vm₁) hT hW₁⟩) with ⟨v, vm₁, ⟨U', l2, c2, s2⟩, hW₁, X', ⟨g', mk, t, L, e1, e2, hq, h1, hL, h2, h3⟩, st⟩ | ⟨q, vm₁, ⟨U', l2, c2, s2⟩, hW₁, X', ⟨g', mk, t, L, E, ce, e1, e2, hq, hce, hcv, hcl, h1, hL, h2, h3⟩, st⟩
  · dsimp only [Pt.U, Pt.locs, Pt.cells, Pt.slots] at X' e1 e2 h1 h2 h3 st
    subst h1; subst h2; subst h3
    exact Or.inl ⟨v, (T.setVm vm₁).calling g' mk As.toArray, t, U', L, hT, X', hL, e1, e2, hq, st⟩
  · dsimp only [Pt.U, Pt.locs, Pt.cells, Pt.slots] at X' e1 e2 h1 h2 h3 st hcl
    subst h1; subst h2; subst h3
    exact Or.inr ⟨q, (T.setVm vm₁).calling g' mk As.toArray, t, U', L, E, ce, hT, X', hL, e1, e2, hq, hce, hcv, vx_cls hW₁ hcl, st⟩
end
end VXH
theorem vx_ofWH {l : Launch} {y : MethodName} {ws ws' : List Cond} {rm : Room} {Pc : Array Value → State → Prop} {Qc : Array Value → State → Outcome → State → Prop} {XC : String → State → State → Prop} {mc ms : Nat} {free : Addr → Prop} {cc : ByteArray} {maxL : Nat} {ret : Option FieldType} {hh : List (Nat × Nat × Nat × Nat)}
    (hy : plainName y.cls = true) (hw : ws = Cond.codeWith y cc maxL ret hh :: ws')
    (body : ∀ p e s m args below meth c s₁, BodyLoose p l y (headSpec ws rm) cc maxL ret e s m args below meth c s₁ → c.maxLocals = maxL → Pc args s →
      W p l e (headSpec ws rm).room s m args below meth c s.heap [] 0 0 (vx_MQ below Qc XC args s mc ms free) (entryFrame m args maxL)) : vx_Met l y ws rm Pc Qc XC mc ms free := by
  refine MetFree.of_bodyS (code := cc) (maxLocals := maxL) (ret := ret) hy ?_ ?_
  · intro args s m h hn
    obtain ⟨m9, meth, c, hn9, h1, h2, h3, h4, -, h5, h6, -⟩ := Cond.codeWith_spec (atoms_spec (ws := ws) h _ (by rw [hw]; exact List.mem_cons_self))
    cases hn.symm.trans hn9
    exact ⟨meth, c, h1, h2, h3, h4, h5, h6⟩
  · intro p e s m args below meth c s₁ B hml hP _
    have hh0 : s₁.heap = s.heap := by rw [B.state]; rfl
    obtain ⟨t, a1, o, b1, b2, b3⟩ := body p e s m args below meth c s₁ B hml hP s₁ hh0 (Stand.of_body B)
    exact ⟨t, o, a1, b1, b2, b3⟩
/-! ===== END ===== -/

/-! ===== BEGIN printed: names, fields, word lists, decode rows ===== -/
end
section
def RX0 : String := "PaperGuild$Follower"
def TX0 : u_T := fun k => match k with
  | 0 => ("PaperGuild$Follower", "place", "I", false)
  | 1 => ("PaperGuild$Follower", "turned", "Z", false)
  | _ => ("PaperGuild$Follower", "span", "I", false)
def tyX0 : Nat → FieldType := fun k => match k with
  | 0 => .int
  | 1 => .boolean
  | _ => .int
abbrev wsX00 : List Cond := u_ws RX0 TX0 3
theorem nmX0 : ∀ a, a < 3 → ∀ b, b < 3 → a ≠ b → (TX0 a).2.1 ≠ (TX0 b).2.1 := by decide +kernel
theorem tyX0_ok : ∀ k, k < 3 → parseFieldDescriptor (TX0 k).2.2.1 = some (tyX0 k) := by decide +kernel
abbrev cX0_init : ByteArray := prog_2_method_1_code
def yX0_init : MethodName := ⟨RX0, "<init>", "()V"⟩
abbrev cX0_follow : ByteArray := prog_2_method_2_code
def yX0_follow : MethodName := ⟨RX0, "follow", "(LPaperGuild$Model;I)V"⟩
abbrev cX0_takeStep : ByteArray := prog_2_method_3_code
def yX0_takeStep : MethodName := ⟨RX0, "takeStep", "(IZ)V"⟩
def RX1 : String := "PaperGuild$Mill"
def TX1 : u_T := fun k => match k with
  | 0 => ("PaperGuild$Mill", "rollLength", "I", false)
  | 1 => ("PaperGuild$Mill", "demanded", "I", false)
  | 2 => ("PaperGuild$Mill", "fewest", "[I", true)
  | _ => ("PaperGuild$Mill", "waysTo", "[I", true)
def tyX1 : Nat → FieldType := fun k => match k with
  | 0 => .int
  | 1 => .int
  | 2 => .array .int
  | _ => .array .int
abbrev wsX10 : List Cond := u_ws RX1 TX1 4
theorem nmX1 : ∀ a, a < 4 → ∀ b, b < 4 → a ≠ b → (TX1 a).2.1 ≠ (TX1 b).2.1 := by decide +kernel
theorem tyX1_ok : ∀ k, k < 4 → parseFieldDescriptor (TX1 k).2.2.1 = some (tyX1 k) := by decide +kernel
abbrev cX1_init : ByteArray := prog_3_method_1_code
def yX1_init : MethodName := ⟨RX1, "<init>", "()V"⟩
abbrev cX1_fewestForRoll : ByteArray := prog_3_method_2_code
def yX1_fewestForRoll : MethodName := ⟨RX1, "fewestForRoll", "()I"⟩
abbrev cX1_restOfRoll : ByteArray := prog_3_method_3_code
def yX1_restOfRoll : MethodName := ⟨RX1, "restOfRoll", "()I"⟩
abbrev cX1_waysForRoll : ByteArray := prog_3_method_4_code
def yX1_waysForRoll : MethodName := ⟨RX1, "waysForRoll", "()I"⟩
abbrev cX1_addWaysWith : ByteArray := prog_3_method_5_code
def yX1_addWaysWith : MethodName := ⟨RX1, "addWaysWith", "(I)V"⟩
abbrev cX1_fillFewest : ByteArray := prog_3_method_6_code
def yX1_fillFewest : MethodName := ⟨RX1, "fillFewest", "()V"⟩
abbrev cX1_fewestFor : ByteArray := prog_3_method_7_code
def yX1_fewestFor : MethodName := ⟨RX1, "fewestFor", "(I)I"⟩
abbrev cX1_isDemanded : ByteArray := prog_3_method_8_code
def yX1_isDemanded : MethodName := ⟨RX1, "isDemanded", "(I)Z"⟩
def RX2 : String := "PaperGuild$Model"
def TX2 : u_T := fun k => match k with
  | 0 => ("PaperGuild$Model", "author", "I", true)
  | 1 => ("PaperGuild$Model", "length", "I", true)
  | 2 => ("PaperGuild$Model", "stepKinds", "[I", true)
  | 3 => ("PaperGuild$Model", "stepPlaces", "[I", true)
  | 4 => ("PaperGuild$Model", "stepsFromLeft", "[Z", true)
  | 5 => ("PaperGuild$Model", "stepCount", "I", false)
  | _ => ("PaperGuild$Model", "stacks", "LPaperGuild$Stacks;", true)
def tyX2 : Nat → FieldType := fun k => match k with
  | 0 => .int
  | 1 => .int
  | 2 => .array .int
  | 3 => .array .int
  | 4 => .array .boolean
  | 5 => .int
  | _ => .object "PaperGuild$Stacks"
abbrev wsX20 : List Cond := u_ws RX2 TX2 7
theorem nmX2 : ∀ a, a < 7 → ∀ b, b < 7 → a ≠ b → (TX2 a).2.1 ≠ (TX2 b).2.1 := by decide +kernel
theorem tyX2_ok : ∀ k, k < 7 → parseFieldDescriptor (TX2 k).2.2.1 = some (tyX2 k) := by decide +kernel
abbrev cX2_init : ByteArray := prog_4_method_1_code
def yX2_init : MethodName := ⟨RX2, "<init>", "(II)V"⟩
abbrev cX2_ownKinds : ByteArray := prog_4_method_2_code
def yX2_ownKinds : MethodName := ⟨RX2, "ownKinds", "()I"⟩
abbrev cX2_addStep : ByteArray := prog_4_method_3_code
def yX2_addStep : MethodName := ⟨RX2, "addStep", "(IIZ)V"⟩
abbrev cX2_removeLastStep : ByteArray := prog_4_method_4_code
def yX2_removeLastStep : MethodName := ⟨RX2, "removeLastStep", "()I"⟩
def RX3 : String := "PaperGuild$Stacks"
def TX3 : u_T := fun k => match k with
  | 0 => ("PaperGuild$Stacks", "cells", "[I", false)
  | 1 => ("PaperGuild$Stacks", "starts", "[I", false)
  | 2 => ("PaperGuild$Stacks", "nextCells", "[I", false)
  | 3 => ("PaperGuild$Stacks", "nextStarts", "[I", false)
  | 4 => ("PaperGuild$Stacks", "filled", "I", false)
  | _ => ("PaperGuild$Stacks", "span", "I", false)
def tyX3 : Nat → FieldType := fun k => match k with
  | 0 => .array .int
  | 1 => .array .int
  | 2 => .array .int
  | 3 => .array .int
  | 4 => .int
  | _ => .int
abbrev wsX30 : List Cond := u_ws RX3 TX3 6
theorem nmX3 : ∀ a, a < 6 → ∀ b, b < 6 → a ≠ b → (TX3 a).2.1 ≠ (TX3 b).2.1 := by decide +kernel
theorem tyX3_ok : ∀ k, k < 6 → parseFieldDescriptor (TX3 k).2.2.1 = some (tyX3 k) := by decide +kernel
abbrev cX3_init : ByteArray := prog_5_method_1_code
def yX3_init : MethodName := ⟨RX3, "<init>", "()V"⟩
abbrev cX3_layFlat : ByteArray := prog_5_method_2_code
def yX3_layFlat : MethodName := ⟨RX3, "layFlat", "(I)V"⟩
abbrev cX3_turnOver : ByteArray := prog_5_method_3_code
def yX3_turnOver : MethodName := ⟨RX3, "turnOver", "(IZ)V"⟩
abbrev cX3_heightAt : ByteArray := prog_5_method_4_code
def yX3_heightAt : MethodName := ⟨RX3, "heightAt", "(I)I"⟩
abbrev cX3_cellIn : ByteArray := prog_5_method_5_code
def yX3_cellIn : MethodName := ⟨RX3, "cellIn", "(II)I"⟩
abbrev cX3_greatestHeight : ByteArray := prog_5_method_6_code
def yX3_greatestHeight : MethodName := ⟨RX3, "greatestHeight", "()I"⟩
abbrev cX3_isPlace : ByteArray := prog_5_method_7_code
def yX3_isPlace : MethodName := ⟨RX3, "isPlace", "(I)Z"⟩
abbrev cX3_copyUpwards : ByteArray := prog_5_method_8_code
def yX3_copyUpwards : MethodName := ⟨RX3, "copyUpwards", "(I)V"⟩
abbrev cX3_copyDownwards : ByteArray := prog_5_method_9_code
def yX3_copyDownwards : MethodName := ⟨RX3, "copyDownwards", "(I)V"⟩
abbrev cX3_copyCell : ByteArray := prog_5_method_10_code
def yX3_copyCell : MethodName := ⟨RX3, "copyCell", "(II)V"⟩
abbrev cX3_swapRows : ByteArray := prog_5_method_11_code
def yX3_swapRows : MethodName := ⟨RX3, "swapRows", "()V"⟩
def RX4 : String := "PaperGuild"
def TX4 : u_T := fun k => match k with
  | 0 => ("PaperGuild", "needed", "[I", true)
  | 1 => ("PaperGuild", "known", "[I", true)
  | 2 => ("PaperGuild", "guildModels", "[LPaperGuild$Model;", true)
  | 3 => ("PaperGuild", "used", "[I", true)
  | 4 => ("PaperGuild", "modelCount", "I", false)
  | 5 => ("PaperGuild", "follower", "LPaperGuild$Follower;", true)
  | 6 => ("PaperGuild", "followedHeights", "[I", true)
  | _ => ("PaperGuild", "mill", "LPaperGuild$Mill;", true)
def tyX4 : Nat → FieldType := fun k => match k with
  | 0 => .array .int
  | 1 => .array .int
  | 2 => .array (.object "PaperGuild$Model")
  | 3 => .array .int
  | 4 => .int
  | 5 => .object "PaperGuild$Follower"
  | 6 => .array .int
  | _ => .object "PaperGuild$Mill"
abbrev wsX40 : List Cond := u_ws RX4 TX4 8
theorem nmX4 : ∀ a, a < 8 → ∀ b, b < 8 → a ≠ b → (TX4 a).2.1 ≠ (TX4 b).2.1 := by decide +kernel
theorem tyX4_ok : ∀ k, k < 8 → parseFieldDescriptor (TX4 k).2.2.1 = some (tyX4 k) := by decide +kernel
abbrev cX4_init : ByteArray := prog_1_method_1_code
def yX4_init : MethodName := ⟨RX4, "<init>", "()V"⟩
abbrev cX4_setNeeds : ByteArray := prog_1_method_2_code
def yX4_setNeeds : MethodName := ⟨RX4, "setNeeds", "(II)I"⟩
abbrev cX4_addModel : ByteArray := prog_1_method_3_code
def yX4_addModel : MethodName := ⟨RX4, "addModel", "(II)I"⟩
abbrev cX4_fold : ByteArray := prog_1_method_4_code
def yX4_fold : MethodName := ⟨RX4, "fold", "(IIIZ)I"⟩
abbrev cX4_unfold : ByteArray := prog_1_method_5_code
def yX4_unfold : MethodName := ⟨RX4, "unfold", "(I)I"⟩
abbrev cX4_use : ByteArray := prog_1_method_6_code
def yX4_use : MethodName := ⟨RX4, "use", "(II)Z"⟩
abbrev cX4_setRoll : ByteArray := prog_1_method_7_code
def yX4_setRoll : MethodName := ⟨RX4, "setRoll", "(II)I"⟩
abbrev cX4_teach : ByteArray := prog_1_method_8_code
def yX4_teach : MethodName := ⟨RX4, "teach", "(II)I"⟩
abbrev cX4_models : ByteArray := prog_1_method_9_code
def yX4_models : MethodName := ⟨RX4, "models", "()I"⟩
abbrev cX4_steps : ByteArray := prog_1_method_10_code
def yX4_steps : MethodName := ⟨RX4, "steps", "(I)I"⟩
abbrev cX4_places : ByteArray := prog_1_method_11_code
def yX4_places : MethodName := ⟨RX4, "places", "(I)I"⟩
abbrev cX4_layers : ByteArray := prog_1_method_12_code
def yX4_layers : MethodName := ⟨RX4, "layers", "(I)I"⟩
abbrev cX4_cellAt : ByteArray := prog_1_method_13_code
def yX4_cellAt : MethodName := ⟨RX4, "cellAt", "(III)I"⟩
abbrev cX4_placeOf : ByteArray := prog_1_method_14_code
def yX4_placeOf : MethodName := ⟨RX4, "placeOf", "(II)I"⟩
abbrev cX4_isTurned : ByteArray := prog_1_method_15_code
def yX4_isTurned : MethodName := ⟨RX4, "isTurned", "(II)Z"⟩
abbrev cX4_layersByFollowing : ByteArray := prog_1_method_16_code
def yX4_layersByFollowing : MethodName := ⟨RX4, "layersByFollowing", "(I)I"⟩
abbrev cX4_bears : ByteArray := prog_1_method_17_code
def yX4_bears : MethodName := ⟨RX4, "bears", "(II)Z"⟩
abbrev cX4_kindsOf : ByteArray := prog_1_method_18_code
def yX4_kindsOf : MethodName := ⟨RX4, "kindsOf", "(I)I"⟩
abbrev cX4_mayFold : ByteArray := prog_1_method_19_code
def yX4_mayFold : MethodName := ⟨RX4, "mayFold", "(II)Z"⟩
abbrev cX4_lessons : ByteArray := prog_1_method_20_code
def yX4_lessons : MethodName := ⟨RX4, "lessons", "(II)I"⟩
abbrev cX4_credit : ByteArray := prog_1_method_21_code
def yX4_credit : MethodName := ⟨RX4, "credit", "(I)I"⟩
abbrev cX4_fewestPieces : ByteArray := prog_1_method_22_code
def yX4_fewestPieces : MethodName := ⟨RX4, "fewestPieces", "()I"⟩
abbrev cX4_ways : ByteArray := prog_1_method_23_code
def yX4_ways : MethodName := ⟨RX4, "ways", "()I"⟩
abbrev cX4_leastRest : ByteArray := prog_1_method_24_code
def yX4_leastRest : MethodName := ⟨RX4, "leastRest", "()I"⟩
abbrev cX4_checkKind : ByteArray := prog_1_method_25_code
def yX4_checkKind : MethodName := ⟨RX4, "checkKind", "(I)V"⟩
abbrev cX4_checkAuthor : ByteArray := prog_1_method_26_code
def yX4_checkAuthor : MethodName := ⟨RX4, "checkAuthor", "(I)V"⟩
abbrev cX4_checkPupil : ByteArray := prog_1_method_27_code
def yX4_checkPupil : MethodName := ⟨RX4, "checkPupil", "(I)V"⟩
abbrev cX4_checkModel : ByteArray := prog_1_method_28_code
def yX4_checkModel : MethodName := ⟨RX4, "checkModel", "(I)V"⟩
abbrev cX4_checkCell : ByteArray := prog_1_method_29_code
def yX4_checkCell : MethodName := ⟨RX4, "checkCell", "(LPaperGuild$Model;I)V"⟩
abbrev cX4_modelAt : ByteArray := prog_1_method_30_code
def yX4_modelAt : MethodName := ⟨RX4, "modelAt", "(I)LPaperGuild$Model;"⟩
abbrev cX4_modelsOf : ByteArray := prog_1_method_31_code
def yX4_modelsOf : MethodName := ⟨RX4, "modelsOf", "(I)I"⟩
abbrev cX4_modelsCountedFor : ByteArray := prog_1_method_32_code
def yX4_modelsCountedFor : MethodName := ⟨RX4, "modelsCountedFor", "(I)I"⟩
abbrev cX4_kindsCountedFor : ByteArray := prog_1_method_33_code
def yX4_kindsCountedFor : MethodName := ⟨RX4, "kindsCountedFor", "(I)I"⟩
abbrev cX4_holds : ByteArray := prog_1_method_34_code
def yX4_holds : MethodName := ⟨RX4, "holds", "(II)Z"⟩
abbrev cX4_lacksAny : ByteArray := prog_1_method_35_code
def yX4_lacksAny : MethodName := ⟨RX4, "lacksAny", "(II)Z"⟩
abbrev cX4_reached : ByteArray := prog_1_method_36_code
def yX4_reached : MethodName := ⟨RX4, "reached", "(I[II)I"⟩
def RX5 : String := "PaperGuildModel"
def TX5 : u_T := fun k => match k with
  | 0 => ("PaperGuildModel", "needs", "[I", true)
  | 1 => ("PaperGuildModel", "models", "I", false)
  | 2 => ("PaperGuildModel", "authors", "[I", true)
  | 3 => ("PaperGuildModel", "lengths", "[I", true)
  | 4 => ("PaperGuildModel", "steps", "[I", true)
  | 5 => ("PaperGuildModel", "uses", "[I", true)
  | 6 => ("PaperGuildModel", "kinds", "[I", true)
  | 7 => ("PaperGuildModel", "at", "[I", true)
  | 8 => ("PaperGuildModel", "lefts", "[I", true)
  | 9 => ("PaperGuildModel", "roll", "I", false)
  | 10 => ("PaperGuildModel", "demand", "I", false)
  | 11 => ("PaperGuildModel", "knows", "[I", true)
  | 12 => ("PaperGuildModel", "places", "[I", true)
  | 13 => ("PaperGuildModel", "heights", "[I", true)
  | 14 => ("PaperGuildModel", "turns", "[I", true)
  | 15 => ("PaperGuildModel", "many", "[I", true)
  | 16 => ("PaperGuildModel", "size", "I", false)
  | 17 => ("PaperGuildModel", "most", "I", false)
  | 18 => ("PaperGuildModel", "cuts", "[I", true)
  | _ => ("PaperGuildModel", "thrown", "I", false)
def tyX5 : Nat → FieldType := fun k => match k with
  | 0 => .array .int
  | 1 => .int
  | 2 => .array .int
  | 3 => .array .int
  | 4 => .array .int
  | 5 => .array .int
  | 6 => .array .int
  | 7 => .array .int
  | 8 => .array .int
  | 9 => .int
  | 10 => .int
  | 11 => .array .int
  | 12 => .array .int
  | 13 => .array .int
  | 14 => .array .int
  | 15 => .array .int
  | 16 => .int
  | 17 => .int
  | 18 => .array .int
  | _ => .int
abbrev wsX50 : List Cond := u_ws RX5 TX5 20
theorem nmX5 : ∀ a, a < 20 → ∀ b, b < 20 → a ≠ b → (TX5 a).2.1 ≠ (TX5 b).2.1 := by decide +kernel
theorem tyX5_ok : ∀ k, k < 20 → parseFieldDescriptor (TX5 k).2.2.1 = some (tyX5 k) := by decide +kernel
abbrev cX5_init : ByteArray := prog_7_method_1_code
def yX5_init : MethodName := ⟨RX5, "<init>", "()V"⟩
abbrev cX5_thrown : ByteArray := prog_7_method_2_code
def yX5_thrown : MethodName := ⟨RX5, "thrown", "()I"⟩
abbrev cX5_fails : ByteArray := prog_7_method_3_code
def yX5_fails : MethodName := ⟨RX5, "fails", "(I)I"⟩
abbrev cX5_in : ByteArray := prog_7_method_4_code
def yX5_in : MethodName := ⟨RX5, "in", "(III)Z"⟩
abbrev cX5_isModel : ByteArray := prog_7_method_5_code
def yX5_isModel : MethodName := ⟨RX5, "isModel", "(I)Z"⟩
abbrev cX5_closed : ByteArray := prog_7_method_6_code
def yX5_closed : MethodName := ⟨RX5, "closed", "(I)I"⟩
abbrev cX5_setNeeds : ByteArray := prog_7_method_7_code
def yX5_setNeeds : MethodName := ⟨RX5, "setNeeds", "(II)I"⟩
abbrev cX5_addModel : ByteArray := prog_7_method_8_code
def yX5_addModel : MethodName := ⟨RX5, "addModel", "(II)I"⟩
abbrev cX5_counts : ByteArray := prog_7_method_9_code
def yX5_counts : MethodName := ⟨RX5, "counts", "(I)V"⟩
abbrev cX5_makes : ByteArray := prog_7_method_10_code
def yX5_makes : MethodName := ⟨RX5, "makes", "(IIZ)V"⟩
abbrev cX5_folds : ByteArray := prog_7_method_11_code
def yX5_folds : MethodName := ⟨RX5, "folds", "(I)V"⟩
abbrev cX5_ownKinds : ByteArray := prog_7_method_12_code
def yX5_ownKinds : MethodName := ⟨RX5, "ownKinds", "(I)I"⟩
abbrev cX5_fold : ByteArray := prog_7_method_13_code
def yX5_fold : MethodName := ⟨RX5, "fold", "(IIIZ)I"⟩
abbrev cX5_unfold : ByteArray := prog_7_method_14_code
def yX5_unfold : MethodName := ⟨RX5, "unfold", "(I)I"⟩
abbrev cX5_used : ByteArray := prog_7_method_15_code
def yX5_used : MethodName := ⟨RX5, "used", "(I)I"⟩
abbrev cX5_use : ByteArray := prog_7_method_16_code
def yX5_use : MethodName := ⟨RX5, "use", "(II)Z"⟩
abbrev cX5_setRoll : ByteArray := prog_7_method_17_code
def yX5_setRoll : MethodName := ⟨RX5, "setRoll", "(II)I"⟩
abbrev cX5_bits : ByteArray := prog_7_method_18_code
def yX5_bits : MethodName := ⟨RX5, "bits", "(I)I"⟩
abbrev cX5_teach : ByteArray := prog_7_method_19_code
def yX5_teach : MethodName := ⟨RX5, "teach", "(II)I"⟩
abbrev cX5_models : ByteArray := prog_7_method_20_code
def yX5_models : MethodName := ⟨RX5, "models", "()I"⟩
abbrev cX5_steps : ByteArray := prog_7_method_21_code
def yX5_steps : MethodName := ⟨RX5, "steps", "(I)I"⟩
abbrev cX5_places : ByteArray := prog_7_method_22_code
def yX5_places : MethodName := ⟨RX5, "places", "(I)I"⟩
abbrev cX5_layersOf : ByteArray := prog_7_method_23_code
def yX5_layersOf : MethodName := ⟨RX5, "layersOf", "(I)I"⟩
abbrev cX5_layers : ByteArray := prog_7_method_24_code
def yX5_layers : MethodName := ⟨RX5, "layers", "(I)I"⟩
abbrev cX5_cellAt : ByteArray := prog_7_method_25_code
def yX5_cellAt : MethodName := ⟨RX5, "cellAt", "(III)I"⟩
abbrev cX5_isCell : ByteArray := prog_7_method_26_code
def yX5_isCell : MethodName := ⟨RX5, "isCell", "(II)Z"⟩
abbrev cX5_placeOf : ByteArray := prog_7_method_27_code
def yX5_placeOf : MethodName := ⟨RX5, "placeOf", "(II)I"⟩
abbrev cX5_isTurned : ByteArray := prog_7_method_28_code
def yX5_isTurned : MethodName := ⟨RX5, "isTurned", "(II)Z"⟩
abbrev cX5_layersByFollowing : ByteArray := prog_7_method_29_code
def yX5_layersByFollowing : MethodName := ⟨RX5, "layersByFollowing", "(I)I"⟩
abbrev cX5_bears : ByteArray := prog_7_method_30_code
def yX5_bears : MethodName := ⟨RX5, "bears", "(II)Z"⟩
abbrev cX5_kindsFor : ByteArray := prog_7_method_31_code
def yX5_kindsFor : MethodName := ⟨RX5, "kindsFor", "(I)I"⟩
abbrev cX5_kindsOf : ByteArray := prog_7_method_32_code
def yX5_kindsOf : MethodName := ⟨RX5, "kindsOf", "(I)I"⟩
abbrev cX5_isExam : ByteArray := prog_7_method_33_code
def yX5_isExam : MethodName := ⟨RX5, "isExam", "(II)Z"⟩
abbrev cX5_mayFold : ByteArray := prog_7_method_34_code
def yX5_mayFold : MethodName := ⟨RX5, "mayFold", "(II)Z"⟩
abbrev cX5_lessons : ByteArray := prog_7_method_35_code
def yX5_lessons : MethodName := ⟨RX5, "lessons", "(II)I"⟩
abbrev cX5_credit : ByteArray := prog_7_method_36_code
def yX5_credit : MethodName := ⟨RX5, "credit", "(I)I"⟩
abbrev cX5_fewest : ByteArray := prog_7_method_37_code
def yX5_fewest : MethodName := ⟨RX5, "fewest", "()V"⟩
abbrev cX5_fewestPieces : ByteArray := prog_7_method_38_code
def yX5_fewestPieces : MethodName := ⟨RX5, "fewestPieces", "()I"⟩
abbrev cX5_ways : ByteArray := prog_7_method_39_code
def yX5_ways : MethodName := ⟨RX5, "ways", "()I"⟩
abbrev cX5_leastRest : ByteArray := prog_7_method_40_code
def yX5_leastRest : MethodName := ⟨RX5, "leastRest", "()I"⟩
def RJ6 : String := "java/lang/Integer"
def TJ6 : u_T := fun k => match k with
  | _ => ("", "", "", false)
def tyJ6 : Nat → FieldType := fun k => match k with
  | _ => .int
abbrev wsJ60 : List Cond := u_ws RJ6 TJ6 0
theorem nmJ6 : ∀ a, a < 0 → ∀ b, b < 0 → a ≠ b → (TJ6 a).2.1 ≠ (TJ6 b).2.1 := by decide +kernel
theorem tyJ6_ok : ∀ k, k < 0 → parseFieldDescriptor (TJ6 k).2.2.1 = some (tyJ6 k) := by decide +kernel
abbrev cJ6_bitCount_0f7a4 : ByteArray := prog_12_method_49_code
def yJ6_bitCount_0f7a4 : MethodName := ⟨RJ6, "bitCount", "(I)I"⟩
def RJ9 : String := "java/lang/Math"
def TJ9 : u_T := fun k => match k with
  | _ => ("", "", "", false)
def tyJ9 : Nat → FieldType := fun k => match k with
  | _ => .int
abbrev wsJ90 : List Cond := u_ws RJ9 TJ9 0
theorem nmJ9 : ∀ a, a < 0 → ∀ b, b < 0 → a ≠ b → (TJ9 a).2.1 ≠ (TJ9 b).2.1 := by decide +kernel
theorem tyJ9_ok : ∀ k, k < 0 → parseFieldDescriptor (TJ9 k).2.2.1 = some (tyJ9 k) := by decide +kernel
abbrev cJ9_max_7cf53 : ByteArray := prog_13_method_65_code
def yJ9_max_7cf53 : MethodName := ⟨RJ9, "max", "(II)I"⟩
abbrev cJ9_min_7cf53 : ByteArray := prog_13_method_69_code
def yJ9_min_7cf53 : MethodName := ⟨RJ9, "min", "(II)I"⟩
def RJ0 : String := "java/lang/String"
def TJ0 : u_T := fun k => match k with
  | _ => ("", "", "", false)
def tyJ0 : Nat → FieldType := fun k => match k with
  | _ => .int
abbrev wsJ00 : List Cond := u_ws RJ0 TJ0 0
theorem nmJ0 : ∀ a, a < 0 → ∀ b, b < 0 → a ≠ b → (TJ0 a).2.1 ≠ (TJ0 b).2.1 := by decide +kernel
theorem tyJ0_ok : ∀ k, k < 0 → parseFieldDescriptor (TJ0 k).2.2.1 = some (tyJ0 k) := by decide +kernel
def RL : String := "PaperGuildLaw"
abbrev cL_setNeeds : ByteArray := method_3_code
def yL_setNeeds : MethodName := ⟨RL, "setNeeds", "(LPaperGuild;II[J)I"⟩
abbrev cL_addModel : ByteArray := method_4_code
def yL_addModel : MethodName := ⟨RL, "addModel", "(LPaperGuild;II[J)I"⟩
abbrev cL_fold : ByteArray := method_5_code
def yL_fold : MethodName := ⟨RL, "fold", "(LPaperGuild;IIIZ[J)I"⟩
abbrev cL_unfold : ByteArray := method_6_code
def yL_unfold : MethodName := ⟨RL, "unfold", "(LPaperGuild;I[J)I"⟩
abbrev cL_use : ByteArray := method_7_code
def yL_use : MethodName := ⟨RL, "use", "(LPaperGuild;II[J)I"⟩
abbrev cL_setRoll : ByteArray := method_8_code
def yL_setRoll : MethodName := ⟨RL, "setRoll", "(LPaperGuild;II[J)I"⟩
abbrev cL_teach : ByteArray := method_9_code
def yL_teach : MethodName := ⟨RL, "teach", "(LPaperGuild;II[J)I"⟩
abbrev cL_steps : ByteArray := method_10_code
def yL_steps : MethodName := ⟨RL, "steps", "(LPaperGuild;I[J)I"⟩
abbrev cL_places : ByteArray := method_11_code
def yL_places : MethodName := ⟨RL, "places", "(LPaperGuild;I[J)I"⟩
abbrev cL_layers : ByteArray := method_12_code
def yL_layers : MethodName := ⟨RL, "layers", "(LPaperGuild;I[J)I"⟩
abbrev cL_cellAt : ByteArray := method_13_code
def yL_cellAt : MethodName := ⟨RL, "cellAt", "(LPaperGuild;III[J)I"⟩
abbrev cL_placeOf : ByteArray := method_14_code
def yL_placeOf : MethodName := ⟨RL, "placeOf", "(LPaperGuild;II[J)I"⟩
abbrev cL_isTurned : ByteArray := method_15_code
def yL_isTurned : MethodName := ⟨RL, "isTurned", "(LPaperGuild;II[J)I"⟩
abbrev cL_layersByFollowing : ByteArray := method_16_code
def yL_layersByFollowing : MethodName := ⟨RL, "layersByFollowing", "(LPaperGuild;I[J)I"⟩
abbrev cL_bears : ByteArray := method_17_code
def yL_bears : MethodName := ⟨RL, "bears", "(LPaperGuild;II[J)I"⟩
abbrev cL_kindsOf : ByteArray := method_18_code
def yL_kindsOf : MethodName := ⟨RL, "kindsOf", "(LPaperGuild;I[J)I"⟩
abbrev cL_mayFold : ByteArray := method_19_code
def yL_mayFold : MethodName := ⟨RL, "mayFold", "(LPaperGuild;II[J)I"⟩
abbrev cL_lessons : ByteArray := method_20_code
def yL_lessons : MethodName := ⟨RL, "lessons", "(LPaperGuild;II[J)I"⟩
abbrev cL_credit : ByteArray := method_21_code
def yL_credit : MethodName := ⟨RL, "credit", "(LPaperGuild;I[J)I"⟩
abbrev cL_law : ByteArray := code
def yL_law : MethodName := ⟨RL, "law", "([I)Z"⟩
def wsX0_init : List Cond := .code yX0_init cX0_init 1 none :: ([.methodLink RX0 1 objectInit, .instanceMethod objectInit, .code objectInit ⟨#[0xb1]⟩ 1 none, .fieldLink RX0 7 "PaperGuild$Follower" "place" "I", .fieldLink RX0 13 "PaperGuild$Follower" "turned" "Z", .fieldLink RX0 17 "PaperGuild$Follower" "span" "I"] ++ wsX00)
def wsX0_takeStep : List Cond := .code yX0_takeStep cX0_takeStep 5 none :: ([.fieldLink RX0 7 "PaperGuild$Follower" "place" "I", .fieldLink RX0 13 "PaperGuild$Follower" "turned" "Z", .fieldLink RX0 17 "PaperGuild$Follower" "span" "I", .methodLink RX0 40 Lib.Math.min.name, .static Lib.Math.min.name, .initialized "java/lang/Math", .code Lib.Math.min.name Lib.Math.min.code 2 (some .int), .methodLink RX0 46 Lib.Math.max.name, .static Lib.Math.max.name, .code Lib.Math.max.name Lib.Math.max.code 2 (some .int)] ++ wsX00)
def wsX0_follow : List Cond := .code yX0_follow cX0_follow 4 none :: ([.fieldLink RX0 7 "PaperGuild$Follower" "place" "I", .fieldLink RX0 13 "PaperGuild$Follower" "turned" "Z", .fieldLink RX0 20 "PaperGuild$Model" "length" "I", .fieldLink RX0 17 "PaperGuild$Follower" "span" "I", .fieldLink RX0 25 "PaperGuild$Model" "stepCount" "I", .fieldLink RX0 28 "PaperGuild$Model" "stepPlaces" "[I", .fieldLink RX0 32 "PaperGuild$Model" "stepsFromLeft" "[Z", .methodLink RX0 36 yX0_takeStep, .instanceMethod yX0_takeStep, .selects RX0 yX0_takeStep yX0_takeStep, .initialized RX0, .code yX0_takeStep cX0_takeStep 5 none, .methodLink RX0 40 Lib.Math.min.name, .static Lib.Math.min.name, .initialized "java/lang/Math", .code Lib.Math.min.name Lib.Math.min.code 2 (some .int), .methodLink RX0 46 Lib.Math.max.name, .static Lib.Math.max.name, .code Lib.Math.max.name Lib.Math.max.code 2 (some .int)] ++ wsX00 ++ wsX20)
def wsX1_init : List Cond := .code yX1_init cX1_init 1 none :: ([.methodLink RX1 3 objectInit, .instanceMethod objectInit, .code objectInit ⟨#[0xb1]⟩ 1 none, .fieldLink RX1 9 "PaperGuild$Mill" "rollLength" "I", .fieldLink RX1 15 "PaperGuild$Mill" "demanded" "I", .arrayClass .int, .fieldLink RX1 18 "PaperGuild$Mill" "fewest" "[I", .fieldLink RX1 22 "PaperGuild$Mill" "waysTo" "[I"] ++ wsX10)
def wsX4_holds : List Cond := .code yX4_holds cX4_holds 2 (some .boolean) :: ([])
def wsX1_isDemanded : List Cond := .code yX1_isDemanded cX1_isDemanded 2 (some .boolean) :: ([.fieldLink RX1 15 "PaperGuild$Mill" "demanded" "I", .static yX4_holds, .initialized RX4, .code yX4_holds cX4_holds 2 (some .boolean)] ++ wsX10)
def wsX1_fewestFor : List Cond := .code yX1_fewestFor cX1_fewestFor 5 (some .int) :: ([.fieldLink RX1 18 "PaperGuild$Mill" "fewest" "[I", .methodLink RX1 28 yX1_isDemanded, .instanceMethod yX1_isDemanded, .selects RX1 yX1_isDemanded yX1_isDemanded, .initialized RX1, .code yX1_isDemanded cX1_isDemanded 2 (some .boolean), .fieldLink RX1 15 "PaperGuild$Mill" "demanded" "I", .static yX4_holds, .initialized RX4, .code yX4_holds cX4_holds 2 (some .boolean)] ++ wsX10)
def wsX1_fillFewest : List Cond := .code yX1_fillFewest cX1_fillFewest 2 none :: ([.fieldLink RX1 18 "PaperGuild$Mill" "fewest" "[I", .fieldLink RX1 9 "PaperGuild$Mill" "rollLength" "I", .methodLink RX1 37 yX1_fewestFor, .instanceMethod yX1_fewestFor, .selects RX1 yX1_fewestFor yX1_fewestFor, .initialized RX1, .code yX1_fewestFor cX1_fewestFor 5 (some .int), .methodLink RX1 28 yX1_isDemanded, .instanceMethod yX1_isDemanded, .selects RX1 yX1_isDemanded yX1_isDemanded, .code yX1_isDemanded cX1_isDemanded 2 (some .boolean), .fieldLink RX1 15 "PaperGuild$Mill" "demanded" "I", .static yX4_holds, .initialized RX4, .code yX4_holds cX4_holds 2 (some .boolean)] ++ wsX10)
def wsX1_fewestForRoll : List Cond := .code yX1_fewestForRoll cX1_fewestForRoll 1 (some .int) :: ([.fieldLink RX1 18 "PaperGuild$Mill" "fewest" "[I", .fieldLink RX1 9 "PaperGuild$Mill" "rollLength" "I", .methodLink RX1 25 yX1_fillFewest, .instanceMethod yX1_fillFewest, .selects RX1 yX1_fillFewest yX1_fillFewest, .initialized RX1, .code yX1_fillFewest cX1_fillFewest 2 none, .methodLink RX1 37 yX1_fewestFor, .instanceMethod yX1_fewestFor, .selects RX1 yX1_fewestFor yX1_fewestFor, .code yX1_fewestFor cX1_fewestFor 5 (some .int), .methodLink RX1 28 yX1_isDemanded, .instanceMethod yX1_isDemanded, .selects RX1 yX1_isDemanded yX1_isDemanded, .code yX1_isDemanded cX1_isDemanded 2 (some .boolean), .fieldLink RX1 15 "PaperGuild$Mill" "demanded" "I", .static yX4_holds, .initialized RX4, .code yX4_holds cX4_holds 2 (some .boolean)] ++ wsX10)
def wsX1_restOfRoll : List Cond := .code yX1_restOfRoll cX1_restOfRoll 2 (some .int) :: ([.fieldLink RX1 9 "PaperGuild$Mill" "rollLength" "I", .fieldLink RX1 18 "PaperGuild$Mill" "fewest" "[I", .methodLink RX1 25 yX1_fillFewest, .instanceMethod yX1_fillFewest, .selects RX1 yX1_fillFewest yX1_fillFewest, .initialized RX1, .code yX1_fillFewest cX1_fillFewest 2 none, .methodLink RX1 37 yX1_fewestFor, .instanceMethod yX1_fewestFor, .selects RX1 yX1_fewestFor yX1_fewestFor, .code yX1_fewestFor cX1_fewestFor 5 (some .int), .methodLink RX1 28 yX1_isDemanded, .instanceMethod yX1_isDemanded, .selects RX1 yX1_isDemanded yX1_isDemanded, .code yX1_isDemanded cX1_isDemanded 2 (some .boolean), .fieldLink RX1 15 "PaperGuild$Mill" "demanded" "I", .static yX4_holds, .initialized RX4, .code yX4_holds cX4_holds 2 (some .boolean)] ++ wsX10)
def wsX1_addWaysWith : List Cond := .code yX1_addWaysWith cX1_addWaysWith 3 none :: ([.fieldLink RX1 9 "PaperGuild$Mill" "rollLength" "I", .fieldLink RX1 22 "PaperGuild$Mill" "waysTo" "[I", .constant RX1 36 (1000007)] ++ wsX10)
def wsX1_waysForRoll : List Cond := .code yX1_waysForRoll cX1_waysForRoll 2 (some .int) :: ([.fieldLink RX1 22 "PaperGuild$Mill" "waysTo" "[I", .fieldLink RX1 9 "PaperGuild$Mill" "rollLength" "I", .methodLink RX1 28 yX1_isDemanded, .instanceMethod yX1_isDemanded, .selects RX1 yX1_isDemanded yX1_isDemanded, .initialized RX1, .code yX1_isDemanded cX1_isDemanded 2 (some .boolean), .fieldLink RX1 15 "PaperGuild$Mill" "demanded" "I", .static yX4_holds, .initialized RX4, .code yX4_holds cX4_holds 2 (some .boolean), .methodLink RX1 32 yX1_addWaysWith, .instanceMethod yX1_addWaysWith, .selects RX1 yX1_addWaysWith yX1_addWaysWith, .code yX1_addWaysWith cX1_addWaysWith 3 none, .constant RX1 36 (1000007)] ++ wsX10)
def wsX3_init : List Cond := .code yX3_init cX3_init 1 none :: ([.methodLink RX3 3 objectInit, .instanceMethod objectInit, .code objectInit ⟨#[0xb1]⟩ 1 none, .arrayClass .int, .fieldLink RX3 9 "PaperGuild$Stacks" "cells" "[I", .fieldLink RX3 15 "PaperGuild$Stacks" "starts" "[I", .fieldLink RX3 18 "PaperGuild$Stacks" "nextCells" "[I", .fieldLink RX3 21 "PaperGuild$Stacks" "nextStarts" "[I", .fieldLink RX3 24 "PaperGuild$Stacks" "filled" "I", .fieldLink RX3 28 "PaperGuild$Stacks" "span" "I"] ++ wsX30)
def wsX3_layFlat : List Cond := .code yX3_layFlat cX3_layFlat 3 none :: ([.methodLink RX3 31 Lib.Math.min.name, .static Lib.Math.min.name, .initialized "java/lang/Math", .code Lib.Math.min.name Lib.Math.min.code 2 (some .int), .methodLink RX3 37 Lib.Math.max.name, .static Lib.Math.max.name, .code Lib.Math.max.name Lib.Math.max.code 2 (some .int), .fieldLink RX3 28 "PaperGuild$Stacks" "span" "I", .fieldLink RX3 9 "PaperGuild$Stacks" "cells" "[I", .fieldLink RX3 15 "PaperGuild$Stacks" "starts" "[I"] ++ wsX30)
def wsX2_init_r1 : List Cond := [Cond.methodLink RX2 3 objectInit, Cond.instanceMethod objectInit, Cond.code objectInit ⟨#[0xb1]⟩ 1 none, Cond.arrayClass .int, Cond.fieldLink RX2 9 "PaperGuild$Model" "stepKinds" "[I", Cond.fieldLink RX2 15 "PaperGuild$Model" "stepPlaces" "[I", Cond.arrayClass .boolean, Cond.fieldLink RX2 18 "PaperGuild$Model" "stepsFromLeft" "[Z", Cond.fieldLink RX2 22 "PaperGuild$Model" "stepCount" "I", Cond.fieldLink RX2 26 "PaperGuild$Model" "author" "I", Cond.fieldLink RX2 29 "PaperGuild$Model" "length" "I", Cond.classLink RX2 32 RX3, Cond.instantiable RX3 6, Cond.initialized RX3, Cond.fieldLink RX2 35 "PaperGuild$Model" "stacks" "LPaperGuild$Stacks;", Cond.instanceMethod yX3_init, Cond.code yX3_init cX3_init 1 none, Cond.methodLink RX3 3 objectInit, Cond.fieldLink RX3 9 "PaperGuild$Stacks" "cells" "[I", Cond.fieldLink RX3 15 "PaperGuild$Stacks" "starts" "[I", Cond.fieldLink RX3 18 "PaperGuild$Stacks" "nextCells" "[I", Cond.fieldLink RX3 21 "PaperGuild$Stacks" "nextStarts" "[I", Cond.fieldLink RX3 24 "PaperGuild$Stacks" "filled" "I", Cond.fieldLink RX3 28 "PaperGuild$Stacks" "span" "I"]
def wsX2_init_r2 : List Cond := [Cond.methodLink RX2 39 yX3_layFlat, Cond.instanceMethod yX3_layFlat, Cond.selects RX3 yX3_layFlat yX3_layFlat, Cond.code yX3_layFlat cX3_layFlat 3 none, Cond.methodLink RX3 31 Lib.Math.min.name, Cond.static Lib.Math.min.name, Cond.initialized "java/lang/Math", Cond.code Lib.Math.min.name Lib.Math.min.code 2 (some .int), Cond.methodLink RX3 37 Lib.Math.max.name, Cond.static Lib.Math.max.name, Cond.code Lib.Math.max.name Lib.Math.max.code 2 (some .int)]
def wsX2_init : List Cond := .code yX2_init cX2_init 3 none :: ((wsX2_init_r1 ++ wsX2_init_r2) ++ wsX20 ++ wsX30)
def wsX2_ownKinds : List Cond := .code yX2_ownKinds cX2_ownKinds 3 (some .int) :: ([.fieldLink RX2 22 "PaperGuild$Model" "stepCount" "I", .fieldLink RX2 9 "PaperGuild$Model" "stepKinds" "[I"] ++ wsX20)
def wsX3_isPlace : List Cond := .code yX3_isPlace cX3_isPlace 2 (some .boolean) :: ([.fieldLink RX3 28 "PaperGuild$Stacks" "span" "I"] ++ wsX30)
def wsX3_heightAt : List Cond := .code yX3_heightAt cX3_heightAt 2 (some .int) :: ([.fieldLink RX3 15 "PaperGuild$Stacks" "starts" "[I", .methodLink RX3 50 yX3_isPlace, .instanceMethod yX3_isPlace, .selects RX3 yX3_isPlace yX3_isPlace, .initialized RX3, .code yX3_isPlace cX3_isPlace 2 (some .boolean), .fieldLink RX3 28 "PaperGuild$Stacks" "span" "I"] ++ wsX30)
def wsX3_cellIn : List Cond := .code yX3_cellIn cX3_cellIn 3 (some .int) :: ([.fieldLink RX3 9 "PaperGuild$Stacks" "cells" "[I", .fieldLink RX3 15 "PaperGuild$Stacks" "starts" "[I", .methodLink RX3 54 yX3_heightAt, .instanceMethod yX3_heightAt, .selects RX3 yX3_heightAt yX3_heightAt, .initialized RX3, .code yX3_heightAt cX3_heightAt 2 (some .int), .methodLink RX3 50 yX3_isPlace, .instanceMethod yX3_isPlace, .selects RX3 yX3_isPlace yX3_isPlace, .code yX3_isPlace cX3_isPlace 2 (some .boolean), .fieldLink RX3 28 "PaperGuild$Stacks" "span" "I"] ++ wsX30)
def wsX3_copyCell : List Cond := .code yX3_copyCell cX3_copyCell 3 none :: ([.fieldLink RX3 24 "PaperGuild$Stacks" "filled" "I", .fieldLink RX3 18 "PaperGuild$Stacks" "nextCells" "[I", .methodLink RX3 62 yX3_cellIn, .instanceMethod yX3_cellIn, .selects RX3 yX3_cellIn yX3_cellIn, .initialized RX3, .code yX3_cellIn cX3_cellIn 3 (some .int), .fieldLink RX3 9 "PaperGuild$Stacks" "cells" "[I", .fieldLink RX3 15 "PaperGuild$Stacks" "starts" "[I", .methodLink RX3 54 yX3_heightAt, .instanceMethod yX3_heightAt, .selects RX3 yX3_heightAt yX3_heightAt, .code yX3_heightAt cX3_heightAt 2 (some .int), .methodLink RX3 50 yX3_isPlace, .instanceMethod yX3_isPlace, .selects RX3 yX3_isPlace yX3_isPlace, .code yX3_isPlace cX3_isPlace 2 (some .boolean), .fieldLink RX3 28 "PaperGuild$Stacks" "span" "I"] ++ wsX30)
def wsX3_copyUpwards : List Cond := .code yX3_copyUpwards cX3_copyUpwards 4 none :: ([.methodLink RX3 54 yX3_heightAt, .instanceMethod yX3_heightAt, .selects RX3 yX3_heightAt yX3_heightAt, .initialized RX3, .code yX3_heightAt cX3_heightAt 2 (some .int), .fieldLink RX3 15 "PaperGuild$Stacks" "starts" "[I", .methodLink RX3 50 yX3_isPlace, .instanceMethod yX3_isPlace, .selects RX3 yX3_isPlace yX3_isPlace, .code yX3_isPlace cX3_isPlace 2 (some .boolean), .fieldLink RX3 28 "PaperGuild$Stacks" "span" "I", .methodLink RX3 58 yX3_copyCell, .instanceMethod yX3_copyCell, .selects RX3 yX3_copyCell yX3_copyCell, .code yX3_copyCell cX3_copyCell 3 none, .fieldLink RX3 24 "PaperGuild$Stacks" "filled" "I", .fieldLink RX3 18 "PaperGuild$Stacks" "nextCells" "[I", .methodLink RX3 62 yX3_cellIn, .instanceMethod yX3_cellIn, .selects RX3 yX3_cellIn yX3_cellIn, .code yX3_cellIn cX3_cellIn 3 (some .int), .fieldLink RX3 9 "PaperGuild$Stacks" "cells" "[I"] ++ wsX30)
def wsX3_copyDownwards : List Cond := .code yX3_copyDownwards cX3_copyDownwards 3 none :: ([.methodLink RX3 54 yX3_heightAt, .instanceMethod yX3_heightAt, .selects RX3 yX3_heightAt yX3_heightAt, .initialized RX3, .code yX3_heightAt cX3_heightAt 2 (some .int), .fieldLink RX3 15 "PaperGuild$Stacks" "starts" "[I", .methodLink RX3 50 yX3_isPlace, .instanceMethod yX3_isPlace, .selects RX3 yX3_isPlace yX3_isPlace, .code yX3_isPlace cX3_isPlace 2 (some .boolean), .fieldLink RX3 28 "PaperGuild$Stacks" "span" "I", .methodLink RX3 58 yX3_copyCell, .instanceMethod yX3_copyCell, .selects RX3 yX3_copyCell yX3_copyCell, .code yX3_copyCell cX3_copyCell 3 none, .fieldLink RX3 24 "PaperGuild$Stacks" "filled" "I", .fieldLink RX3 18 "PaperGuild$Stacks" "nextCells" "[I", .methodLink RX3 62 yX3_cellIn, .instanceMethod yX3_cellIn, .selects RX3 yX3_cellIn yX3_cellIn, .code yX3_cellIn cX3_cellIn 3 (some .int), .fieldLink RX3 9 "PaperGuild$Stacks" "cells" "[I"] ++ wsX30)
def wsX3_swapRows : List Cond := .code yX3_swapRows cX3_swapRows 3 none :: ([.fieldLink RX3 9 "PaperGuild$Stacks" "cells" "[I", .fieldLink RX3 15 "PaperGuild$Stacks" "starts" "[I", .fieldLink RX3 18 "PaperGuild$Stacks" "nextCells" "[I", .fieldLink RX3 21 "PaperGuild$Stacks" "nextStarts" "[I"] ++ wsX30)
def wsX3_turnOver_r1 : List Cond := [Cond.fieldLink RX3 28 "PaperGuild$Stacks" "span" "I", Cond.methodLink RX3 31 Lib.Math.min.name, Cond.static Lib.Math.min.name, Cond.initialized "java/lang/Math", Cond.code Lib.Math.min.name Lib.Math.min.code 2 (some .int), Cond.methodLink RX3 37 Lib.Math.max.name, Cond.static Lib.Math.max.name, Cond.code Lib.Math.max.name Lib.Math.max.code 2 (some .int), Cond.fieldLink RX3 24 "PaperGuild$Stacks" "filled" "I", Cond.fieldLink RX3 21 "PaperGuild$Stacks" "nextStarts" "[I", Cond.methodLink RX3 40 yX3_copyUpwards, Cond.instanceMethod yX3_copyUpwards, Cond.selects RX3 yX3_copyUpwards yX3_copyUpwards, Cond.initialized RX3, Cond.code yX3_copyUpwards cX3_copyUpwards 4 none, Cond.methodLink RX3 54 yX3_heightAt, Cond.instanceMethod yX3_heightAt, Cond.selects RX3 yX3_heightAt yX3_heightAt, Cond.code yX3_heightAt cX3_heightAt 2 (some .int), Cond.fieldLink RX3 15 "PaperGuild$Stacks" "starts" "[I", Cond.methodLink RX3 50 yX3_isPlace, Cond.instanceMethod yX3_isPlace, Cond.selects RX3 yX3_isPlace yX3_isPlace, Cond.code yX3_isPlace cX3_isPlace 2 (some .boolean)]
def wsX3_turnOver_r2 : List Cond := [Cond.methodLink RX3 58 yX3_copyCell, Cond.instanceMethod yX3_copyCell, Cond.selects RX3 yX3_copyCell yX3_copyCell, Cond.code yX3_copyCell cX3_copyCell 3 none, Cond.fieldLink RX3 18 "PaperGuild$Stacks" "nextCells" "[I", Cond.methodLink RX3 62 yX3_cellIn, Cond.instanceMethod yX3_cellIn, Cond.selects RX3 yX3_cellIn yX3_cellIn, Cond.code yX3_cellIn cX3_cellIn 3 (some .int), Cond.fieldLink RX3 9 "PaperGuild$Stacks" "cells" "[I", Cond.methodLink RX3 44 yX3_copyDownwards, Cond.instanceMethod yX3_copyDownwards, Cond.selects RX3 yX3_copyDownwards yX3_copyDownwards, Cond.code yX3_copyDownwards cX3_copyDownwards 3 none, Cond.methodLink RX3 47 yX3_swapRows, Cond.instanceMethod yX3_swapRows, Cond.selects RX3 yX3_swapRows yX3_swapRows, Cond.code yX3_swapRows cX3_swapRows 3 none]
def wsX3_turnOver : List Cond := .code yX3_turnOver cX3_turnOver 7 none :: ((wsX3_turnOver_r1 ++ wsX3_turnOver_r2) ++ wsX30)
def wsX2_addStep_r1 : List Cond := [Cond.fieldLink RX2 22 "PaperGuild$Model" "stepCount" "I", Cond.fieldLink RX2 9 "PaperGuild$Model" "stepKinds" "[I", Cond.fieldLink RX2 15 "PaperGuild$Model" "stepPlaces" "[I", Cond.fieldLink RX2 18 "PaperGuild$Model" "stepsFromLeft" "[Z", Cond.fieldLink RX2 35 "PaperGuild$Model" "stacks" "LPaperGuild$Stacks;", Cond.methodLink RX2 43 yX3_turnOver, Cond.instanceMethod yX3_turnOver, Cond.selects RX3 yX3_turnOver yX3_turnOver, Cond.initialized RX3, Cond.code yX3_turnOver cX3_turnOver 7 none, Cond.fieldLink RX3 28 "PaperGuild$Stacks" "span" "I", Cond.methodLink RX3 31 Lib.Math.min.name, Cond.static Lib.Math.min.name, Cond.initialized "java/lang/Math", Cond.code Lib.Math.min.name Lib.Math.min.code 2 (some .int), Cond.methodLink RX3 37 Lib.Math.max.name, Cond.static Lib.Math.max.name, Cond.code Lib.Math.max.name Lib.Math.max.code 2 (some .int), Cond.fieldLink RX3 24 "PaperGuild$Stacks" "filled" "I", Cond.fieldLink RX3 21 "PaperGuild$Stacks" "nextStarts" "[I", Cond.methodLink RX3 40 yX3_copyUpwards, Cond.instanceMethod yX3_copyUpwards, Cond.selects RX3 yX3_copyUpwards yX3_copyUpwards, Cond.code yX3_copyUpwards cX3_copyUpwards 4 none]
def wsX2_addStep_r2 : List Cond := [Cond.methodLink RX3 54 yX3_heightAt, Cond.instanceMethod yX3_heightAt, Cond.selects RX3 yX3_heightAt yX3_heightAt, Cond.code yX3_heightAt cX3_heightAt 2 (some .int), Cond.fieldLink RX3 15 "PaperGuild$Stacks" "starts" "[I", Cond.methodLink RX3 50 yX3_isPlace, Cond.instanceMethod yX3_isPlace, Cond.selects RX3 yX3_isPlace yX3_isPlace, Cond.code yX3_isPlace cX3_isPlace 2 (some .boolean), Cond.methodLink RX3 58 yX3_copyCell, Cond.instanceMethod yX3_copyCell, Cond.selects RX3 yX3_copyCell yX3_copyCell, Cond.code yX3_copyCell cX3_copyCell 3 none, Cond.fieldLink RX3 18 "PaperGuild$Stacks" "nextCells" "[I", Cond.methodLink RX3 62 yX3_cellIn, Cond.instanceMethod yX3_cellIn, Cond.selects RX3 yX3_cellIn yX3_cellIn, Cond.code yX3_cellIn cX3_cellIn 3 (some .int), Cond.fieldLink RX3 9 "PaperGuild$Stacks" "cells" "[I", Cond.methodLink RX3 44 yX3_copyDownwards, Cond.instanceMethod yX3_copyDownwards, Cond.selects RX3 yX3_copyDownwards yX3_copyDownwards, Cond.code yX3_copyDownwards cX3_copyDownwards 3 none, Cond.methodLink RX3 47 yX3_swapRows]
def wsX2_addStep_r3 : List Cond := [Cond.instanceMethod yX3_swapRows, Cond.selects RX3 yX3_swapRows yX3_swapRows, Cond.code yX3_swapRows cX3_swapRows 3 none]
def wsX2_addStep : List Cond := .code yX2_addStep cX2_addStep 4 none :: ((wsX2_addStep_r1 ++ (wsX2_addStep_r2 ++ wsX2_addStep_r3)) ++ wsX20 ++ wsX30)
def wsX2_removeLastStep_r1 : List Cond := [Cond.fieldLink RX2 22 "PaperGuild$Model" "stepCount" "I", Cond.fieldLink RX2 35 "PaperGuild$Model" "stacks" "LPaperGuild$Stacks;", Cond.fieldLink RX2 29 "PaperGuild$Model" "length" "I", Cond.fieldLink RX2 15 "PaperGuild$Model" "stepPlaces" "[I", Cond.fieldLink RX2 18 "PaperGuild$Model" "stepsFromLeft" "[Z", Cond.fieldLink RX2 9 "PaperGuild$Model" "stepKinds" "[I", Cond.methodLink RX2 39 yX3_layFlat, Cond.instanceMethod yX3_layFlat, Cond.selects RX3 yX3_layFlat yX3_layFlat, Cond.initialized RX3, Cond.code yX3_layFlat cX3_layFlat 3 none, Cond.methodLink RX3 31 Lib.Math.min.name, Cond.static Lib.Math.min.name, Cond.initialized "java/lang/Math", Cond.code Lib.Math.min.name Lib.Math.min.code 2 (some .int), Cond.methodLink RX3 37 Lib.Math.max.name, Cond.static Lib.Math.max.name, Cond.code Lib.Math.max.name Lib.Math.max.code 2 (some .int), Cond.fieldLink RX3 28 "PaperGuild$Stacks" "span" "I", Cond.fieldLink RX3 9 "PaperGuild$Stacks" "cells" "[I", Cond.fieldLink RX3 15 "PaperGuild$Stacks" "starts" "[I", Cond.methodLink RX2 43 yX3_turnOver, Cond.instanceMethod yX3_turnOver, Cond.selects RX3 yX3_turnOver yX3_turnOver]
def wsX2_removeLastStep_r2 : List Cond := [Cond.code yX3_turnOver cX3_turnOver 7 none, Cond.fieldLink RX3 24 "PaperGuild$Stacks" "filled" "I", Cond.fieldLink RX3 21 "PaperGuild$Stacks" "nextStarts" "[I", Cond.methodLink RX3 40 yX3_copyUpwards, Cond.instanceMethod yX3_copyUpwards, Cond.selects RX3 yX3_copyUpwards yX3_copyUpwards, Cond.code yX3_copyUpwards cX3_copyUpwards 4 none, Cond.methodLink RX3 54 yX3_heightAt, Cond.instanceMethod yX3_heightAt, Cond.selects RX3 yX3_heightAt yX3_heightAt, Cond.code yX3_heightAt cX3_heightAt 2 (some .int), Cond.methodLink RX3 50 yX3_isPlace, Cond.instanceMethod yX3_isPlace, Cond.selects RX3 yX3_isPlace yX3_isPlace, Cond.code yX3_isPlace cX3_isPlace 2 (some .boolean), Cond.methodLink RX3 58 yX3_copyCell, Cond.instanceMethod yX3_copyCell, Cond.selects RX3 yX3_copyCell yX3_copyCell, Cond.code yX3_copyCell cX3_copyCell 3 none, Cond.fieldLink RX3 18 "PaperGuild$Stacks" "nextCells" "[I", Cond.methodLink RX3 62 yX3_cellIn, Cond.instanceMethod yX3_cellIn, Cond.selects RX3 yX3_cellIn yX3_cellIn, Cond.code yX3_cellIn cX3_cellIn 3 (some .int)]
def wsX2_removeLastStep_r3 : List Cond := [Cond.methodLink RX3 44 yX3_copyDownwards, Cond.instanceMethod yX3_copyDownwards, Cond.selects RX3 yX3_copyDownwards yX3_copyDownwards, Cond.code yX3_copyDownwards cX3_copyDownwards 3 none, Cond.methodLink RX3 47 yX3_swapRows, Cond.instanceMethod yX3_swapRows, Cond.selects RX3 yX3_swapRows yX3_swapRows, Cond.code yX3_swapRows cX3_swapRows 3 none]
def wsX2_removeLastStep : List Cond := .code yX2_removeLastStep cX2_removeLastStep 2 (some .int) :: ((wsX2_removeLastStep_r1 ++ (wsX2_removeLastStep_r2 ++ wsX2_removeLastStep_r3)) ++ wsX20 ++ wsX30)
def wsX3_greatestHeight : List Cond := .code yX3_greatestHeight cX3_greatestHeight 3 (some .int) :: ([.fieldLink RX3 28 "PaperGuild$Stacks" "span" "I", .methodLink RX3 37 Lib.Math.max.name, .static Lib.Math.max.name, .initialized "java/lang/Math", .code Lib.Math.max.name Lib.Math.max.code 2 (some .int), .methodLink RX3 54 yX3_heightAt, .instanceMethod yX3_heightAt, .selects RX3 yX3_heightAt yX3_heightAt, .initialized RX3, .code yX3_heightAt cX3_heightAt 2 (some .int), .fieldLink RX3 15 "PaperGuild$Stacks" "starts" "[I", .methodLink RX3 50 yX3_isPlace, .instanceMethod yX3_isPlace, .selects RX3 yX3_isPlace yX3_isPlace, .code yX3_isPlace cX3_isPlace 2 (some .boolean)] ++ wsX30)
def wsX4_init_r1 : List Cond := [Cond.methodLink RX4 1 objectInit, Cond.instanceMethod objectInit, Cond.code objectInit ⟨#[0xb1]⟩ 1 none, Cond.arrayClass .int, Cond.fieldLink RX4 9 "PaperGuild" "needed" "[I", Cond.fieldLink RX4 13 "PaperGuild" "known" "[I", Cond.classLink RX4 16 RX2, Cond.fieldLink RX4 18 "PaperGuild" "guildModels" "[LPaperGuild$Model;", Cond.fieldLink RX4 22 "PaperGuild" "used" "[I", Cond.fieldLink RX4 25 "PaperGuild" "modelCount" "I", Cond.classLink RX4 29 RX0, Cond.instantiable RX0 3, Cond.initialized RX0, Cond.fieldLink RX4 32 "PaperGuild" "follower" "LPaperGuild$Follower;", Cond.fieldLink RX4 36 "PaperGuild" "followedHeights" "[I", Cond.classLink RX4 39 RX1, Cond.instantiable RX1 4, Cond.initialized RX1, Cond.fieldLink RX4 42 "PaperGuild" "mill" "LPaperGuild$Mill;", Cond.instanceMethod yX0_init, Cond.code yX0_init cX0_init 1 none, Cond.methodLink RX0 1 objectInit, Cond.fieldLink RX0 7 "PaperGuild$Follower" "place" "I", Cond.fieldLink RX0 13 "PaperGuild$Follower" "turned" "Z"]
def wsX4_init_r2 : List Cond := [Cond.fieldLink RX0 17 "PaperGuild$Follower" "span" "I", Cond.instanceMethod yX1_init, Cond.code yX1_init cX1_init 1 none, Cond.methodLink RX1 3 objectInit, Cond.fieldLink RX1 9 "PaperGuild$Mill" "rollLength" "I", Cond.fieldLink RX1 15 "PaperGuild$Mill" "demanded" "I", Cond.fieldLink RX1 18 "PaperGuild$Mill" "fewest" "[I", Cond.fieldLink RX1 22 "PaperGuild$Mill" "waysTo" "[I"]
def wsX4_init : List Cond := .code yX4_init cX4_init 1 none :: ((wsX4_init_r1 ++ wsX4_init_r2) ++ wsX40 ++ wsX00 ++ wsX10)
def wsX4_checkKind : List Cond := .code yX4_checkKind cX4_checkKind 2 none :: ([.classLink RX4 149 "java/lang/IndexOutOfBoundsException", .initialized "java/lang/IndexOutOfBoundsException"] ++ (vx_atS RX4 153 "java/lang/IndexOutOfBoundsException" ["java/lang/RuntimeException", "java/lang/Exception"]).filter goodWord)
def wsX4_reached : List Cond := .code yX4_reached cX4_reached 6 (some .int) :: ([.methodLink RX4 61 yX4_holds, .static yX4_holds, .initialized RX4, .code yX4_holds cX4_holds 2 (some .boolean)])
def wsX4_setNeeds : List Cond := .code yX4_setNeeds cX4_setNeeds 4 (some .int) :: ([.classLink RX4 50 "java/lang/IllegalArgumentException", .initialized "java/lang/IllegalArgumentException", .fieldLink RX4 9 "PaperGuild" "needed" "[I", .methodLink RX4 46 yX4_checkKind, .instanceMethod yX4_checkKind, .selects RX4 yX4_checkKind yX4_checkKind, .initialized RX4, .code yX4_checkKind cX4_checkKind 2 none, .classLink RX4 149 "java/lang/IndexOutOfBoundsException", .initialized "java/lang/IndexOutOfBoundsException", .methodLink RX4 57 yX4_reached, .static yX4_reached, .code yX4_reached cX4_reached 6 (some .int), .methodLink RX4 61 yX4_holds, .static yX4_holds, .code yX4_holds cX4_holds 2 (some .boolean)] ++ wsX40 ++ (vx_atS RX4 54 "java/lang/IllegalArgumentException" ["java/lang/RuntimeException", "java/lang/Exception"]).filter goodWord ++ (vx_atS RX4 153 "java/lang/IndexOutOfBoundsException" ["java/lang/RuntimeException", "java/lang/Exception"]).filter goodWord)
def wsX4_checkAuthor : List Cond := .code yX4_checkAuthor cX4_checkAuthor 2 none :: ([.classLink RX4 149 "java/lang/IndexOutOfBoundsException", .initialized "java/lang/IndexOutOfBoundsException"] ++ (vx_atS RX4 153 "java/lang/IndexOutOfBoundsException" ["java/lang/RuntimeException", "java/lang/Exception"]).filter goodWord)
def wsX4_addModel_r1 : List Cond := [Cond.classLink RX4 50 "java/lang/IllegalArgumentException", Cond.initialized "java/lang/IllegalArgumentException", Cond.classLink RX4 72 "java/lang/IllegalStateException", Cond.initialized "java/lang/IllegalStateException", Cond.fieldLink RX4 25 "PaperGuild" "modelCount" "I", Cond.fieldLink RX4 18 "PaperGuild" "guildModels" "[LPaperGuild$Model;", Cond.classLink RX4 16 RX2, Cond.instantiable RX2 7, Cond.initialized RX2, Cond.methodLink RX4 67 yX4_checkAuthor, Cond.instanceMethod yX4_checkAuthor, Cond.selects RX4 yX4_checkAuthor yX4_checkAuthor, Cond.initialized RX4, Cond.code yX4_checkAuthor cX4_checkAuthor 2 none, Cond.classLink RX4 149 "java/lang/IndexOutOfBoundsException", Cond.initialized "java/lang/IndexOutOfBoundsException", Cond.methodLink RX4 77 yX2_init, Cond.instanceMethod yX2_init, Cond.code yX2_init cX2_init 3 none, Cond.methodLink RX2 3 objectInit, Cond.instanceMethod objectInit, Cond.code objectInit ⟨#[0xb1]⟩ 1 none, Cond.arrayClass .int, Cond.fieldLink RX2 9 "PaperGuild$Model" "stepKinds" "[I"]
def wsX4_addModel_r2 : List Cond := [Cond.fieldLink RX2 15 "PaperGuild$Model" "stepPlaces" "[I", Cond.arrayClass .boolean, Cond.fieldLink RX2 18 "PaperGuild$Model" "stepsFromLeft" "[Z", Cond.fieldLink RX2 22 "PaperGuild$Model" "stepCount" "I", Cond.fieldLink RX2 26 "PaperGuild$Model" "author" "I", Cond.fieldLink RX2 29 "PaperGuild$Model" "length" "I", Cond.classLink RX2 32 RX3, Cond.instantiable RX3 6, Cond.initialized RX3, Cond.fieldLink RX2 35 "PaperGuild$Model" "stacks" "LPaperGuild$Stacks;", Cond.instanceMethod yX3_init, Cond.code yX3_init cX3_init 1 none, Cond.methodLink RX3 3 objectInit, Cond.fieldLink RX3 9 "PaperGuild$Stacks" "cells" "[I", Cond.fieldLink RX3 15 "PaperGuild$Stacks" "starts" "[I", Cond.fieldLink RX3 18 "PaperGuild$Stacks" "nextCells" "[I", Cond.fieldLink RX3 21 "PaperGuild$Stacks" "nextStarts" "[I", Cond.fieldLink RX3 24 "PaperGuild$Stacks" "filled" "I", Cond.fieldLink RX3 28 "PaperGuild$Stacks" "span" "I", Cond.methodLink RX2 39 yX3_layFlat, Cond.instanceMethod yX3_layFlat, Cond.selects RX3 yX3_layFlat yX3_layFlat, Cond.code yX3_layFlat cX3_layFlat 3 none, Cond.methodLink RX3 31 Lib.Math.min.name]
def wsX4_addModel_r3 : List Cond := [Cond.static Lib.Math.min.name, Cond.initialized "java/lang/Math", Cond.code Lib.Math.min.name Lib.Math.min.code 2 (some .int), Cond.methodLink RX3 37 Lib.Math.max.name, Cond.static Lib.Math.max.name, Cond.code Lib.Math.max.name Lib.Math.max.code 2 (some .int)]
def wsX4_addModel : List Cond := .code yX4_addModel cX4_addModel 3 (some .int) :: ((wsX4_addModel_r1 ++ (wsX4_addModel_r2 ++ wsX4_addModel_r3)) ++ wsX40 ++ wsX20 ++ wsX30 ++ (vx_atS RX4 54 "java/lang/IllegalArgumentException" ["java/lang/RuntimeException", "java/lang/Exception"]).filter goodWord ++ (vx_atS RX4 76 "java/lang/IllegalStateException" ["java/lang/RuntimeException", "java/lang/Exception"]).filter goodWord ++ (vx_atS RX4 153 "java/lang/IndexOutOfBoundsException" ["java/lang/RuntimeException", "java/lang/Exception"]).filter goodWord)
def wsX4_checkModel : List Cond := .code yX4_checkModel cX4_checkModel 2 none :: ([.classLink RX4 149 "java/lang/IndexOutOfBoundsException", .initialized "java/lang/IndexOutOfBoundsException", .fieldLink RX4 25 "PaperGuild" "modelCount" "I"] ++ wsX40 ++ (vx_atS RX4 153 "java/lang/IndexOutOfBoundsException" ["java/lang/RuntimeException", "java/lang/Exception"]).filter goodWord)
def wsX4_modelAt : List Cond := .code yX4_modelAt cX4_modelAt 3 (some (.object "PaperGuild$Model")) :: ([.classLink RX4 149 "java/lang/IndexOutOfBoundsException", .initialized "java/lang/IndexOutOfBoundsException", .fieldLink RX4 18 "PaperGuild" "guildModels" "[LPaperGuild$Model;", .methodLink RX4 118 yX4_checkModel, .instanceMethod yX4_checkModel, .selects RX4 yX4_checkModel yX4_checkModel, .initialized RX4, .code yX4_checkModel cX4_checkModel 2 none, .fieldLink RX4 25 "PaperGuild" "modelCount" "I"] ++ wsX40 ++ (vx_atS RX4 153 "java/lang/IndexOutOfBoundsException" ["java/lang/RuntimeException", "java/lang/Exception"]).filter goodWord)
def wsX4_lacksAny : List Cond := .code yX4_lacksAny cX4_lacksAny 2 (some .boolean) :: ([])
def wsX4_fold_r1 : List Cond := [Cond.classLink RX4 50 "java/lang/IllegalArgumentException", Cond.initialized "java/lang/IllegalArgumentException", Cond.classLink RX4 72 "java/lang/IllegalStateException", Cond.initialized "java/lang/IllegalStateException", Cond.fieldLink RX4 84 "PaperGuild$Model" "stacks" "LPaperGuild$Stacks;", Cond.fieldLink RX4 88 "PaperGuild$Stacks" "span" "I", Cond.fieldLink RX4 95 "PaperGuild$Model" "stepCount" "I", Cond.fieldLink RX4 9 "PaperGuild" "needed" "[I", Cond.methodLink RX4 80 yX4_modelAt, Cond.instanceMethod yX4_modelAt, Cond.selects RX4 yX4_modelAt yX4_modelAt, Cond.initialized RX4, Cond.code yX4_modelAt cX4_modelAt 3 (some (.object "PaperGuild$Model")), Cond.classLink RX4 149 "java/lang/IndexOutOfBoundsException", Cond.initialized "java/lang/IndexOutOfBoundsException", Cond.fieldLink RX4 18 "PaperGuild" "guildModels" "[LPaperGuild$Model;", Cond.methodLink RX4 118 yX4_checkModel, Cond.instanceMethod yX4_checkModel, Cond.selects RX4 yX4_checkModel yX4_checkModel, Cond.code yX4_checkModel cX4_checkModel 2 none, Cond.fieldLink RX4 25 "PaperGuild" "modelCount" "I", Cond.methodLink RX4 46 yX4_checkKind, Cond.instanceMethod yX4_checkKind, Cond.selects RX4 yX4_checkKind yX4_checkKind]
def wsX4_fold_r2 : List Cond := [Cond.code yX4_checkKind cX4_checkKind 2 none, Cond.methodLink RX4 100 yX2_ownKinds, Cond.instanceMethod yX2_ownKinds, Cond.selects RX2 yX2_ownKinds yX2_ownKinds, Cond.initialized RX2, Cond.code yX2_ownKinds cX2_ownKinds 3 (some .int), Cond.fieldLink RX2 22 "PaperGuild$Model" "stepCount" "I", Cond.fieldLink RX2 9 "PaperGuild$Model" "stepKinds" "[I", Cond.methodLink RX4 104 yX4_lacksAny, Cond.static yX4_lacksAny, Cond.code yX4_lacksAny cX4_lacksAny 2 (some .boolean), Cond.methodLink RX4 109 yX2_addStep, Cond.instanceMethod yX2_addStep, Cond.selects RX2 yX2_addStep yX2_addStep, Cond.code yX2_addStep cX2_addStep 4 none, Cond.fieldLink RX2 15 "PaperGuild$Model" "stepPlaces" "[I", Cond.fieldLink RX2 18 "PaperGuild$Model" "stepsFromLeft" "[Z", Cond.fieldLink RX2 35 "PaperGuild$Model" "stacks" "LPaperGuild$Stacks;", Cond.methodLink RX2 43 yX3_turnOver, Cond.instanceMethod yX3_turnOver, Cond.selects RX3 yX3_turnOver yX3_turnOver, Cond.initialized RX3, Cond.code yX3_turnOver cX3_turnOver 7 none, Cond.fieldLink RX3 28 "PaperGuild$Stacks" "span" "I"]
def wsX4_fold_r3 : List Cond := [Cond.methodLink RX3 31 Lib.Math.min.name, Cond.static Lib.Math.min.name, Cond.initialized "java/lang/Math", Cond.code Lib.Math.min.name Lib.Math.min.code 2 (some .int), Cond.methodLink RX3 37 Lib.Math.max.name, Cond.static Lib.Math.max.name, Cond.code Lib.Math.max.name Lib.Math.max.code 2 (some .int), Cond.fieldLink RX3 24 "PaperGuild$Stacks" "filled" "I", Cond.fieldLink RX3 21 "PaperGuild$Stacks" "nextStarts" "[I", Cond.methodLink RX3 40 yX3_copyUpwards, Cond.instanceMethod yX3_copyUpwards, Cond.selects RX3 yX3_copyUpwards yX3_copyUpwards, Cond.code yX3_copyUpwards cX3_copyUpwards 4 none, Cond.methodLink RX3 54 yX3_heightAt, Cond.instanceMethod yX3_heightAt, Cond.selects RX3 yX3_heightAt yX3_heightAt, Cond.code yX3_heightAt cX3_heightAt 2 (some .int), Cond.fieldLink RX3 15 "PaperGuild$Stacks" "starts" "[I", Cond.methodLink RX3 50 yX3_isPlace, Cond.instanceMethod yX3_isPlace, Cond.selects RX3 yX3_isPlace yX3_isPlace, Cond.code yX3_isPlace cX3_isPlace 2 (some .boolean), Cond.methodLink RX3 58 yX3_copyCell, Cond.instanceMethod yX3_copyCell]
def wsX4_fold_r4 : List Cond := [Cond.selects RX3 yX3_copyCell yX3_copyCell, Cond.code yX3_copyCell cX3_copyCell 3 none, Cond.fieldLink RX3 18 "PaperGuild$Stacks" "nextCells" "[I", Cond.methodLink RX3 62 yX3_cellIn, Cond.instanceMethod yX3_cellIn, Cond.selects RX3 yX3_cellIn yX3_cellIn, Cond.code yX3_cellIn cX3_cellIn 3 (some .int), Cond.fieldLink RX3 9 "PaperGuild$Stacks" "cells" "[I", Cond.methodLink RX3 44 yX3_copyDownwards, Cond.instanceMethod yX3_copyDownwards, Cond.selects RX3 yX3_copyDownwards yX3_copyDownwards, Cond.code yX3_copyDownwards cX3_copyDownwards 3 none, Cond.methodLink RX3 47 yX3_swapRows, Cond.instanceMethod yX3_swapRows, Cond.selects RX3 yX3_swapRows yX3_swapRows, Cond.code yX3_swapRows cX3_swapRows 3 none]
def wsX4_fold : List Cond := .code yX4_fold cX4_fold 6 (some .int) :: ((wsX4_fold_r1 ++ (wsX4_fold_r2 ++ (wsX4_fold_r3 ++ wsX4_fold_r4))) ++ wsX20 ++ wsX30 ++ wsX40 ++ (vx_atS RX4 54 "java/lang/IllegalArgumentException" ["java/lang/RuntimeException", "java/lang/Exception"]).filter goodWord ++ (vx_atS RX4 76 "java/lang/IllegalStateException" ["java/lang/RuntimeException", "java/lang/Exception"]).filter goodWord ++ (vx_atS RX4 153 "java/lang/IndexOutOfBoundsException" ["java/lang/RuntimeException", "java/lang/Exception"]).filter goodWord)
def wsX4_unfold_r1 : List Cond := [Cond.classLink RX4 72 "java/lang/IllegalStateException", Cond.initialized "java/lang/IllegalStateException", Cond.fieldLink RX4 95 "PaperGuild$Model" "stepCount" "I", Cond.methodLink RX4 80 yX4_modelAt, Cond.instanceMethod yX4_modelAt, Cond.selects RX4 yX4_modelAt yX4_modelAt, Cond.initialized RX4, Cond.code yX4_modelAt cX4_modelAt 3 (some (.object "PaperGuild$Model")), Cond.classLink RX4 149 "java/lang/IndexOutOfBoundsException", Cond.initialized "java/lang/IndexOutOfBoundsException", Cond.fieldLink RX4 18 "PaperGuild" "guildModels" "[LPaperGuild$Model;", Cond.methodLink RX4 118 yX4_checkModel, Cond.instanceMethod yX4_checkModel, Cond.selects RX4 yX4_checkModel yX4_checkModel, Cond.code yX4_checkModel cX4_checkModel 2 none, Cond.fieldLink RX4 25 "PaperGuild" "modelCount" "I", Cond.methodLink RX4 115 yX2_removeLastStep, Cond.instanceMethod yX2_removeLastStep, Cond.selects RX2 yX2_removeLastStep yX2_removeLastStep, Cond.initialized RX2, Cond.code yX2_removeLastStep cX2_removeLastStep 2 (some .int), Cond.fieldLink RX2 22 "PaperGuild$Model" "stepCount" "I", Cond.fieldLink RX2 35 "PaperGuild$Model" "stacks" "LPaperGuild$Stacks;", Cond.fieldLink RX2 29 "PaperGuild$Model" "length" "I"]
def wsX4_unfold_r2 : List Cond := [Cond.fieldLink RX2 15 "PaperGuild$Model" "stepPlaces" "[I", Cond.fieldLink RX2 18 "PaperGuild$Model" "stepsFromLeft" "[Z", Cond.fieldLink RX2 9 "PaperGuild$Model" "stepKinds" "[I", Cond.methodLink RX2 39 yX3_layFlat, Cond.instanceMethod yX3_layFlat, Cond.selects RX3 yX3_layFlat yX3_layFlat, Cond.initialized RX3, Cond.code yX3_layFlat cX3_layFlat 3 none, Cond.methodLink RX3 31 Lib.Math.min.name, Cond.static Lib.Math.min.name, Cond.initialized "java/lang/Math", Cond.code Lib.Math.min.name Lib.Math.min.code 2 (some .int), Cond.methodLink RX3 37 Lib.Math.max.name, Cond.static Lib.Math.max.name, Cond.code Lib.Math.max.name Lib.Math.max.code 2 (some .int), Cond.fieldLink RX3 28 "PaperGuild$Stacks" "span" "I", Cond.fieldLink RX3 9 "PaperGuild$Stacks" "cells" "[I", Cond.fieldLink RX3 15 "PaperGuild$Stacks" "starts" "[I", Cond.methodLink RX2 43 yX3_turnOver, Cond.instanceMethod yX3_turnOver, Cond.selects RX3 yX3_turnOver yX3_turnOver, Cond.code yX3_turnOver cX3_turnOver 7 none, Cond.fieldLink RX3 24 "PaperGuild$Stacks" "filled" "I", Cond.fieldLink RX3 21 "PaperGuild$Stacks" "nextStarts" "[I"]
def wsX4_unfold_r3 : List Cond := [Cond.methodLink RX3 40 yX3_copyUpwards, Cond.instanceMethod yX3_copyUpwards, Cond.selects RX3 yX3_copyUpwards yX3_copyUpwards, Cond.code yX3_copyUpwards cX3_copyUpwards 4 none, Cond.methodLink RX3 54 yX3_heightAt, Cond.instanceMethod yX3_heightAt, Cond.selects RX3 yX3_heightAt yX3_heightAt, Cond.code yX3_heightAt cX3_heightAt 2 (some .int), Cond.methodLink RX3 50 yX3_isPlace, Cond.instanceMethod yX3_isPlace, Cond.selects RX3 yX3_isPlace yX3_isPlace, Cond.code yX3_isPlace cX3_isPlace 2 (some .boolean), Cond.methodLink RX3 58 yX3_copyCell, Cond.instanceMethod yX3_copyCell, Cond.selects RX3 yX3_copyCell yX3_copyCell, Cond.code yX3_copyCell cX3_copyCell 3 none, Cond.fieldLink RX3 18 "PaperGuild$Stacks" "nextCells" "[I", Cond.methodLink RX3 62 yX3_cellIn, Cond.instanceMethod yX3_cellIn, Cond.selects RX3 yX3_cellIn yX3_cellIn, Cond.code yX3_cellIn cX3_cellIn 3 (some .int), Cond.methodLink RX3 44 yX3_copyDownwards, Cond.instanceMethod yX3_copyDownwards, Cond.selects RX3 yX3_copyDownwards yX3_copyDownwards]
def wsX4_unfold_r4 : List Cond := [Cond.code yX3_copyDownwards cX3_copyDownwards 3 none, Cond.methodLink RX3 47 yX3_swapRows, Cond.instanceMethod yX3_swapRows, Cond.selects RX3 yX3_swapRows yX3_swapRows, Cond.code yX3_swapRows cX3_swapRows 3 none]
def wsX4_unfold : List Cond := .code yX4_unfold cX4_unfold 3 (some .int) :: ((wsX4_unfold_r1 ++ (wsX4_unfold_r2 ++ (wsX4_unfold_r3 ++ wsX4_unfold_r4))) ++ wsX20 ++ wsX40 ++ wsX30 ++ (vx_atS RX4 76 "java/lang/IllegalStateException" ["java/lang/RuntimeException", "java/lang/Exception"]).filter goodWord ++ (vx_atS RX4 153 "java/lang/IndexOutOfBoundsException" ["java/lang/RuntimeException", "java/lang/Exception"]).filter goodWord)
def wsX4_modelsCountedFor : List Cond := .code yX4_modelsCountedFor cX4_modelsCountedFor 2 (some .int) :: ([.fieldLink RX4 22 "PaperGuild" "used" "[I", .methodLink RX4 57 yX4_reached, .static yX4_reached, .initialized RX4, .code yX4_reached cX4_reached 6 (some .int), .methodLink RX4 61 yX4_holds, .static yX4_holds, .code yX4_holds cX4_holds 2 (some .boolean)] ++ wsX40)
def wsX4_use : List Cond := .code yX4_use cX4_use 4 (some .boolean) :: ([.classLink RX4 50 "java/lang/IllegalArgumentException", .initialized "java/lang/IllegalArgumentException", .fieldLink RX4 22 "PaperGuild" "used" "[I", .methodLink RX4 118 yX4_checkModel, .instanceMethod yX4_checkModel, .selects RX4 yX4_checkModel yX4_checkModel, .initialized RX4, .code yX4_checkModel cX4_checkModel 2 none, .classLink RX4 149 "java/lang/IndexOutOfBoundsException", .initialized "java/lang/IndexOutOfBoundsException", .fieldLink RX4 25 "PaperGuild" "modelCount" "I", .methodLink RX4 121 yX4_modelsCountedFor, .instanceMethod yX4_modelsCountedFor, .selects RX4 yX4_modelsCountedFor yX4_modelsCountedFor, .code yX4_modelsCountedFor cX4_modelsCountedFor 2 (some .int), .methodLink RX4 57 yX4_reached, .static yX4_reached, .code yX4_reached cX4_reached 6 (some .int), .methodLink RX4 61 yX4_holds, .static yX4_holds, .code yX4_holds cX4_holds 2 (some .boolean)] ++ wsX40 ++ (vx_atS RX4 54 "java/lang/IllegalArgumentException" ["java/lang/RuntimeException", "java/lang/Exception"]).filter goodWord ++ (vx_atS RX4 153 "java/lang/IndexOutOfBoundsException" ["java/lang/RuntimeException", "java/lang/Exception"]).filter goodWord)
def wsX4_setRoll : List Cond := .code yX4_setRoll cX4_setRoll 4 (some .int) :: ([.classLink RX4 50 "java/lang/IllegalArgumentException", .initialized "java/lang/IllegalArgumentException", .constant RX4 127 (1048575), .fieldLink RX4 42 "PaperGuild" "mill" "LPaperGuild$Mill;", .fieldLink RX4 130 "PaperGuild$Mill" "rollLength" "I", .fieldLink RX4 133 "PaperGuild$Mill" "demanded" "I"] ++ wsX40 ++ wsX10 ++ (vx_atS RX4 54 "java/lang/IllegalArgumentException" ["java/lang/RuntimeException", "java/lang/Exception"]).filter goodWord)
def wsX4_checkPupil : List Cond := .code yX4_checkPupil cX4_checkPupil 2 none :: ([.classLink RX4 149 "java/lang/IndexOutOfBoundsException", .initialized "java/lang/IndexOutOfBoundsException"] ++ (vx_atS RX4 153 "java/lang/IndexOutOfBoundsException" ["java/lang/RuntimeException", "java/lang/Exception"]).filter goodWord)
def wsJ6_bitCount_0f7a4 : List Cond := .code yJ6_bitCount_0f7a4 cJ6_bitCount_0f7a4 1 (some .int) :: ([.constant RJ6 265 (1431655765), .constant RJ6 266 (858993459), .constant RJ6 267 (252645135)])
def wsX4_teach_r1 : List Cond := [Cond.classLink RX4 72 "java/lang/IllegalStateException", Cond.initialized "java/lang/IllegalStateException", Cond.fieldLink RX4 13 "PaperGuild" "known" "[I", Cond.fieldLink RX4 9 "PaperGuild" "needed" "[I", Cond.methodLink RX4 136 yX4_checkPupil, Cond.instanceMethod yX4_checkPupil, Cond.selects RX4 yX4_checkPupil yX4_checkPupil, Cond.initialized RX4, Cond.code yX4_checkPupil cX4_checkPupil 2 none, Cond.classLink RX4 149 "java/lang/IndexOutOfBoundsException", Cond.initialized "java/lang/IndexOutOfBoundsException", Cond.methodLink RX4 46 yX4_checkKind, Cond.instanceMethod yX4_checkKind, Cond.selects RX4 yX4_checkKind yX4_checkKind, Cond.code yX4_checkKind cX4_checkKind 2 none, Cond.methodLink RX4 104 yX4_lacksAny, Cond.static yX4_lacksAny, Cond.code yX4_lacksAny cX4_lacksAny 2 (some .boolean), Cond.methodLink RX4 141 yJ6_bitCount_0f7a4, Cond.static yJ6_bitCount_0f7a4, Cond.initialized RJ6, Cond.code yJ6_bitCount_0f7a4 cJ6_bitCount_0f7a4 1 (some .int), Cond.constant RJ6 265 (1431655765), Cond.constant RJ6 266 (858993459)]
def wsX4_teach_r2 : List Cond := [Cond.constant RJ6 267 (252645135)]
def wsX4_teach : List Cond := .code yX4_teach cX4_teach 3 (some .int) :: ((wsX4_teach_r1 ++ wsX4_teach_r2) ++ wsX40 ++ (vx_atS RX4 76 "java/lang/IllegalStateException" ["java/lang/RuntimeException", "java/lang/Exception"]).filter goodWord ++ (vx_atS RX4 153 "java/lang/IndexOutOfBoundsException" ["java/lang/RuntimeException", "java/lang/Exception"]).filter goodWord)
def wsX4_models : List Cond := .code yX4_models cX4_models 1 (some .int) :: ([.fieldLink RX4 25 "PaperGuild" "modelCount" "I"] ++ wsX40)
def wsX4_steps : List Cond := .code yX4_steps cX4_steps 2 (some .int) :: ([.fieldLink RX4 95 "PaperGuild$Model" "stepCount" "I", .methodLink RX4 80 yX4_modelAt, .instanceMethod yX4_modelAt, .selects RX4 yX4_modelAt yX4_modelAt, .initialized RX4, .code yX4_modelAt cX4_modelAt 3 (some (.object "PaperGuild$Model")), .classLink RX4 149 "java/lang/IndexOutOfBoundsException", .initialized "java/lang/IndexOutOfBoundsException", .fieldLink RX4 18 "PaperGuild" "guildModels" "[LPaperGuild$Model;", .methodLink RX4 118 yX4_checkModel, .instanceMethod yX4_checkModel, .selects RX4 yX4_checkModel yX4_checkModel, .code yX4_checkModel cX4_checkModel 2 none, .fieldLink RX4 25 "PaperGuild" "modelCount" "I"] ++ wsX20 ++ wsX40 ++ (vx_atS RX4 153 "java/lang/IndexOutOfBoundsException" ["java/lang/RuntimeException", "java/lang/Exception"]).filter goodWord)
def wsX4_places : List Cond := .code yX4_places cX4_places 2 (some .int) :: ([.fieldLink RX4 84 "PaperGuild$Model" "stacks" "LPaperGuild$Stacks;", .fieldLink RX4 88 "PaperGuild$Stacks" "span" "I", .methodLink RX4 80 yX4_modelAt, .instanceMethod yX4_modelAt, .selects RX4 yX4_modelAt yX4_modelAt, .initialized RX4, .code yX4_modelAt cX4_modelAt 3 (some (.object "PaperGuild$Model")), .classLink RX4 149 "java/lang/IndexOutOfBoundsException", .initialized "java/lang/IndexOutOfBoundsException", .fieldLink RX4 18 "PaperGuild" "guildModels" "[LPaperGuild$Model;", .methodLink RX4 118 yX4_checkModel, .instanceMethod yX4_checkModel, .selects RX4 yX4_checkModel yX4_checkModel, .code yX4_checkModel cX4_checkModel 2 none, .fieldLink RX4 25 "PaperGuild" "modelCount" "I"] ++ wsX20 ++ wsX30 ++ wsX40 ++ (vx_atS RX4 153 "java/lang/IndexOutOfBoundsException" ["java/lang/RuntimeException", "java/lang/Exception"]).filter goodWord)
def wsX4_layers_r1 : List Cond := [Cond.fieldLink RX4 84 "PaperGuild$Model" "stacks" "LPaperGuild$Stacks;", Cond.methodLink RX4 80 yX4_modelAt, Cond.instanceMethod yX4_modelAt, Cond.selects RX4 yX4_modelAt yX4_modelAt, Cond.initialized RX4, Cond.code yX4_modelAt cX4_modelAt 3 (some (.object "PaperGuild$Model")), Cond.classLink RX4 149 "java/lang/IndexOutOfBoundsException", Cond.initialized "java/lang/IndexOutOfBoundsException", Cond.fieldLink RX4 18 "PaperGuild" "guildModels" "[LPaperGuild$Model;", Cond.methodLink RX4 118 yX4_checkModel, Cond.instanceMethod yX4_checkModel, Cond.selects RX4 yX4_checkModel yX4_checkModel, Cond.code yX4_checkModel cX4_checkModel 2 none, Cond.fieldLink RX4 25 "PaperGuild" "modelCount" "I", Cond.methodLink RX4 146 yX3_greatestHeight, Cond.instanceMethod yX3_greatestHeight, Cond.selects RX3 yX3_greatestHeight yX3_greatestHeight, Cond.initialized RX3, Cond.code yX3_greatestHeight cX3_greatestHeight 3 (some .int), Cond.fieldLink RX3 28 "PaperGuild$Stacks" "span" "I", Cond.methodLink RX3 37 Lib.Math.max.name, Cond.static Lib.Math.max.name, Cond.initialized "java/lang/Math", Cond.code Lib.Math.max.name Lib.Math.max.code 2 (some .int)]
def wsX4_layers_r2 : List Cond := [Cond.methodLink RX3 54 yX3_heightAt, Cond.instanceMethod yX3_heightAt, Cond.selects RX3 yX3_heightAt yX3_heightAt, Cond.code yX3_heightAt cX3_heightAt 2 (some .int), Cond.fieldLink RX3 15 "PaperGuild$Stacks" "starts" "[I", Cond.methodLink RX3 50 yX3_isPlace, Cond.instanceMethod yX3_isPlace, Cond.selects RX3 yX3_isPlace yX3_isPlace, Cond.code yX3_isPlace cX3_isPlace 2 (some .boolean)]
def wsX4_layers : List Cond := .code yX4_layers cX4_layers 2 (some .int) :: ((wsX4_layers_r1 ++ wsX4_layers_r2) ++ wsX20 ++ wsX40 ++ wsX30 ++ (vx_atS RX4 153 "java/lang/IndexOutOfBoundsException" ["java/lang/RuntimeException", "java/lang/Exception"]).filter goodWord)
def wsX4_cellAt_r1 : List Cond := [Cond.classLink RX4 149 "java/lang/IndexOutOfBoundsException", Cond.initialized "java/lang/IndexOutOfBoundsException", Cond.fieldLink RX4 84 "PaperGuild$Model" "stacks" "LPaperGuild$Stacks;", Cond.fieldLink RX4 88 "PaperGuild$Stacks" "span" "I", Cond.methodLink RX4 80 yX4_modelAt, Cond.instanceMethod yX4_modelAt, Cond.selects RX4 yX4_modelAt yX4_modelAt, Cond.initialized RX4, Cond.code yX4_modelAt cX4_modelAt 3 (some (.object "PaperGuild$Model")), Cond.fieldLink RX4 18 "PaperGuild" "guildModels" "[LPaperGuild$Model;", Cond.methodLink RX4 118 yX4_checkModel, Cond.instanceMethod yX4_checkModel, Cond.selects RX4 yX4_checkModel yX4_checkModel, Cond.code yX4_checkModel cX4_checkModel 2 none, Cond.fieldLink RX4 25 "PaperGuild" "modelCount" "I", Cond.methodLink RX4 154 yX3_heightAt, Cond.instanceMethod yX3_heightAt, Cond.selects RX3 yX3_heightAt yX3_heightAt, Cond.initialized RX3, Cond.code yX3_heightAt cX3_heightAt 2 (some .int), Cond.fieldLink RX3 15 "PaperGuild$Stacks" "starts" "[I", Cond.methodLink RX3 50 yX3_isPlace, Cond.instanceMethod yX3_isPlace, Cond.selects RX3 yX3_isPlace yX3_isPlace]
def wsX4_cellAt_r2 : List Cond := [Cond.code yX3_isPlace cX3_isPlace 2 (some .boolean), Cond.fieldLink RX3 28 "PaperGuild$Stacks" "span" "I", Cond.methodLink RX4 159 yX3_cellIn, Cond.instanceMethod yX3_cellIn, Cond.selects RX3 yX3_cellIn yX3_cellIn, Cond.code yX3_cellIn cX3_cellIn 3 (some .int), Cond.fieldLink RX3 9 "PaperGuild$Stacks" "cells" "[I", Cond.methodLink RX3 54 yX3_heightAt]
def wsX4_cellAt : List Cond := .code yX4_cellAt cX4_cellAt 5 (some .int) :: ((wsX4_cellAt_r1 ++ wsX4_cellAt_r2) ++ wsX20 ++ wsX30 ++ wsX40 ++ (vx_atS RX4 153 "java/lang/IndexOutOfBoundsException" ["java/lang/RuntimeException", "java/lang/Exception"]).filter goodWord)
def wsX4_checkCell : List Cond := .code yX4_checkCell cX4_checkCell 3 none :: ([.classLink RX4 149 "java/lang/IndexOutOfBoundsException", .initialized "java/lang/IndexOutOfBoundsException", .fieldLink RX4 177 "PaperGuild$Model" "length" "I"] ++ wsX20 ++ (vx_atS RX4 153 "java/lang/IndexOutOfBoundsException" ["java/lang/RuntimeException", "java/lang/Exception"]).filter goodWord)
def wsX4_placeOf_r1 : List Cond := [Cond.fieldLink RX4 32 "PaperGuild" "follower" "LPaperGuild$Follower;", Cond.fieldLink RX4 170 "PaperGuild$Follower" "place" "I", Cond.methodLink RX4 80 yX4_modelAt, Cond.instanceMethod yX4_modelAt, Cond.selects RX4 yX4_modelAt yX4_modelAt, Cond.initialized RX4, Cond.code yX4_modelAt cX4_modelAt 3 (some (.object "PaperGuild$Model")), Cond.classLink RX4 149 "java/lang/IndexOutOfBoundsException", Cond.initialized "java/lang/IndexOutOfBoundsException", Cond.fieldLink RX4 18 "PaperGuild" "guildModels" "[LPaperGuild$Model;", Cond.methodLink RX4 118 yX4_checkModel, Cond.instanceMethod yX4_checkModel, Cond.selects RX4 yX4_checkModel yX4_checkModel, Cond.code yX4_checkModel cX4_checkModel 2 none, Cond.fieldLink RX4 25 "PaperGuild" "modelCount" "I", Cond.methodLink RX4 163 yX4_checkCell, Cond.instanceMethod yX4_checkCell, Cond.selects RX4 yX4_checkCell yX4_checkCell, Cond.code yX4_checkCell cX4_checkCell 3 none, Cond.fieldLink RX4 177 "PaperGuild$Model" "length" "I", Cond.methodLink RX4 167 yX0_follow, Cond.instanceMethod yX0_follow, Cond.selects RX0 yX0_follow yX0_follow, Cond.initialized RX0]
def wsX4_placeOf_r2 : List Cond := [Cond.code yX0_follow cX0_follow 4 none, Cond.fieldLink RX0 7 "PaperGuild$Follower" "place" "I", Cond.fieldLink RX0 13 "PaperGuild$Follower" "turned" "Z", Cond.fieldLink RX0 20 "PaperGuild$Model" "length" "I", Cond.fieldLink RX0 17 "PaperGuild$Follower" "span" "I", Cond.fieldLink RX0 25 "PaperGuild$Model" "stepCount" "I", Cond.fieldLink RX0 28 "PaperGuild$Model" "stepPlaces" "[I", Cond.fieldLink RX0 32 "PaperGuild$Model" "stepsFromLeft" "[Z", Cond.methodLink RX0 36 yX0_takeStep, Cond.instanceMethod yX0_takeStep, Cond.selects RX0 yX0_takeStep yX0_takeStep, Cond.code yX0_takeStep cX0_takeStep 5 none, Cond.methodLink RX0 40 Lib.Math.min.name, Cond.static Lib.Math.min.name, Cond.initialized "java/lang/Math", Cond.code Lib.Math.min.name Lib.Math.min.code 2 (some .int), Cond.methodLink RX0 46 Lib.Math.max.name, Cond.static Lib.Math.max.name, Cond.code Lib.Math.max.name Lib.Math.max.code 2 (some .int)]
def wsX4_placeOf : List Cond := .code yX4_placeOf cX4_placeOf 4 (some .int) :: ((wsX4_placeOf_r1 ++ wsX4_placeOf_r2) ++ wsX40 ++ wsX00 ++ wsX20 ++ (vx_atS RX4 153 "java/lang/IndexOutOfBoundsException" ["java/lang/RuntimeException", "java/lang/Exception"]).filter goodWord)
def wsX4_isTurned_r1 : List Cond := [Cond.fieldLink RX4 32 "PaperGuild" "follower" "LPaperGuild$Follower;", Cond.fieldLink RX4 173 "PaperGuild$Follower" "turned" "Z", Cond.methodLink RX4 80 yX4_modelAt, Cond.instanceMethod yX4_modelAt, Cond.selects RX4 yX4_modelAt yX4_modelAt, Cond.initialized RX4, Cond.code yX4_modelAt cX4_modelAt 3 (some (.object "PaperGuild$Model")), Cond.classLink RX4 149 "java/lang/IndexOutOfBoundsException", Cond.initialized "java/lang/IndexOutOfBoundsException", Cond.fieldLink RX4 18 "PaperGuild" "guildModels" "[LPaperGuild$Model;", Cond.methodLink RX4 118 yX4_checkModel, Cond.instanceMethod yX4_checkModel, Cond.selects RX4 yX4_checkModel yX4_checkModel, Cond.code yX4_checkModel cX4_checkModel 2 none, Cond.fieldLink RX4 25 "PaperGuild" "modelCount" "I", Cond.methodLink RX4 163 yX4_checkCell, Cond.instanceMethod yX4_checkCell, Cond.selects RX4 yX4_checkCell yX4_checkCell, Cond.code yX4_checkCell cX4_checkCell 3 none, Cond.fieldLink RX4 177 "PaperGuild$Model" "length" "I", Cond.methodLink RX4 167 yX0_follow, Cond.instanceMethod yX0_follow, Cond.selects RX0 yX0_follow yX0_follow, Cond.initialized RX0]
def wsX4_isTurned_r2 : List Cond := [Cond.code yX0_follow cX0_follow 4 none, Cond.fieldLink RX0 7 "PaperGuild$Follower" "place" "I", Cond.fieldLink RX0 13 "PaperGuild$Follower" "turned" "Z", Cond.fieldLink RX0 20 "PaperGuild$Model" "length" "I", Cond.fieldLink RX0 17 "PaperGuild$Follower" "span" "I", Cond.fieldLink RX0 25 "PaperGuild$Model" "stepCount" "I", Cond.fieldLink RX0 28 "PaperGuild$Model" "stepPlaces" "[I", Cond.fieldLink RX0 32 "PaperGuild$Model" "stepsFromLeft" "[Z", Cond.methodLink RX0 36 yX0_takeStep, Cond.instanceMethod yX0_takeStep, Cond.selects RX0 yX0_takeStep yX0_takeStep, Cond.code yX0_takeStep cX0_takeStep 5 none, Cond.methodLink RX0 40 Lib.Math.min.name, Cond.static Lib.Math.min.name, Cond.initialized "java/lang/Math", Cond.code Lib.Math.min.name Lib.Math.min.code 2 (some .int), Cond.methodLink RX0 46 Lib.Math.max.name, Cond.static Lib.Math.max.name, Cond.code Lib.Math.max.name Lib.Math.max.code 2 (some .int)]
def wsX4_isTurned : List Cond := .code yX4_isTurned cX4_isTurned 4 (some .boolean) :: ((wsX4_isTurned_r1 ++ wsX4_isTurned_r2) ++ wsX40 ++ wsX00 ++ wsX20 ++ (vx_atS RX4 153 "java/lang/IndexOutOfBoundsException" ["java/lang/RuntimeException", "java/lang/Exception"]).filter goodWord)
def wsX4_layersByFollowing_r1 : List Cond := [Cond.fieldLink RX4 36 "PaperGuild" "followedHeights" "[I", Cond.fieldLink RX4 177 "PaperGuild$Model" "length" "I", Cond.fieldLink RX4 32 "PaperGuild" "follower" "LPaperGuild$Follower;", Cond.fieldLink RX4 170 "PaperGuild$Follower" "place" "I", Cond.methodLink RX4 180 Lib.Math.max.name, Cond.static Lib.Math.max.name, Cond.initialized "java/lang/Math", Cond.code Lib.Math.max.name Lib.Math.max.code 2 (some .int), Cond.methodLink RX4 80 yX4_modelAt, Cond.instanceMethod yX4_modelAt, Cond.selects RX4 yX4_modelAt yX4_modelAt, Cond.initialized RX4, Cond.code yX4_modelAt cX4_modelAt 3 (some (.object "PaperGuild$Model")), Cond.classLink RX4 149 "java/lang/IndexOutOfBoundsException", Cond.initialized "java/lang/IndexOutOfBoundsException", Cond.fieldLink RX4 18 "PaperGuild" "guildModels" "[LPaperGuild$Model;", Cond.methodLink RX4 118 yX4_checkModel, Cond.instanceMethod yX4_checkModel, Cond.selects RX4 yX4_checkModel yX4_checkModel, Cond.code yX4_checkModel cX4_checkModel 2 none, Cond.fieldLink RX4 25 "PaperGuild" "modelCount" "I", Cond.methodLink RX4 167 yX0_follow, Cond.instanceMethod yX0_follow, Cond.selects RX0 yX0_follow yX0_follow]
def wsX4_layersByFollowing_r2 : List Cond := [Cond.initialized RX0, Cond.code yX0_follow cX0_follow 4 none, Cond.fieldLink RX0 7 "PaperGuild$Follower" "place" "I", Cond.fieldLink RX0 13 "PaperGuild$Follower" "turned" "Z", Cond.fieldLink RX0 20 "PaperGuild$Model" "length" "I", Cond.fieldLink RX0 17 "PaperGuild$Follower" "span" "I", Cond.fieldLink RX0 25 "PaperGuild$Model" "stepCount" "I", Cond.fieldLink RX0 28 "PaperGuild$Model" "stepPlaces" "[I", Cond.fieldLink RX0 32 "PaperGuild$Model" "stepsFromLeft" "[Z", Cond.methodLink RX0 36 yX0_takeStep, Cond.instanceMethod yX0_takeStep, Cond.selects RX0 yX0_takeStep yX0_takeStep, Cond.code yX0_takeStep cX0_takeStep 5 none, Cond.methodLink RX0 40 Lib.Math.min.name, Cond.static Lib.Math.min.name, Cond.code Lib.Math.min.name Lib.Math.min.code 2 (some .int), Cond.methodLink RX0 46 Lib.Math.max.name]
def wsX4_layersByFollowing : List Cond := .code yX4_layersByFollowing cX4_layersByFollowing 6 (some .int) :: ((wsX4_layersByFollowing_r1 ++ wsX4_layersByFollowing_r2) ++ wsX40 ++ wsX20 ++ wsX00 ++ (vx_atS RX4 153 "java/lang/IndexOutOfBoundsException" ["java/lang/RuntimeException", "java/lang/Exception"]).filter goodWord)
def wsX4_bears_r1 : List Cond := [Cond.classLink RX4 50 "java/lang/IllegalArgumentException", Cond.initialized "java/lang/IllegalArgumentException", Cond.methodLink RX4 180 Lib.Math.max.name, Cond.static Lib.Math.max.name, Cond.initialized "java/lang/Math", Cond.code Lib.Math.max.name Lib.Math.max.code 2 (some .int), Cond.fieldLink RX4 84 "PaperGuild$Model" "stacks" "LPaperGuild$Stacks;", Cond.methodLink RX4 80 yX4_modelAt, Cond.instanceMethod yX4_modelAt, Cond.selects RX4 yX4_modelAt yX4_modelAt, Cond.initialized RX4, Cond.code yX4_modelAt cX4_modelAt 3 (some (.object "PaperGuild$Model")), Cond.classLink RX4 149 "java/lang/IndexOutOfBoundsException", Cond.initialized "java/lang/IndexOutOfBoundsException", Cond.fieldLink RX4 18 "PaperGuild" "guildModels" "[LPaperGuild$Model;", Cond.methodLink RX4 118 yX4_checkModel, Cond.instanceMethod yX4_checkModel, Cond.selects RX4 yX4_checkModel yX4_checkModel, Cond.code yX4_checkModel cX4_checkModel 2 none, Cond.fieldLink RX4 25 "PaperGuild" "modelCount" "I", Cond.methodLink RX4 146 yX3_greatestHeight, Cond.instanceMethod yX3_greatestHeight, Cond.selects RX3 yX3_greatestHeight yX3_greatestHeight, Cond.initialized RX3]
def wsX4_bears_r2 : List Cond := [Cond.code yX3_greatestHeight cX3_greatestHeight 3 (some .int), Cond.fieldLink RX3 28 "PaperGuild$Stacks" "span" "I", Cond.methodLink RX3 37 Lib.Math.max.name, Cond.methodLink RX3 54 yX3_heightAt, Cond.instanceMethod yX3_heightAt, Cond.selects RX3 yX3_heightAt yX3_heightAt, Cond.code yX3_heightAt cX3_heightAt 2 (some .int), Cond.fieldLink RX3 15 "PaperGuild$Stacks" "starts" "[I", Cond.methodLink RX3 50 yX3_isPlace, Cond.instanceMethod yX3_isPlace, Cond.selects RX3 yX3_isPlace yX3_isPlace, Cond.code yX3_isPlace cX3_isPlace 2 (some .boolean)]
def wsX4_bears : List Cond := .code yX4_bears cX4_bears 5 (some .boolean) :: ((wsX4_bears_r1 ++ wsX4_bears_r2) ++ wsX20 ++ wsX40 ++ wsX30 ++ (vx_atS RX4 54 "java/lang/IllegalArgumentException" ["java/lang/RuntimeException", "java/lang/Exception"]).filter goodWord ++ (vx_atS RX4 153 "java/lang/IndexOutOfBoundsException" ["java/lang/RuntimeException", "java/lang/Exception"]).filter goodWord)
def wsX4_kindsCountedFor_r1 : List Cond := [Cond.fieldLink RX4 25 "PaperGuild" "modelCount" "I", Cond.methodLink RX4 121 yX4_modelsCountedFor, Cond.instanceMethod yX4_modelsCountedFor, Cond.selects RX4 yX4_modelsCountedFor yX4_modelsCountedFor, Cond.initialized RX4, Cond.code yX4_modelsCountedFor cX4_modelsCountedFor 2 (some .int), Cond.fieldLink RX4 22 "PaperGuild" "used" "[I", Cond.methodLink RX4 57 yX4_reached, Cond.static yX4_reached, Cond.code yX4_reached cX4_reached 6 (some .int), Cond.methodLink RX4 61 yX4_holds, Cond.static yX4_holds, Cond.code yX4_holds cX4_holds 2 (some .boolean), Cond.methodLink RX4 80 yX4_modelAt, Cond.instanceMethod yX4_modelAt, Cond.selects RX4 yX4_modelAt yX4_modelAt, Cond.code yX4_modelAt cX4_modelAt 3 (some (.object "PaperGuild$Model")), Cond.classLink RX4 149 "java/lang/IndexOutOfBoundsException", Cond.initialized "java/lang/IndexOutOfBoundsException", Cond.fieldLink RX4 18 "PaperGuild" "guildModels" "[LPaperGuild$Model;", Cond.methodLink RX4 118 yX4_checkModel, Cond.instanceMethod yX4_checkModel, Cond.selects RX4 yX4_checkModel yX4_checkModel, Cond.code yX4_checkModel cX4_checkModel 2 none]
def wsX4_kindsCountedFor_r2 : List Cond := [Cond.methodLink RX4 100 yX2_ownKinds, Cond.instanceMethod yX2_ownKinds, Cond.selects RX2 yX2_ownKinds yX2_ownKinds, Cond.initialized RX2, Cond.code yX2_ownKinds cX2_ownKinds 3 (some .int), Cond.fieldLink RX2 22 "PaperGuild$Model" "stepCount" "I", Cond.fieldLink RX2 9 "PaperGuild$Model" "stepKinds" "[I"]
def wsX4_kindsCountedFor : List Cond := .code yX4_kindsCountedFor cX4_kindsCountedFor 5 (some .int) :: ((wsX4_kindsCountedFor_r1 ++ wsX4_kindsCountedFor_r2) ++ wsX40 ++ wsX20 ++ (vx_atS RX4 153 "java/lang/IndexOutOfBoundsException" ["java/lang/RuntimeException", "java/lang/Exception"]).filter goodWord)
def wsX4_kindsOf_r1 : List Cond := [Cond.methodLink RX4 118 yX4_checkModel, Cond.instanceMethod yX4_checkModel, Cond.selects RX4 yX4_checkModel yX4_checkModel, Cond.initialized RX4, Cond.code yX4_checkModel cX4_checkModel 2 none, Cond.classLink RX4 149 "java/lang/IndexOutOfBoundsException", Cond.initialized "java/lang/IndexOutOfBoundsException", Cond.fieldLink RX4 25 "PaperGuild" "modelCount" "I", Cond.methodLink RX4 187 yX4_kindsCountedFor, Cond.instanceMethod yX4_kindsCountedFor, Cond.selects RX4 yX4_kindsCountedFor yX4_kindsCountedFor, Cond.code yX4_kindsCountedFor cX4_kindsCountedFor 5 (some .int), Cond.methodLink RX4 121 yX4_modelsCountedFor, Cond.instanceMethod yX4_modelsCountedFor, Cond.selects RX4 yX4_modelsCountedFor yX4_modelsCountedFor, Cond.code yX4_modelsCountedFor cX4_modelsCountedFor 2 (some .int), Cond.fieldLink RX4 22 "PaperGuild" "used" "[I", Cond.methodLink RX4 57 yX4_reached, Cond.static yX4_reached, Cond.code yX4_reached cX4_reached 6 (some .int), Cond.methodLink RX4 61 yX4_holds, Cond.static yX4_holds, Cond.code yX4_holds cX4_holds 2 (some .boolean), Cond.methodLink RX4 80 yX4_modelAt]
def wsX4_kindsOf_r2 : List Cond := [Cond.instanceMethod yX4_modelAt, Cond.selects RX4 yX4_modelAt yX4_modelAt, Cond.code yX4_modelAt cX4_modelAt 3 (some (.object "PaperGuild$Model")), Cond.fieldLink RX4 18 "PaperGuild" "guildModels" "[LPaperGuild$Model;", Cond.methodLink RX4 100 yX2_ownKinds, Cond.instanceMethod yX2_ownKinds, Cond.selects RX2 yX2_ownKinds yX2_ownKinds, Cond.initialized RX2, Cond.code yX2_ownKinds cX2_ownKinds 3 (some .int), Cond.fieldLink RX2 22 "PaperGuild$Model" "stepCount" "I", Cond.fieldLink RX2 9 "PaperGuild$Model" "stepKinds" "[I"]
def wsX4_kindsOf : List Cond := .code yX4_kindsOf cX4_kindsOf 2 (some .int) :: ((wsX4_kindsOf_r1 ++ wsX4_kindsOf_r2) ++ wsX40 ++ wsX20 ++ (vx_atS RX4 153 "java/lang/IndexOutOfBoundsException" ["java/lang/RuntimeException", "java/lang/Exception"]).filter goodWord)
def wsX4_mayFold_r1 : List Cond := [Cond.fieldLink RX4 13 "PaperGuild" "known" "[I", Cond.methodLink RX4 136 yX4_checkPupil, Cond.instanceMethod yX4_checkPupil, Cond.selects RX4 yX4_checkPupil yX4_checkPupil, Cond.initialized RX4, Cond.code yX4_checkPupil cX4_checkPupil 2 none, Cond.classLink RX4 149 "java/lang/IndexOutOfBoundsException", Cond.initialized "java/lang/IndexOutOfBoundsException", Cond.methodLink RX4 118 yX4_checkModel, Cond.instanceMethod yX4_checkModel, Cond.selects RX4 yX4_checkModel yX4_checkModel, Cond.code yX4_checkModel cX4_checkModel 2 none, Cond.fieldLink RX4 25 "PaperGuild" "modelCount" "I", Cond.methodLink RX4 187 yX4_kindsCountedFor, Cond.instanceMethod yX4_kindsCountedFor, Cond.selects RX4 yX4_kindsCountedFor yX4_kindsCountedFor, Cond.code yX4_kindsCountedFor cX4_kindsCountedFor 5 (some .int), Cond.methodLink RX4 121 yX4_modelsCountedFor, Cond.instanceMethod yX4_modelsCountedFor, Cond.selects RX4 yX4_modelsCountedFor yX4_modelsCountedFor, Cond.code yX4_modelsCountedFor cX4_modelsCountedFor 2 (some .int), Cond.fieldLink RX4 22 "PaperGuild" "used" "[I", Cond.methodLink RX4 57 yX4_reached, Cond.static yX4_reached]
def wsX4_mayFold_r2 : List Cond := [Cond.code yX4_reached cX4_reached 6 (some .int), Cond.methodLink RX4 61 yX4_holds, Cond.static yX4_holds, Cond.code yX4_holds cX4_holds 2 (some .boolean), Cond.methodLink RX4 80 yX4_modelAt, Cond.instanceMethod yX4_modelAt, Cond.selects RX4 yX4_modelAt yX4_modelAt, Cond.code yX4_modelAt cX4_modelAt 3 (some (.object "PaperGuild$Model")), Cond.fieldLink RX4 18 "PaperGuild" "guildModels" "[LPaperGuild$Model;", Cond.methodLink RX4 100 yX2_ownKinds, Cond.instanceMethod yX2_ownKinds, Cond.selects RX2 yX2_ownKinds yX2_ownKinds, Cond.initialized RX2, Cond.code yX2_ownKinds cX2_ownKinds 3 (some .int), Cond.fieldLink RX2 22 "PaperGuild$Model" "stepCount" "I", Cond.fieldLink RX2 9 "PaperGuild$Model" "stepKinds" "[I", Cond.methodLink RX4 104 yX4_lacksAny, Cond.static yX4_lacksAny, Cond.code yX4_lacksAny cX4_lacksAny 2 (some .boolean)]
def wsX4_mayFold : List Cond := .code yX4_mayFold cX4_mayFold 3 (some .boolean) :: ((wsX4_mayFold_r1 ++ wsX4_mayFold_r2) ++ wsX40 ++ wsX20 ++ (vx_atS RX4 153 "java/lang/IndexOutOfBoundsException" ["java/lang/RuntimeException", "java/lang/Exception"]).filter goodWord)
def wsX4_lessons_r1 : List Cond := [Cond.fieldLink RX4 13 "PaperGuild" "known" "[I", Cond.fieldLink RX4 9 "PaperGuild" "needed" "[I", Cond.methodLink RX4 136 yX4_checkPupil, Cond.instanceMethod yX4_checkPupil, Cond.selects RX4 yX4_checkPupil yX4_checkPupil, Cond.initialized RX4, Cond.code yX4_checkPupil cX4_checkPupil 2 none, Cond.classLink RX4 149 "java/lang/IndexOutOfBoundsException", Cond.initialized "java/lang/IndexOutOfBoundsException", Cond.methodLink RX4 118 yX4_checkModel, Cond.instanceMethod yX4_checkModel, Cond.selects RX4 yX4_checkModel yX4_checkModel, Cond.code yX4_checkModel cX4_checkModel 2 none, Cond.fieldLink RX4 25 "PaperGuild" "modelCount" "I", Cond.methodLink RX4 187 yX4_kindsCountedFor, Cond.instanceMethod yX4_kindsCountedFor, Cond.selects RX4 yX4_kindsCountedFor yX4_kindsCountedFor, Cond.code yX4_kindsCountedFor cX4_kindsCountedFor 5 (some .int), Cond.methodLink RX4 121 yX4_modelsCountedFor, Cond.instanceMethod yX4_modelsCountedFor, Cond.selects RX4 yX4_modelsCountedFor yX4_modelsCountedFor, Cond.code yX4_modelsCountedFor cX4_modelsCountedFor 2 (some .int), Cond.fieldLink RX4 22 "PaperGuild" "used" "[I", Cond.methodLink RX4 57 yX4_reached]
def wsX4_lessons_r2 : List Cond := [Cond.static yX4_reached, Cond.code yX4_reached cX4_reached 6 (some .int), Cond.methodLink RX4 61 yX4_holds, Cond.static yX4_holds, Cond.code yX4_holds cX4_holds 2 (some .boolean), Cond.methodLink RX4 80 yX4_modelAt, Cond.instanceMethod yX4_modelAt, Cond.selects RX4 yX4_modelAt yX4_modelAt, Cond.code yX4_modelAt cX4_modelAt 3 (some (.object "PaperGuild$Model")), Cond.fieldLink RX4 18 "PaperGuild" "guildModels" "[LPaperGuild$Model;", Cond.methodLink RX4 100 yX2_ownKinds, Cond.instanceMethod yX2_ownKinds, Cond.selects RX2 yX2_ownKinds yX2_ownKinds, Cond.initialized RX2, Cond.code yX2_ownKinds cX2_ownKinds 3 (some .int), Cond.fieldLink RX2 22 "PaperGuild$Model" "stepCount" "I", Cond.fieldLink RX2 9 "PaperGuild$Model" "stepKinds" "[I", Cond.methodLink RX4 141 yJ6_bitCount_0f7a4, Cond.static yJ6_bitCount_0f7a4, Cond.initialized RJ6, Cond.code yJ6_bitCount_0f7a4 cJ6_bitCount_0f7a4 1 (some .int), Cond.constant RJ6 265 (1431655765), Cond.constant RJ6 266 (858993459), Cond.constant RJ6 267 (252645135)]
def wsX4_lessons : List Cond := .code yX4_lessons cX4_lessons 4 (some .int) :: ((wsX4_lessons_r1 ++ wsX4_lessons_r2) ++ wsX40 ++ wsX20 ++ (vx_atS RX4 153 "java/lang/IndexOutOfBoundsException" ["java/lang/RuntimeException", "java/lang/Exception"]).filter goodWord)
def wsX4_modelsOf : List Cond := .code yX4_modelsOf cX4_modelsOf 4 (some .int) :: ([.fieldLink RX4 25 "PaperGuild" "modelCount" "I", .fieldLink RX4 212 "PaperGuild$Model" "author" "I", .methodLink RX4 80 yX4_modelAt, .instanceMethod yX4_modelAt, .selects RX4 yX4_modelAt yX4_modelAt, .initialized RX4, .code yX4_modelAt cX4_modelAt 3 (some (.object "PaperGuild$Model")), .classLink RX4 149 "java/lang/IndexOutOfBoundsException", .initialized "java/lang/IndexOutOfBoundsException", .fieldLink RX4 18 "PaperGuild" "guildModels" "[LPaperGuild$Model;", .methodLink RX4 118 yX4_checkModel, .instanceMethod yX4_checkModel, .selects RX4 yX4_checkModel yX4_checkModel, .code yX4_checkModel cX4_checkModel 2 none] ++ wsX40 ++ wsX20 ++ (vx_atS RX4 153 "java/lang/IndexOutOfBoundsException" ["java/lang/RuntimeException", "java/lang/Exception"]).filter goodWord)
def wsX4_credit_r1 : List Cond := [Cond.fieldLink RX4 25 "PaperGuild" "modelCount" "I", Cond.methodLink RX4 67 yX4_checkAuthor, Cond.instanceMethod yX4_checkAuthor, Cond.selects RX4 yX4_checkAuthor yX4_checkAuthor, Cond.initialized RX4, Cond.code yX4_checkAuthor cX4_checkAuthor 2 none, Cond.classLink RX4 149 "java/lang/IndexOutOfBoundsException", Cond.initialized "java/lang/IndexOutOfBoundsException", Cond.methodLink RX4 190 yX4_modelsOf, Cond.instanceMethod yX4_modelsOf, Cond.selects RX4 yX4_modelsOf yX4_modelsOf, Cond.code yX4_modelsOf cX4_modelsOf 4 (some .int), Cond.fieldLink RX4 212 "PaperGuild$Model" "author" "I", Cond.methodLink RX4 80 yX4_modelAt, Cond.instanceMethod yX4_modelAt, Cond.selects RX4 yX4_modelAt yX4_modelAt, Cond.code yX4_modelAt cX4_modelAt 3 (some (.object "PaperGuild$Model")), Cond.fieldLink RX4 18 "PaperGuild" "guildModels" "[LPaperGuild$Model;", Cond.methodLink RX4 118 yX4_checkModel, Cond.instanceMethod yX4_checkModel, Cond.selects RX4 yX4_checkModel yX4_checkModel, Cond.code yX4_checkModel cX4_checkModel 2 none, Cond.methodLink RX4 61 yX4_holds, Cond.static yX4_holds]
def wsX4_credit_r2 : List Cond := [Cond.code yX4_holds cX4_holds 2 (some .boolean), Cond.methodLink RX4 121 yX4_modelsCountedFor, Cond.instanceMethod yX4_modelsCountedFor, Cond.selects RX4 yX4_modelsCountedFor yX4_modelsCountedFor, Cond.code yX4_modelsCountedFor cX4_modelsCountedFor 2 (some .int), Cond.fieldLink RX4 22 "PaperGuild" "used" "[I", Cond.methodLink RX4 57 yX4_reached, Cond.static yX4_reached, Cond.code yX4_reached cX4_reached 6 (some .int)]
def wsX4_credit : List Cond := .code yX4_credit cX4_credit 5 (some .int) :: ((wsX4_credit_r1 ++ wsX4_credit_r2) ++ wsX40 ++ wsX20 ++ (vx_atS RX4 153 "java/lang/IndexOutOfBoundsException" ["java/lang/RuntimeException", "java/lang/Exception"]).filter goodWord)
def wsX4_fewestPieces : List Cond := .code yX4_fewestPieces cX4_fewestPieces 1 (some .int) :: ([.fieldLink RX4 42 "PaperGuild" "mill" "LPaperGuild$Mill;", .methodLink RX4 193 yX1_fewestForRoll, .instanceMethod yX1_fewestForRoll, .selects RX1 yX1_fewestForRoll yX1_fewestForRoll, .initialized RX1, .code yX1_fewestForRoll cX1_fewestForRoll 1 (some .int), .fieldLink RX1 18 "PaperGuild$Mill" "fewest" "[I", .fieldLink RX1 9 "PaperGuild$Mill" "rollLength" "I", .methodLink RX1 25 yX1_fillFewest, .instanceMethod yX1_fillFewest, .selects RX1 yX1_fillFewest yX1_fillFewest, .code yX1_fillFewest cX1_fillFewest 2 none, .methodLink RX1 37 yX1_fewestFor, .instanceMethod yX1_fewestFor, .selects RX1 yX1_fewestFor yX1_fewestFor, .code yX1_fewestFor cX1_fewestFor 5 (some .int), .methodLink RX1 28 yX1_isDemanded, .instanceMethod yX1_isDemanded, .selects RX1 yX1_isDemanded yX1_isDemanded, .code yX1_isDemanded cX1_isDemanded 2 (some .boolean), .fieldLink RX1 15 "PaperGuild$Mill" "demanded" "I", .static yX4_holds, .initialized RX4, .code yX4_holds cX4_holds 2 (some .boolean)] ++ wsX40 ++ wsX10)
def wsX4_ways : List Cond := .code yX4_ways cX4_ways 1 (some .int) :: ([.fieldLink RX4 42 "PaperGuild" "mill" "LPaperGuild$Mill;", .methodLink RX4 196 yX1_waysForRoll, .instanceMethod yX1_waysForRoll, .selects RX1 yX1_waysForRoll yX1_waysForRoll, .initialized RX1, .code yX1_waysForRoll cX1_waysForRoll 2 (some .int), .fieldLink RX1 22 "PaperGuild$Mill" "waysTo" "[I", .fieldLink RX1 9 "PaperGuild$Mill" "rollLength" "I", .methodLink RX1 28 yX1_isDemanded, .instanceMethod yX1_isDemanded, .selects RX1 yX1_isDemanded yX1_isDemanded, .code yX1_isDemanded cX1_isDemanded 2 (some .boolean), .fieldLink RX1 15 "PaperGuild$Mill" "demanded" "I", .static yX4_holds, .initialized RX4, .code yX4_holds cX4_holds 2 (some .boolean), .methodLink RX1 32 yX1_addWaysWith, .instanceMethod yX1_addWaysWith, .selects RX1 yX1_addWaysWith yX1_addWaysWith, .code yX1_addWaysWith cX1_addWaysWith 3 none, .constant RX1 36 (1000007)] ++ wsX40 ++ wsX10)
def wsX4_leastRest : List Cond := .code yX4_leastRest cX4_leastRest 1 (some .int) :: ([.fieldLink RX4 42 "PaperGuild" "mill" "LPaperGuild$Mill;", .methodLink RX4 199 yX1_restOfRoll, .instanceMethod yX1_restOfRoll, .selects RX1 yX1_restOfRoll yX1_restOfRoll, .initialized RX1, .code yX1_restOfRoll cX1_restOfRoll 2 (some .int), .fieldLink RX1 9 "PaperGuild$Mill" "rollLength" "I", .fieldLink RX1 18 "PaperGuild$Mill" "fewest" "[I", .methodLink RX1 25 yX1_fillFewest, .instanceMethod yX1_fillFewest, .selects RX1 yX1_fillFewest yX1_fillFewest, .code yX1_fillFewest cX1_fillFewest 2 none, .methodLink RX1 37 yX1_fewestFor, .instanceMethod yX1_fewestFor, .selects RX1 yX1_fewestFor yX1_fewestFor, .code yX1_fewestFor cX1_fewestFor 5 (some .int), .methodLink RX1 28 yX1_isDemanded, .instanceMethod yX1_isDemanded, .selects RX1 yX1_isDemanded yX1_isDemanded, .code yX1_isDemanded cX1_isDemanded 2 (some .boolean), .fieldLink RX1 15 "PaperGuild$Mill" "demanded" "I", .static yX4_holds, .initialized RX4, .code yX4_holds cX4_holds 2 (some .boolean)] ++ wsX40 ++ wsX10)
def wsX5_init : List Cond := .code yX5_init cX5_init 1 none :: ([.methodLink RX5 1 objectInit, .instanceMethod objectInit, .code objectInit ⟨#[0xb1]⟩ 1 none, .arrayClass .int, .fieldLink RX5 7 "PaperGuildModel" "needs" "[I", .fieldLink RX5 13 "PaperGuildModel" "authors" "[I", .fieldLink RX5 16 "PaperGuildModel" "lengths" "[I", .fieldLink RX5 19 "PaperGuildModel" "steps" "[I", .fieldLink RX5 22 "PaperGuildModel" "uses" "[I", .fieldLink RX5 25 "PaperGuildModel" "kinds" "[I", .fieldLink RX5 28 "PaperGuildModel" "at" "[I", .fieldLink RX5 31 "PaperGuildModel" "lefts" "[I", .fieldLink RX5 34 "PaperGuildModel" "knows" "[I", .fieldLink RX5 37 "PaperGuildModel" "places" "[I", .fieldLink RX5 40 "PaperGuildModel" "heights" "[I", .fieldLink RX5 43 "PaperGuildModel" "turns" "[I", .fieldLink RX5 46 "PaperGuildModel" "many" "[I", .fieldLink RX5 49 "PaperGuildModel" "cuts" "[I"] ++ wsX50)
def wsX5_thrown : List Cond := .code yX5_thrown cX5_thrown 1 (some .int) :: ([.fieldLink RX5 52 "PaperGuildModel" "thrown" "I"] ++ wsX50)
def wsX5_fails : List Cond := .code yX5_fails cX5_fails 2 (some .int) :: ([.fieldLink RX5 52 "PaperGuildModel" "thrown" "I"] ++ wsX50)
def wsX5_in : List Cond := .code yX5_in cX5_in 3 (some .boolean) :: ([])
def wsX5_isModel : List Cond := .code yX5_isModel cX5_isModel 2 (some .boolean) :: ([.fieldLink RX5 56 "PaperGuildModel" "models" "I", .fieldLink RX5 52 "PaperGuildModel" "thrown" "I", .methodLink RX5 59 yX5_in, .static yX5_in, .initialized RX5, .code yX5_in cX5_in 3 (some .boolean)] ++ wsX50)
def wsX5_closed : List Cond := .code yX5_closed cX5_closed 5 (some .int) :: ([.fieldLink RX5 7 "PaperGuildModel" "needs" "[I"] ++ wsX50)
def wsX5_setNeeds : List Cond := .code yX5_setNeeds cX5_setNeeds 4 (some .int) :: ([.fieldLink RX5 52 "PaperGuildModel" "thrown" "I", .fieldLink RX5 7 "PaperGuildModel" "needs" "[I", .methodLink RX5 59 yX5_in, .static yX5_in, .initialized RX5, .code yX5_in cX5_in 3 (some .boolean), .methodLink RX5 63 yX5_closed, .instanceMethod yX5_closed, .selects RX5 yX5_closed yX5_closed, .code yX5_closed cX5_closed 5 (some .int), .methodLink RX5 67 yX5_fails, .instanceMethod yX5_fails, .selects RX5 yX5_fails yX5_fails, .code yX5_fails cX5_fails 2 (some .int)] ++ wsX50)
def wsX5_addModel : List Cond := .code yX5_addModel cX5_addModel 3 (some .int) :: ([.fieldLink RX5 56 "PaperGuildModel" "models" "I", .fieldLink RX5 52 "PaperGuildModel" "thrown" "I", .fieldLink RX5 13 "PaperGuildModel" "authors" "[I", .fieldLink RX5 16 "PaperGuildModel" "lengths" "[I", .methodLink RX5 59 yX5_in, .static yX5_in, .initialized RX5, .code yX5_in cX5_in 3 (some .boolean)] ++ wsX50)
def wsX5_counts : List Cond := .code yX5_counts cX5_counts 3 none :: ([.fieldLink RX5 46 "PaperGuildModel" "many" "[I", .fieldLink RX5 37 "PaperGuildModel" "places" "[I", .fieldLink RX5 70 "PaperGuildModel" "most" "I"] ++ wsX50)
def wsX5_makes : List Cond := .code yX5_makes cX5_makes 10 none :: ([.fieldLink RX5 73 "PaperGuildModel" "size" "I", .fieldLink RX5 37 "PaperGuildModel" "places" "[I", .fieldLink RX5 46 "PaperGuildModel" "many" "[I", .fieldLink RX5 40 "PaperGuildModel" "heights" "[I", .fieldLink RX5 43 "PaperGuildModel" "turns" "[I", .methodLink RX5 76 yX5_counts, .instanceMethod yX5_counts, .selects RX5 yX5_counts yX5_counts, .initialized RX5, .code yX5_counts cX5_counts 3 none, .fieldLink RX5 70 "PaperGuildModel" "most" "I"] ++ wsX50)
def wsX5_folds : List Cond := .code yX5_folds cX5_folds 4 none :: ([.fieldLink RX5 16 "PaperGuildModel" "lengths" "[I", .fieldLink RX5 37 "PaperGuildModel" "places" "[I", .fieldLink RX5 40 "PaperGuildModel" "heights" "[I", .fieldLink RX5 43 "PaperGuildModel" "turns" "[I", .fieldLink RX5 73 "PaperGuildModel" "size" "I", .fieldLink RX5 70 "PaperGuildModel" "most" "I", .fieldLink RX5 19 "PaperGuildModel" "steps" "[I", .fieldLink RX5 28 "PaperGuildModel" "at" "[I", .fieldLink RX5 31 "PaperGuildModel" "lefts" "[I", .methodLink RX5 76 yX5_counts, .instanceMethod yX5_counts, .selects RX5 yX5_counts yX5_counts, .initialized RX5, .code yX5_counts cX5_counts 3 none, .fieldLink RX5 46 "PaperGuildModel" "many" "[I", .methodLink RX5 80 yX5_makes, .instanceMethod yX5_makes, .selects RX5 yX5_makes yX5_makes, .code yX5_makes cX5_makes 10 none] ++ wsX50)
def wsX5_ownKinds : List Cond := .code yX5_ownKinds cX5_ownKinds 4 (some .int) :: ([.fieldLink RX5 19 "PaperGuildModel" "steps" "[I", .fieldLink RX5 25 "PaperGuildModel" "kinds" "[I"] ++ wsX50)
def wsX5_fold_r1 : List Cond := [Cond.fieldLink RX5 56 "PaperGuildModel" "models" "I", Cond.fieldLink RX5 52 "PaperGuildModel" "thrown" "I", Cond.fieldLink RX5 73 "PaperGuildModel" "size" "I", Cond.fieldLink RX5 19 "PaperGuildModel" "steps" "[I", Cond.fieldLink RX5 7 "PaperGuildModel" "needs" "[I", Cond.fieldLink RX5 25 "PaperGuildModel" "kinds" "[I", Cond.fieldLink RX5 28 "PaperGuildModel" "at" "[I", Cond.fieldLink RX5 31 "PaperGuildModel" "lefts" "[I", Cond.methodLink RX5 59 yX5_in, Cond.static yX5_in, Cond.initialized RX5, Cond.code yX5_in cX5_in 3 (some .boolean), Cond.methodLink RX5 84 yX5_folds, Cond.instanceMethod yX5_folds, Cond.selects RX5 yX5_folds yX5_folds, Cond.code yX5_folds cX5_folds 4 none, Cond.fieldLink RX5 16 "PaperGuildModel" "lengths" "[I", Cond.fieldLink RX5 37 "PaperGuildModel" "places" "[I", Cond.fieldLink RX5 40 "PaperGuildModel" "heights" "[I", Cond.fieldLink RX5 43 "PaperGuildModel" "turns" "[I", Cond.fieldLink RX5 70 "PaperGuildModel" "most" "I", Cond.methodLink RX5 76 yX5_counts, Cond.instanceMethod yX5_counts, Cond.selects RX5 yX5_counts yX5_counts]
def wsX5_fold_r2 : List Cond := [Cond.code yX5_counts cX5_counts 3 none, Cond.fieldLink RX5 46 "PaperGuildModel" "many" "[I", Cond.methodLink RX5 80 yX5_makes, Cond.instanceMethod yX5_makes, Cond.selects RX5 yX5_makes yX5_makes, Cond.code yX5_makes cX5_makes 10 none, Cond.methodLink RX5 67 yX5_fails, Cond.instanceMethod yX5_fails, Cond.selects RX5 yX5_fails yX5_fails, Cond.code yX5_fails cX5_fails 2 (some .int), Cond.methodLink RX5 87 yX5_ownKinds, Cond.instanceMethod yX5_ownKinds, Cond.selects RX5 yX5_ownKinds yX5_ownKinds, Cond.code yX5_ownKinds cX5_ownKinds 4 (some .int)]
def wsX5_fold : List Cond := .code yX5_fold cX5_fold 6 (some .int) :: ((wsX5_fold_r1 ++ wsX5_fold_r2) ++ wsX50)
def wsX5_unfold : List Cond := .code yX5_unfold cX5_unfold 2 (some .int) :: ([.fieldLink RX5 19 "PaperGuildModel" "steps" "[I", .fieldLink RX5 25 "PaperGuildModel" "kinds" "[I", .methodLink RX5 90 yX5_isModel, .instanceMethod yX5_isModel, .selects RX5 yX5_isModel yX5_isModel, .initialized RX5, .code yX5_isModel cX5_isModel 2 (some .boolean), .fieldLink RX5 56 "PaperGuildModel" "models" "I", .fieldLink RX5 52 "PaperGuildModel" "thrown" "I", .methodLink RX5 59 yX5_in, .static yX5_in, .code yX5_in cX5_in 3 (some .boolean), .methodLink RX5 67 yX5_fails, .instanceMethod yX5_fails, .selects RX5 yX5_fails yX5_fails, .code yX5_fails cX5_fails 2 (some .int)] ++ wsX50)
def wsX5_used : List Cond := .code yX5_used cX5_used 5 (some .int) :: ([.fieldLink RX5 56 "PaperGuildModel" "models" "I", .fieldLink RX5 22 "PaperGuildModel" "uses" "[I"] ++ wsX50)
def wsX5_use : List Cond := .code yX5_use cX5_use 4 (some .boolean) :: ([.fieldLink RX5 56 "PaperGuildModel" "models" "I", .fieldLink RX5 52 "PaperGuildModel" "thrown" "I", .fieldLink RX5 22 "PaperGuildModel" "uses" "[I", .methodLink RX5 59 yX5_in, .static yX5_in, .initialized RX5, .code yX5_in cX5_in 3 (some .boolean), .methodLink RX5 94 yX5_used, .instanceMethod yX5_used, .selects RX5 yX5_used yX5_used, .code yX5_used cX5_used 5 (some .int)] ++ wsX50)
def wsX5_setRoll : List Cond := .code yX5_setRoll cX5_setRoll 4 (some .int) :: ([.constant RX5 97 (1048575), .fieldLink RX5 52 "PaperGuildModel" "thrown" "I", .fieldLink RX5 98 "PaperGuildModel" "roll" "I", .fieldLink RX5 101 "PaperGuildModel" "demand" "I", .methodLink RX5 59 yX5_in, .static yX5_in, .initialized RX5, .code yX5_in cX5_in 3 (some .boolean)] ++ wsX50)
def wsX5_bits : List Cond := .code yX5_bits cX5_bits 3 (some .int) :: ([])
def wsX5_teach : List Cond := .code yX5_teach cX5_teach 3 (some .int) :: ([.fieldLink RX5 7 "PaperGuildModel" "needs" "[I", .fieldLink RX5 34 "PaperGuildModel" "knows" "[I", .fieldLink RX5 52 "PaperGuildModel" "thrown" "I", .methodLink RX5 59 yX5_in, .static yX5_in, .initialized RX5, .code yX5_in cX5_in 3 (some .boolean), .methodLink RX5 104 yX5_bits, .static yX5_bits, .code yX5_bits cX5_bits 3 (some .int)] ++ wsX50)
def wsX5_models : List Cond := .code yX5_models cX5_models 1 (some .int) :: ([.fieldLink RX5 52 "PaperGuildModel" "thrown" "I", .fieldLink RX5 56 "PaperGuildModel" "models" "I"] ++ wsX50)
def wsX5_steps : List Cond := .code yX5_steps cX5_steps 2 (some .int) :: ([.fieldLink RX5 19 "PaperGuildModel" "steps" "[I", .methodLink RX5 90 yX5_isModel, .instanceMethod yX5_isModel, .selects RX5 yX5_isModel yX5_isModel, .initialized RX5, .code yX5_isModel cX5_isModel 2 (some .boolean), .fieldLink RX5 56 "PaperGuildModel" "models" "I", .fieldLink RX5 52 "PaperGuildModel" "thrown" "I", .methodLink RX5 59 yX5_in, .static yX5_in, .code yX5_in cX5_in 3 (some .boolean)] ++ wsX50)
def wsX5_places_r1 : List Cond := [Cond.fieldLink RX5 73 "PaperGuildModel" "size" "I", Cond.methodLink RX5 90 yX5_isModel, Cond.instanceMethod yX5_isModel, Cond.selects RX5 yX5_isModel yX5_isModel, Cond.initialized RX5, Cond.code yX5_isModel cX5_isModel 2 (some .boolean), Cond.fieldLink RX5 56 "PaperGuildModel" "models" "I", Cond.fieldLink RX5 52 "PaperGuildModel" "thrown" "I", Cond.methodLink RX5 59 yX5_in, Cond.static yX5_in, Cond.code yX5_in cX5_in 3 (some .boolean), Cond.methodLink RX5 84 yX5_folds, Cond.instanceMethod yX5_folds, Cond.selects RX5 yX5_folds yX5_folds, Cond.code yX5_folds cX5_folds 4 none, Cond.fieldLink RX5 16 "PaperGuildModel" "lengths" "[I", Cond.fieldLink RX5 37 "PaperGuildModel" "places" "[I", Cond.fieldLink RX5 40 "PaperGuildModel" "heights" "[I", Cond.fieldLink RX5 43 "PaperGuildModel" "turns" "[I", Cond.fieldLink RX5 70 "PaperGuildModel" "most" "I", Cond.fieldLink RX5 19 "PaperGuildModel" "steps" "[I", Cond.fieldLink RX5 28 "PaperGuildModel" "at" "[I", Cond.fieldLink RX5 31 "PaperGuildModel" "lefts" "[I", Cond.methodLink RX5 76 yX5_counts]
def wsX5_places_r2 : List Cond := [Cond.instanceMethod yX5_counts, Cond.selects RX5 yX5_counts yX5_counts, Cond.code yX5_counts cX5_counts 3 none, Cond.fieldLink RX5 46 "PaperGuildModel" "many" "[I", Cond.methodLink RX5 80 yX5_makes, Cond.instanceMethod yX5_makes, Cond.selects RX5 yX5_makes yX5_makes, Cond.code yX5_makes cX5_makes 10 none]
def wsX5_places : List Cond := .code yX5_places cX5_places 2 (some .int) :: ((wsX5_places_r1 ++ wsX5_places_r2) ++ wsX50)
def wsX5_layersOf : List Cond := .code yX5_layersOf cX5_layersOf 4 (some .int) :: ([.fieldLink RX5 73 "PaperGuildModel" "size" "I", .fieldLink RX5 46 "PaperGuildModel" "many" "[I", .methodLink RX5 84 yX5_folds, .instanceMethod yX5_folds, .selects RX5 yX5_folds yX5_folds, .initialized RX5, .code yX5_folds cX5_folds 4 none, .fieldLink RX5 16 "PaperGuildModel" "lengths" "[I", .fieldLink RX5 37 "PaperGuildModel" "places" "[I", .fieldLink RX5 40 "PaperGuildModel" "heights" "[I", .fieldLink RX5 43 "PaperGuildModel" "turns" "[I", .fieldLink RX5 70 "PaperGuildModel" "most" "I", .fieldLink RX5 19 "PaperGuildModel" "steps" "[I", .fieldLink RX5 28 "PaperGuildModel" "at" "[I", .fieldLink RX5 31 "PaperGuildModel" "lefts" "[I", .methodLink RX5 76 yX5_counts, .instanceMethod yX5_counts, .selects RX5 yX5_counts yX5_counts, .code yX5_counts cX5_counts 3 none, .methodLink RX5 80 yX5_makes, .instanceMethod yX5_makes, .selects RX5 yX5_makes yX5_makes, .code yX5_makes cX5_makes 10 none] ++ wsX50)
def wsX5_layers_r1 : List Cond := [Cond.methodLink RX5 90 yX5_isModel, Cond.instanceMethod yX5_isModel, Cond.selects RX5 yX5_isModel yX5_isModel, Cond.initialized RX5, Cond.code yX5_isModel cX5_isModel 2 (some .boolean), Cond.fieldLink RX5 56 "PaperGuildModel" "models" "I", Cond.fieldLink RX5 52 "PaperGuildModel" "thrown" "I", Cond.methodLink RX5 59 yX5_in, Cond.static yX5_in, Cond.code yX5_in cX5_in 3 (some .boolean), Cond.methodLink RX5 107 yX5_layersOf, Cond.instanceMethod yX5_layersOf, Cond.selects RX5 yX5_layersOf yX5_layersOf, Cond.code yX5_layersOf cX5_layersOf 4 (some .int), Cond.fieldLink RX5 73 "PaperGuildModel" "size" "I", Cond.fieldLink RX5 46 "PaperGuildModel" "many" "[I", Cond.methodLink RX5 84 yX5_folds, Cond.instanceMethod yX5_folds, Cond.selects RX5 yX5_folds yX5_folds, Cond.code yX5_folds cX5_folds 4 none, Cond.fieldLink RX5 16 "PaperGuildModel" "lengths" "[I", Cond.fieldLink RX5 37 "PaperGuildModel" "places" "[I", Cond.fieldLink RX5 40 "PaperGuildModel" "heights" "[I", Cond.fieldLink RX5 43 "PaperGuildModel" "turns" "[I"]
def wsX5_layers_r2 : List Cond := [Cond.fieldLink RX5 70 "PaperGuildModel" "most" "I", Cond.fieldLink RX5 19 "PaperGuildModel" "steps" "[I", Cond.fieldLink RX5 28 "PaperGuildModel" "at" "[I", Cond.fieldLink RX5 31 "PaperGuildModel" "lefts" "[I", Cond.methodLink RX5 76 yX5_counts, Cond.instanceMethod yX5_counts, Cond.selects RX5 yX5_counts yX5_counts, Cond.code yX5_counts cX5_counts 3 none, Cond.methodLink RX5 80 yX5_makes, Cond.instanceMethod yX5_makes, Cond.selects RX5 yX5_makes yX5_makes, Cond.code yX5_makes cX5_makes 10 none]
def wsX5_layers : List Cond := .code yX5_layers cX5_layers 2 (some .int) :: ((wsX5_layers_r1 ++ wsX5_layers_r2) ++ wsX50)
def wsX5_cellAt_r1 : List Cond := [Cond.fieldLink RX5 16 "PaperGuildModel" "lengths" "[I", Cond.fieldLink RX5 37 "PaperGuildModel" "places" "[I", Cond.fieldLink RX5 40 "PaperGuildModel" "heights" "[I", Cond.methodLink RX5 90 yX5_isModel, Cond.instanceMethod yX5_isModel, Cond.selects RX5 yX5_isModel yX5_isModel, Cond.initialized RX5, Cond.code yX5_isModel cX5_isModel 2 (some .boolean), Cond.fieldLink RX5 56 "PaperGuildModel" "models" "I", Cond.fieldLink RX5 52 "PaperGuildModel" "thrown" "I", Cond.methodLink RX5 59 yX5_in, Cond.static yX5_in, Cond.code yX5_in cX5_in 3 (some .boolean), Cond.methodLink RX5 84 yX5_folds, Cond.instanceMethod yX5_folds, Cond.selects RX5 yX5_folds yX5_folds, Cond.code yX5_folds cX5_folds 4 none, Cond.fieldLink RX5 43 "PaperGuildModel" "turns" "[I", Cond.fieldLink RX5 73 "PaperGuildModel" "size" "I", Cond.fieldLink RX5 70 "PaperGuildModel" "most" "I", Cond.fieldLink RX5 19 "PaperGuildModel" "steps" "[I", Cond.fieldLink RX5 28 "PaperGuildModel" "at" "[I", Cond.fieldLink RX5 31 "PaperGuildModel" "lefts" "[I", Cond.methodLink RX5 76 yX5_counts]
def wsX5_cellAt_r2 : List Cond := [Cond.instanceMethod yX5_counts, Cond.selects RX5 yX5_counts yX5_counts, Cond.code yX5_counts cX5_counts 3 none, Cond.fieldLink RX5 46 "PaperGuildModel" "many" "[I", Cond.methodLink RX5 80 yX5_makes, Cond.instanceMethod yX5_makes, Cond.selects RX5 yX5_makes yX5_makes, Cond.code yX5_makes cX5_makes 10 none, Cond.methodLink RX5 67 yX5_fails, Cond.instanceMethod yX5_fails, Cond.selects RX5 yX5_fails yX5_fails, Cond.code yX5_fails cX5_fails 2 (some .int)]
def wsX5_cellAt : List Cond := .code yX5_cellAt cX5_cellAt 5 (some .int) :: ((wsX5_cellAt_r1 ++ wsX5_cellAt_r2) ++ wsX50)
def wsX5_isCell : List Cond := .code yX5_isCell cX5_isCell 3 (some .boolean) :: ([.fieldLink RX5 56 "PaperGuildModel" "models" "I", .fieldLink RX5 16 "PaperGuildModel" "lengths" "[I", .fieldLink RX5 52 "PaperGuildModel" "thrown" "I", .methodLink RX5 59 yX5_in, .static yX5_in, .initialized RX5, .code yX5_in cX5_in 3 (some .boolean)] ++ wsX50)
def wsX5_placeOf_r1 : List Cond := [Cond.fieldLink RX5 37 "PaperGuildModel" "places" "[I", Cond.methodLink RX5 110 yX5_isCell, Cond.instanceMethod yX5_isCell, Cond.selects RX5 yX5_isCell yX5_isCell, Cond.initialized RX5, Cond.code yX5_isCell cX5_isCell 3 (some .boolean), Cond.fieldLink RX5 56 "PaperGuildModel" "models" "I", Cond.fieldLink RX5 16 "PaperGuildModel" "lengths" "[I", Cond.fieldLink RX5 52 "PaperGuildModel" "thrown" "I", Cond.methodLink RX5 59 yX5_in, Cond.static yX5_in, Cond.code yX5_in cX5_in 3 (some .boolean), Cond.methodLink RX5 84 yX5_folds, Cond.instanceMethod yX5_folds, Cond.selects RX5 yX5_folds yX5_folds, Cond.code yX5_folds cX5_folds 4 none, Cond.fieldLink RX5 40 "PaperGuildModel" "heights" "[I", Cond.fieldLink RX5 43 "PaperGuildModel" "turns" "[I", Cond.fieldLink RX5 73 "PaperGuildModel" "size" "I", Cond.fieldLink RX5 70 "PaperGuildModel" "most" "I", Cond.fieldLink RX5 19 "PaperGuildModel" "steps" "[I", Cond.fieldLink RX5 28 "PaperGuildModel" "at" "[I", Cond.fieldLink RX5 31 "PaperGuildModel" "lefts" "[I", Cond.methodLink RX5 76 yX5_counts]
def wsX5_placeOf_r2 : List Cond := [Cond.instanceMethod yX5_counts, Cond.selects RX5 yX5_counts yX5_counts, Cond.code yX5_counts cX5_counts 3 none, Cond.fieldLink RX5 46 "PaperGuildModel" "many" "[I", Cond.methodLink RX5 80 yX5_makes, Cond.instanceMethod yX5_makes, Cond.selects RX5 yX5_makes yX5_makes, Cond.code yX5_makes cX5_makes 10 none]
def wsX5_placeOf : List Cond := .code yX5_placeOf cX5_placeOf 3 (some .int) :: ((wsX5_placeOf_r1 ++ wsX5_placeOf_r2) ++ wsX50)
def wsX5_isTurned_r1 : List Cond := [Cond.fieldLink RX5 43 "PaperGuildModel" "turns" "[I", Cond.methodLink RX5 110 yX5_isCell, Cond.instanceMethod yX5_isCell, Cond.selects RX5 yX5_isCell yX5_isCell, Cond.initialized RX5, Cond.code yX5_isCell cX5_isCell 3 (some .boolean), Cond.fieldLink RX5 56 "PaperGuildModel" "models" "I", Cond.fieldLink RX5 16 "PaperGuildModel" "lengths" "[I", Cond.fieldLink RX5 52 "PaperGuildModel" "thrown" "I", Cond.methodLink RX5 59 yX5_in, Cond.static yX5_in, Cond.code yX5_in cX5_in 3 (some .boolean), Cond.methodLink RX5 84 yX5_folds, Cond.instanceMethod yX5_folds, Cond.selects RX5 yX5_folds yX5_folds, Cond.code yX5_folds cX5_folds 4 none, Cond.fieldLink RX5 37 "PaperGuildModel" "places" "[I", Cond.fieldLink RX5 40 "PaperGuildModel" "heights" "[I", Cond.fieldLink RX5 73 "PaperGuildModel" "size" "I", Cond.fieldLink RX5 70 "PaperGuildModel" "most" "I", Cond.fieldLink RX5 19 "PaperGuildModel" "steps" "[I", Cond.fieldLink RX5 28 "PaperGuildModel" "at" "[I", Cond.fieldLink RX5 31 "PaperGuildModel" "lefts" "[I", Cond.methodLink RX5 76 yX5_counts]
def wsX5_isTurned_r2 : List Cond := [Cond.instanceMethod yX5_counts, Cond.selects RX5 yX5_counts yX5_counts, Cond.code yX5_counts cX5_counts 3 none, Cond.fieldLink RX5 46 "PaperGuildModel" "many" "[I", Cond.methodLink RX5 80 yX5_makes, Cond.instanceMethod yX5_makes, Cond.selects RX5 yX5_makes yX5_makes, Cond.code yX5_makes cX5_makes 10 none]
def wsX5_isTurned : List Cond := .code yX5_isTurned cX5_isTurned 3 (some .boolean) :: ((wsX5_isTurned_r1 ++ wsX5_isTurned_r2) ++ wsX50)
def wsX5_layersByFollowing_r1 : List Cond := [Cond.methodLink RX5 90 yX5_isModel, Cond.instanceMethod yX5_isModel, Cond.selects RX5 yX5_isModel yX5_isModel, Cond.initialized RX5, Cond.code yX5_isModel cX5_isModel 2 (some .boolean), Cond.fieldLink RX5 56 "PaperGuildModel" "models" "I", Cond.fieldLink RX5 52 "PaperGuildModel" "thrown" "I", Cond.methodLink RX5 59 yX5_in, Cond.static yX5_in, Cond.code yX5_in cX5_in 3 (some .boolean), Cond.methodLink RX5 107 yX5_layersOf, Cond.instanceMethod yX5_layersOf, Cond.selects RX5 yX5_layersOf yX5_layersOf, Cond.code yX5_layersOf cX5_layersOf 4 (some .int), Cond.fieldLink RX5 73 "PaperGuildModel" "size" "I", Cond.fieldLink RX5 46 "PaperGuildModel" "many" "[I", Cond.methodLink RX5 84 yX5_folds, Cond.instanceMethod yX5_folds, Cond.selects RX5 yX5_folds yX5_folds, Cond.code yX5_folds cX5_folds 4 none, Cond.fieldLink RX5 16 "PaperGuildModel" "lengths" "[I", Cond.fieldLink RX5 37 "PaperGuildModel" "places" "[I", Cond.fieldLink RX5 40 "PaperGuildModel" "heights" "[I", Cond.fieldLink RX5 43 "PaperGuildModel" "turns" "[I"]
def wsX5_layersByFollowing_r2 : List Cond := [Cond.fieldLink RX5 70 "PaperGuildModel" "most" "I", Cond.fieldLink RX5 19 "PaperGuildModel" "steps" "[I", Cond.fieldLink RX5 28 "PaperGuildModel" "at" "[I", Cond.fieldLink RX5 31 "PaperGuildModel" "lefts" "[I", Cond.methodLink RX5 76 yX5_counts, Cond.instanceMethod yX5_counts, Cond.selects RX5 yX5_counts yX5_counts, Cond.code yX5_counts cX5_counts 3 none, Cond.methodLink RX5 80 yX5_makes, Cond.instanceMethod yX5_makes, Cond.selects RX5 yX5_makes yX5_makes, Cond.code yX5_makes cX5_makes 10 none]
def wsX5_layersByFollowing : List Cond := .code yX5_layersByFollowing cX5_layersByFollowing 2 (some .int) :: ((wsX5_layersByFollowing_r1 ++ wsX5_layersByFollowing_r2) ++ wsX50)
def wsX5_bears_r1 : List Cond := [Cond.fieldLink RX5 52 "PaperGuildModel" "thrown" "I", Cond.fieldLink RX5 70 "PaperGuildModel" "most" "I", Cond.methodLink RX5 90 yX5_isModel, Cond.instanceMethod yX5_isModel, Cond.selects RX5 yX5_isModel yX5_isModel, Cond.initialized RX5, Cond.code yX5_isModel cX5_isModel 2 (some .boolean), Cond.fieldLink RX5 56 "PaperGuildModel" "models" "I", Cond.methodLink RX5 59 yX5_in, Cond.static yX5_in, Cond.code yX5_in cX5_in 3 (some .boolean), Cond.methodLink RX5 84 yX5_folds, Cond.instanceMethod yX5_folds, Cond.selects RX5 yX5_folds yX5_folds, Cond.code yX5_folds cX5_folds 4 none, Cond.fieldLink RX5 16 "PaperGuildModel" "lengths" "[I", Cond.fieldLink RX5 37 "PaperGuildModel" "places" "[I", Cond.fieldLink RX5 40 "PaperGuildModel" "heights" "[I", Cond.fieldLink RX5 43 "PaperGuildModel" "turns" "[I", Cond.fieldLink RX5 73 "PaperGuildModel" "size" "I", Cond.fieldLink RX5 19 "PaperGuildModel" "steps" "[I", Cond.fieldLink RX5 28 "PaperGuildModel" "at" "[I", Cond.fieldLink RX5 31 "PaperGuildModel" "lefts" "[I", Cond.methodLink RX5 76 yX5_counts]
def wsX5_bears_r2 : List Cond := [Cond.instanceMethod yX5_counts, Cond.selects RX5 yX5_counts yX5_counts, Cond.code yX5_counts cX5_counts 3 none, Cond.fieldLink RX5 46 "PaperGuildModel" "many" "[I", Cond.methodLink RX5 80 yX5_makes, Cond.instanceMethod yX5_makes, Cond.selects RX5 yX5_makes yX5_makes, Cond.code yX5_makes cX5_makes 10 none]
def wsX5_bears : List Cond := .code yX5_bears cX5_bears 4 (some .boolean) :: ((wsX5_bears_r1 ++ wsX5_bears_r2) ++ wsX50)
def wsX5_kindsFor : List Cond := .code yX5_kindsFor cX5_kindsFor 4 (some .int) :: ([.fieldLink RX5 56 "PaperGuildModel" "models" "I", .methodLink RX5 94 yX5_used, .instanceMethod yX5_used, .selects RX5 yX5_used yX5_used, .initialized RX5, .code yX5_used cX5_used 5 (some .int), .fieldLink RX5 22 "PaperGuildModel" "uses" "[I", .methodLink RX5 87 yX5_ownKinds, .instanceMethod yX5_ownKinds, .selects RX5 yX5_ownKinds yX5_ownKinds, .code yX5_ownKinds cX5_ownKinds 4 (some .int), .fieldLink RX5 19 "PaperGuildModel" "steps" "[I", .fieldLink RX5 25 "PaperGuildModel" "kinds" "[I"] ++ wsX50)
def wsX5_kindsOf_r1 : List Cond := [Cond.methodLink RX5 90 yX5_isModel, Cond.instanceMethod yX5_isModel, Cond.selects RX5 yX5_isModel yX5_isModel, Cond.initialized RX5, Cond.code yX5_isModel cX5_isModel 2 (some .boolean), Cond.fieldLink RX5 56 "PaperGuildModel" "models" "I", Cond.fieldLink RX5 52 "PaperGuildModel" "thrown" "I", Cond.methodLink RX5 59 yX5_in, Cond.static yX5_in, Cond.code yX5_in cX5_in 3 (some .boolean), Cond.methodLink RX5 114 yX5_kindsFor, Cond.instanceMethod yX5_kindsFor, Cond.selects RX5 yX5_kindsFor yX5_kindsFor, Cond.code yX5_kindsFor cX5_kindsFor 4 (some .int), Cond.methodLink RX5 94 yX5_used, Cond.instanceMethod yX5_used, Cond.selects RX5 yX5_used yX5_used, Cond.code yX5_used cX5_used 5 (some .int), Cond.fieldLink RX5 22 "PaperGuildModel" "uses" "[I", Cond.methodLink RX5 87 yX5_ownKinds, Cond.instanceMethod yX5_ownKinds, Cond.selects RX5 yX5_ownKinds yX5_ownKinds, Cond.code yX5_ownKinds cX5_ownKinds 4 (some .int), Cond.fieldLink RX5 19 "PaperGuildModel" "steps" "[I"]
def wsX5_kindsOf_r2 : List Cond := [Cond.fieldLink RX5 25 "PaperGuildModel" "kinds" "[I"]
def wsX5_kindsOf : List Cond := .code yX5_kindsOf cX5_kindsOf 2 (some .int) :: ((wsX5_kindsOf_r1 ++ wsX5_kindsOf_r2) ++ wsX50)
def wsX5_isExam : List Cond := .code yX5_isExam cX5_isExam 3 (some .boolean) :: ([.fieldLink RX5 56 "PaperGuildModel" "models" "I", .fieldLink RX5 52 "PaperGuildModel" "thrown" "I", .methodLink RX5 59 yX5_in, .static yX5_in, .initialized RX5, .code yX5_in cX5_in 3 (some .boolean)] ++ wsX50)
def wsX5_mayFold_r1 : List Cond := [Cond.fieldLink RX5 34 "PaperGuildModel" "knows" "[I", Cond.methodLink RX5 117 yX5_isExam, Cond.instanceMethod yX5_isExam, Cond.selects RX5 yX5_isExam yX5_isExam, Cond.initialized RX5, Cond.code yX5_isExam cX5_isExam 3 (some .boolean), Cond.fieldLink RX5 56 "PaperGuildModel" "models" "I", Cond.fieldLink RX5 52 "PaperGuildModel" "thrown" "I", Cond.methodLink RX5 59 yX5_in, Cond.static yX5_in, Cond.code yX5_in cX5_in 3 (some .boolean), Cond.methodLink RX5 114 yX5_kindsFor, Cond.instanceMethod yX5_kindsFor, Cond.selects RX5 yX5_kindsFor yX5_kindsFor, Cond.code yX5_kindsFor cX5_kindsFor 4 (some .int), Cond.methodLink RX5 94 yX5_used, Cond.instanceMethod yX5_used, Cond.selects RX5 yX5_used yX5_used, Cond.code yX5_used cX5_used 5 (some .int), Cond.fieldLink RX5 22 "PaperGuildModel" "uses" "[I", Cond.methodLink RX5 87 yX5_ownKinds, Cond.instanceMethod yX5_ownKinds, Cond.selects RX5 yX5_ownKinds yX5_ownKinds, Cond.code yX5_ownKinds cX5_ownKinds 4 (some .int)]
def wsX5_mayFold_r2 : List Cond := [Cond.fieldLink RX5 19 "PaperGuildModel" "steps" "[I", Cond.fieldLink RX5 25 "PaperGuildModel" "kinds" "[I"]
def wsX5_mayFold : List Cond := .code yX5_mayFold cX5_mayFold 3 (some .boolean) :: ((wsX5_mayFold_r1 ++ wsX5_mayFold_r2) ++ wsX50)
def wsX5_lessons_r1 : List Cond := [Cond.fieldLink RX5 34 "PaperGuildModel" "knows" "[I", Cond.fieldLink RX5 7 "PaperGuildModel" "needs" "[I", Cond.methodLink RX5 117 yX5_isExam, Cond.instanceMethod yX5_isExam, Cond.selects RX5 yX5_isExam yX5_isExam, Cond.initialized RX5, Cond.code yX5_isExam cX5_isExam 3 (some .boolean), Cond.fieldLink RX5 56 "PaperGuildModel" "models" "I", Cond.fieldLink RX5 52 "PaperGuildModel" "thrown" "I", Cond.methodLink RX5 59 yX5_in, Cond.static yX5_in, Cond.code yX5_in cX5_in 3 (some .boolean), Cond.methodLink RX5 114 yX5_kindsFor, Cond.instanceMethod yX5_kindsFor, Cond.selects RX5 yX5_kindsFor yX5_kindsFor, Cond.code yX5_kindsFor cX5_kindsFor 4 (some .int), Cond.methodLink RX5 94 yX5_used, Cond.instanceMethod yX5_used, Cond.selects RX5 yX5_used yX5_used, Cond.code yX5_used cX5_used 5 (some .int), Cond.fieldLink RX5 22 "PaperGuildModel" "uses" "[I", Cond.methodLink RX5 87 yX5_ownKinds, Cond.instanceMethod yX5_ownKinds, Cond.selects RX5 yX5_ownKinds yX5_ownKinds]
def wsX5_lessons_r2 : List Cond := [Cond.code yX5_ownKinds cX5_ownKinds 4 (some .int), Cond.fieldLink RX5 19 "PaperGuildModel" "steps" "[I", Cond.fieldLink RX5 25 "PaperGuildModel" "kinds" "[I", Cond.methodLink RX5 104 yX5_bits, Cond.static yX5_bits, Cond.code yX5_bits cX5_bits 3 (some .int)]
def wsX5_lessons : List Cond := .code yX5_lessons cX5_lessons 6 (some .int) :: ((wsX5_lessons_r1 ++ wsX5_lessons_r2) ++ wsX50)
def wsX5_credit : List Cond := .code yX5_credit cX5_credit 6 (some .int) :: ([.fieldLink RX5 52 "PaperGuildModel" "thrown" "I", .fieldLink RX5 56 "PaperGuildModel" "models" "I", .fieldLink RX5 13 "PaperGuildModel" "authors" "[I", .methodLink RX5 59 yX5_in, .static yX5_in, .initialized RX5, .code yX5_in cX5_in 3 (some .boolean), .methodLink RX5 94 yX5_used, .instanceMethod yX5_used, .selects RX5 yX5_used yX5_used, .code yX5_used cX5_used 5 (some .int), .fieldLink RX5 22 "PaperGuildModel" "uses" "[I"] ++ wsX50)
def wsX5_fewest : List Cond := .code yX5_fewest cX5_fewest 4 none :: ([.fieldLink RX5 49 "PaperGuildModel" "cuts" "[I", .fieldLink RX5 98 "PaperGuildModel" "roll" "I", .fieldLink RX5 101 "PaperGuildModel" "demand" "I"] ++ wsX50)
def wsX5_fewestPieces : List Cond := .code yX5_fewestPieces cX5_fewestPieces 1 (some .int) :: ([.fieldLink RX5 52 "PaperGuildModel" "thrown" "I", .fieldLink RX5 49 "PaperGuildModel" "cuts" "[I", .fieldLink RX5 98 "PaperGuildModel" "roll" "I", .methodLink RX5 120 yX5_fewest, .instanceMethod yX5_fewest, .selects RX5 yX5_fewest yX5_fewest, .initialized RX5, .code yX5_fewest cX5_fewest 4 none, .fieldLink RX5 101 "PaperGuildModel" "demand" "I"] ++ wsX50)
def wsX5_ways : List Cond := .code yX5_ways cX5_ways 3 (some .int) :: ([.fieldLink RX5 52 "PaperGuildModel" "thrown" "I", .fieldLink RX5 98 "PaperGuildModel" "roll" "I", .fieldLink RX5 49 "PaperGuildModel" "cuts" "[I", .fieldLink RX5 101 "PaperGuildModel" "demand" "I", .constant RX5 123 (1000007)] ++ wsX50)
def wsX5_leastRest : List Cond := .code yX5_leastRest cX5_leastRest 2 (some .int) :: ([.fieldLink RX5 52 "PaperGuildModel" "thrown" "I", .fieldLink RX5 49 "PaperGuildModel" "cuts" "[I", .fieldLink RX5 98 "PaperGuildModel" "roll" "I", .methodLink RX5 120 yX5_fewest, .instanceMethod yX5_fewest, .selects RX5 yX5_fewest yX5_fewest, .initialized RX5, .code yX5_fewest cX5_fewest 4 none, .fieldLink RX5 101 "PaperGuildModel" "demand" "I"] ++ wsX50)
def wsJ9_max_7cf53 : List Cond := .code yJ9_max_7cf53 cJ9_max_7cf53 2 (some .int) :: ([])
def wsJ9_min_7cf53 : List Cond := .code yJ9_min_7cf53 cJ9_min_7cf53 2 (some .int) :: ([])
def wsL_setNeeds : List Cond := .codeWith yL_setNeeds cL_setNeeds 5 (some .int) [(0, 10, 13, 13), (0, 10, 17, 15)] :: ([.classLink RL 13 "java/lang/IndexOutOfBoundsException", .classLink RL 15 "java/lang/IllegalArgumentException", .methodLink RL 7 yX4_setNeeds, .instanceMethod yX4_setNeeds, .selects RX4 yX4_setNeeds yX4_setNeeds, .initialized RX4, .code yX4_setNeeds cX4_setNeeds 4 (some .int), .classLink RX4 50 "java/lang/IllegalArgumentException", .initialized "java/lang/IllegalArgumentException", .fieldLink RX4 9 "PaperGuild" "needed" "[I", .methodLink RX4 46 yX4_checkKind, .instanceMethod yX4_checkKind, .selects RX4 yX4_checkKind yX4_checkKind, .code yX4_checkKind cX4_checkKind 2 none, .classLink RX4 149 "java/lang/IndexOutOfBoundsException", .initialized "java/lang/IndexOutOfBoundsException", .methodLink RX4 57 yX4_reached, .static yX4_reached, .code yX4_reached cX4_reached 6 (some .int), .methodLink RX4 61 yX4_holds, .static yX4_holds, .code yX4_holds cX4_holds 2 (some .boolean)] ++ wsX40 ++ (vx_atS RX4 54 "java/lang/IllegalArgumentException" ["java/lang/RuntimeException", "java/lang/Exception"]).filter goodWord ++ (vx_atS RX4 153 "java/lang/IndexOutOfBoundsException" ["java/lang/RuntimeException", "java/lang/Exception"]).filter goodWord)
def wsL_addModel_r1 : List Cond := [Cond.classLink RL 13 "java/lang/IndexOutOfBoundsException", Cond.classLink RL 15 "java/lang/IllegalArgumentException", Cond.classLink RL 20 "java/lang/IllegalStateException", Cond.methodLink RL 17 yX4_addModel, Cond.instanceMethod yX4_addModel, Cond.selects RX4 yX4_addModel yX4_addModel, Cond.initialized RX4, Cond.code yX4_addModel cX4_addModel 3 (some .int), Cond.classLink RX4 50 "java/lang/IllegalArgumentException", Cond.initialized "java/lang/IllegalArgumentException", Cond.classLink RX4 72 "java/lang/IllegalStateException", Cond.initialized "java/lang/IllegalStateException", Cond.fieldLink RX4 25 "PaperGuild" "modelCount" "I", Cond.fieldLink RX4 18 "PaperGuild" "guildModels" "[LPaperGuild$Model;", Cond.classLink RX4 16 RX2, Cond.instantiable RX2 7, Cond.initialized RX2, Cond.methodLink RX4 67 yX4_checkAuthor, Cond.instanceMethod yX4_checkAuthor, Cond.selects RX4 yX4_checkAuthor yX4_checkAuthor, Cond.code yX4_checkAuthor cX4_checkAuthor 2 none, Cond.classLink RX4 149 "java/lang/IndexOutOfBoundsException", Cond.initialized "java/lang/IndexOutOfBoundsException", Cond.methodLink RX4 77 yX2_init]
def wsL_addModel_r2 : List Cond := [Cond.instanceMethod yX2_init, Cond.code yX2_init cX2_init 3 none, Cond.methodLink RX2 3 objectInit, Cond.instanceMethod objectInit, Cond.code objectInit ⟨#[0xb1]⟩ 1 none, Cond.arrayClass .int, Cond.fieldLink RX2 9 "PaperGuild$Model" "stepKinds" "[I", Cond.fieldLink RX2 15 "PaperGuild$Model" "stepPlaces" "[I", Cond.arrayClass .boolean, Cond.fieldLink RX2 18 "PaperGuild$Model" "stepsFromLeft" "[Z", Cond.fieldLink RX2 22 "PaperGuild$Model" "stepCount" "I", Cond.fieldLink RX2 26 "PaperGuild$Model" "author" "I", Cond.fieldLink RX2 29 "PaperGuild$Model" "length" "I", Cond.classLink RX2 32 RX3, Cond.instantiable RX3 6, Cond.initialized RX3, Cond.fieldLink RX2 35 "PaperGuild$Model" "stacks" "LPaperGuild$Stacks;", Cond.instanceMethod yX3_init, Cond.code yX3_init cX3_init 1 none, Cond.methodLink RX3 3 objectInit, Cond.fieldLink RX3 9 "PaperGuild$Stacks" "cells" "[I", Cond.fieldLink RX3 15 "PaperGuild$Stacks" "starts" "[I", Cond.fieldLink RX3 18 "PaperGuild$Stacks" "nextCells" "[I", Cond.fieldLink RX3 21 "PaperGuild$Stacks" "nextStarts" "[I"]
def wsL_addModel_r3 : List Cond := [Cond.fieldLink RX3 24 "PaperGuild$Stacks" "filled" "I", Cond.fieldLink RX3 28 "PaperGuild$Stacks" "span" "I", Cond.methodLink RX2 39 yX3_layFlat, Cond.instanceMethod yX3_layFlat, Cond.selects RX3 yX3_layFlat yX3_layFlat, Cond.code yX3_layFlat cX3_layFlat 3 none, Cond.methodLink RX3 31 Lib.Math.min.name, Cond.static Lib.Math.min.name, Cond.initialized "java/lang/Math", Cond.code Lib.Math.min.name Lib.Math.min.code 2 (some .int), Cond.methodLink RX3 37 Lib.Math.max.name, Cond.static Lib.Math.max.name, Cond.code Lib.Math.max.name Lib.Math.max.code 2 (some .int)]
def wsL_addModel : List Cond := .codeWith yL_addModel cL_addModel 5 (some .int) [(0, 10, 13, 13), (0, 10, 17, 15), (0, 10, 21, 20)] :: ((wsL_addModel_r1 ++ (wsL_addModel_r2 ++ wsL_addModel_r3)) ++ wsX40 ++ wsX20 ++ wsX30 ++ (vx_atS RX4 54 "java/lang/IllegalArgumentException" ["java/lang/RuntimeException", "java/lang/Exception"]).filter goodWord ++ (vx_atS RX4 76 "java/lang/IllegalStateException" ["java/lang/RuntimeException", "java/lang/Exception"]).filter goodWord ++ (vx_atS RX4 153 "java/lang/IndexOutOfBoundsException" ["java/lang/RuntimeException", "java/lang/Exception"]).filter goodWord)
def wsL_fold_r1 : List Cond := [Cond.classLink RL 13 "java/lang/IndexOutOfBoundsException", Cond.classLink RL 15 "java/lang/IllegalArgumentException", Cond.classLink RL 20 "java/lang/IllegalStateException", Cond.methodLink RL 22 yX4_fold, Cond.instanceMethod yX4_fold, Cond.selects RX4 yX4_fold yX4_fold, Cond.initialized RX4, Cond.code yX4_fold cX4_fold 6 (some .int), Cond.classLink RX4 50 "java/lang/IllegalArgumentException", Cond.initialized "java/lang/IllegalArgumentException", Cond.classLink RX4 72 "java/lang/IllegalStateException", Cond.initialized "java/lang/IllegalStateException", Cond.fieldLink RX4 84 "PaperGuild$Model" "stacks" "LPaperGuild$Stacks;", Cond.fieldLink RX4 88 "PaperGuild$Stacks" "span" "I", Cond.fieldLink RX4 95 "PaperGuild$Model" "stepCount" "I", Cond.fieldLink RX4 9 "PaperGuild" "needed" "[I", Cond.methodLink RX4 80 yX4_modelAt, Cond.instanceMethod yX4_modelAt, Cond.selects RX4 yX4_modelAt yX4_modelAt, Cond.code yX4_modelAt cX4_modelAt 3 (some (.object "PaperGuild$Model")), Cond.classLink RX4 149 "java/lang/IndexOutOfBoundsException", Cond.initialized "java/lang/IndexOutOfBoundsException", Cond.fieldLink RX4 18 "PaperGuild" "guildModels" "[LPaperGuild$Model;", Cond.methodLink RX4 118 yX4_checkModel]
def wsL_fold_r2 : List Cond := [Cond.instanceMethod yX4_checkModel, Cond.selects RX4 yX4_checkModel yX4_checkModel, Cond.code yX4_checkModel cX4_checkModel 2 none, Cond.fieldLink RX4 25 "PaperGuild" "modelCount" "I", Cond.methodLink RX4 46 yX4_checkKind, Cond.instanceMethod yX4_checkKind, Cond.selects RX4 yX4_checkKind yX4_checkKind, Cond.code yX4_checkKind cX4_checkKind 2 none, Cond.methodLink RX4 100 yX2_ownKinds, Cond.instanceMethod yX2_ownKinds, Cond.selects RX2 yX2_ownKinds yX2_ownKinds, Cond.initialized RX2, Cond.code yX2_ownKinds cX2_ownKinds 3 (some .int), Cond.fieldLink RX2 22 "PaperGuild$Model" "stepCount" "I", Cond.fieldLink RX2 9 "PaperGuild$Model" "stepKinds" "[I", Cond.methodLink RX4 104 yX4_lacksAny, Cond.static yX4_lacksAny, Cond.code yX4_lacksAny cX4_lacksAny 2 (some .boolean), Cond.methodLink RX4 109 yX2_addStep, Cond.instanceMethod yX2_addStep, Cond.selects RX2 yX2_addStep yX2_addStep, Cond.code yX2_addStep cX2_addStep 4 none, Cond.fieldLink RX2 15 "PaperGuild$Model" "stepPlaces" "[I", Cond.fieldLink RX2 18 "PaperGuild$Model" "stepsFromLeft" "[Z"]
def wsL_fold_r3 : List Cond := [Cond.fieldLink RX2 35 "PaperGuild$Model" "stacks" "LPaperGuild$Stacks;", Cond.methodLink RX2 43 yX3_turnOver, Cond.instanceMethod yX3_turnOver, Cond.selects RX3 yX3_turnOver yX3_turnOver, Cond.initialized RX3, Cond.code yX3_turnOver cX3_turnOver 7 none, Cond.fieldLink RX3 28 "PaperGuild$Stacks" "span" "I", Cond.methodLink RX3 31 Lib.Math.min.name, Cond.static Lib.Math.min.name, Cond.initialized "java/lang/Math", Cond.code Lib.Math.min.name Lib.Math.min.code 2 (some .int), Cond.methodLink RX3 37 Lib.Math.max.name, Cond.static Lib.Math.max.name, Cond.code Lib.Math.max.name Lib.Math.max.code 2 (some .int), Cond.fieldLink RX3 24 "PaperGuild$Stacks" "filled" "I", Cond.fieldLink RX3 21 "PaperGuild$Stacks" "nextStarts" "[I", Cond.methodLink RX3 40 yX3_copyUpwards, Cond.instanceMethod yX3_copyUpwards, Cond.selects RX3 yX3_copyUpwards yX3_copyUpwards, Cond.code yX3_copyUpwards cX3_copyUpwards 4 none, Cond.methodLink RX3 54 yX3_heightAt, Cond.instanceMethod yX3_heightAt, Cond.selects RX3 yX3_heightAt yX3_heightAt, Cond.code yX3_heightAt cX3_heightAt 2 (some .int)]
def wsL_fold_r4 : List Cond := [Cond.fieldLink RX3 15 "PaperGuild$Stacks" "starts" "[I", Cond.methodLink RX3 50 yX3_isPlace, Cond.instanceMethod yX3_isPlace, Cond.selects RX3 yX3_isPlace yX3_isPlace, Cond.code yX3_isPlace cX3_isPlace 2 (some .boolean), Cond.methodLink RX3 58 yX3_copyCell, Cond.instanceMethod yX3_copyCell, Cond.selects RX3 yX3_copyCell yX3_copyCell, Cond.code yX3_copyCell cX3_copyCell 3 none, Cond.fieldLink RX3 18 "PaperGuild$Stacks" "nextCells" "[I", Cond.methodLink RX3 62 yX3_cellIn, Cond.instanceMethod yX3_cellIn, Cond.selects RX3 yX3_cellIn yX3_cellIn, Cond.code yX3_cellIn cX3_cellIn 3 (some .int), Cond.fieldLink RX3 9 "PaperGuild$Stacks" "cells" "[I", Cond.methodLink RX3 44 yX3_copyDownwards, Cond.instanceMethod yX3_copyDownwards, Cond.selects RX3 yX3_copyDownwards yX3_copyDownwards, Cond.code yX3_copyDownwards cX3_copyDownwards 3 none, Cond.methodLink RX3 47 yX3_swapRows, Cond.instanceMethod yX3_swapRows, Cond.selects RX3 yX3_swapRows yX3_swapRows, Cond.code yX3_swapRows cX3_swapRows 3 none]
def wsL_fold : List Cond := .codeWith yL_fold cL_fold 7 (some .int) [(0, 14, 17, 13), (0, 14, 21, 15), (0, 14, 25, 20)] :: ((wsL_fold_r1 ++ (wsL_fold_r2 ++ (wsL_fold_r3 ++ wsL_fold_r4))) ++ wsX20 ++ wsX30 ++ wsX40 ++ (vx_atS RX4 54 "java/lang/IllegalArgumentException" ["java/lang/RuntimeException", "java/lang/Exception"]).filter goodWord ++ (vx_atS RX4 76 "java/lang/IllegalStateException" ["java/lang/RuntimeException", "java/lang/Exception"]).filter goodWord ++ (vx_atS RX4 153 "java/lang/IndexOutOfBoundsException" ["java/lang/RuntimeException", "java/lang/Exception"]).filter goodWord)
def wsL_unfold_r1 : List Cond := [Cond.classLink RL 13 "java/lang/IndexOutOfBoundsException", Cond.classLink RL 20 "java/lang/IllegalStateException", Cond.methodLink RL 26 yX4_unfold, Cond.instanceMethod yX4_unfold, Cond.selects RX4 yX4_unfold yX4_unfold, Cond.initialized RX4, Cond.code yX4_unfold cX4_unfold 3 (some .int), Cond.classLink RX4 72 "java/lang/IllegalStateException", Cond.initialized "java/lang/IllegalStateException", Cond.fieldLink RX4 95 "PaperGuild$Model" "stepCount" "I", Cond.methodLink RX4 80 yX4_modelAt, Cond.instanceMethod yX4_modelAt, Cond.selects RX4 yX4_modelAt yX4_modelAt, Cond.code yX4_modelAt cX4_modelAt 3 (some (.object "PaperGuild$Model")), Cond.classLink RX4 149 "java/lang/IndexOutOfBoundsException", Cond.initialized "java/lang/IndexOutOfBoundsException", Cond.fieldLink RX4 18 "PaperGuild" "guildModels" "[LPaperGuild$Model;", Cond.methodLink RX4 118 yX4_checkModel, Cond.instanceMethod yX4_checkModel, Cond.selects RX4 yX4_checkModel yX4_checkModel, Cond.code yX4_checkModel cX4_checkModel 2 none, Cond.fieldLink RX4 25 "PaperGuild" "modelCount" "I", Cond.methodLink RX4 115 yX2_removeLastStep, Cond.instanceMethod yX2_removeLastStep]
def wsL_unfold_r2 : List Cond := [Cond.selects RX2 yX2_removeLastStep yX2_removeLastStep, Cond.initialized RX2, Cond.code yX2_removeLastStep cX2_removeLastStep 2 (some .int), Cond.fieldLink RX2 22 "PaperGuild$Model" "stepCount" "I", Cond.fieldLink RX2 35 "PaperGuild$Model" "stacks" "LPaperGuild$Stacks;", Cond.fieldLink RX2 29 "PaperGuild$Model" "length" "I", Cond.fieldLink RX2 15 "PaperGuild$Model" "stepPlaces" "[I", Cond.fieldLink RX2 18 "PaperGuild$Model" "stepsFromLeft" "[Z", Cond.fieldLink RX2 9 "PaperGuild$Model" "stepKinds" "[I", Cond.methodLink RX2 39 yX3_layFlat, Cond.instanceMethod yX3_layFlat, Cond.selects RX3 yX3_layFlat yX3_layFlat, Cond.initialized RX3, Cond.code yX3_layFlat cX3_layFlat 3 none, Cond.methodLink RX3 31 Lib.Math.min.name, Cond.static Lib.Math.min.name, Cond.initialized "java/lang/Math", Cond.code Lib.Math.min.name Lib.Math.min.code 2 (some .int), Cond.methodLink RX3 37 Lib.Math.max.name, Cond.static Lib.Math.max.name, Cond.code Lib.Math.max.name Lib.Math.max.code 2 (some .int), Cond.fieldLink RX3 28 "PaperGuild$Stacks" "span" "I", Cond.fieldLink RX3 9 "PaperGuild$Stacks" "cells" "[I", Cond.fieldLink RX3 15 "PaperGuild$Stacks" "starts" "[I"]
def wsL_unfold_r3 : List Cond := [Cond.methodLink RX2 43 yX3_turnOver, Cond.instanceMethod yX3_turnOver, Cond.selects RX3 yX3_turnOver yX3_turnOver, Cond.code yX3_turnOver cX3_turnOver 7 none, Cond.fieldLink RX3 24 "PaperGuild$Stacks" "filled" "I", Cond.fieldLink RX3 21 "PaperGuild$Stacks" "nextStarts" "[I", Cond.methodLink RX3 40 yX3_copyUpwards, Cond.instanceMethod yX3_copyUpwards, Cond.selects RX3 yX3_copyUpwards yX3_copyUpwards, Cond.code yX3_copyUpwards cX3_copyUpwards 4 none, Cond.methodLink RX3 54 yX3_heightAt, Cond.instanceMethod yX3_heightAt, Cond.selects RX3 yX3_heightAt yX3_heightAt, Cond.code yX3_heightAt cX3_heightAt 2 (some .int), Cond.methodLink RX3 50 yX3_isPlace, Cond.instanceMethod yX3_isPlace, Cond.selects RX3 yX3_isPlace yX3_isPlace, Cond.code yX3_isPlace cX3_isPlace 2 (some .boolean), Cond.methodLink RX3 58 yX3_copyCell, Cond.instanceMethod yX3_copyCell, Cond.selects RX3 yX3_copyCell yX3_copyCell, Cond.code yX3_copyCell cX3_copyCell 3 none, Cond.fieldLink RX3 18 "PaperGuild$Stacks" "nextCells" "[I", Cond.methodLink RX3 62 yX3_cellIn]
def wsL_unfold_r4 : List Cond := [Cond.instanceMethod yX3_cellIn, Cond.selects RX3 yX3_cellIn yX3_cellIn, Cond.code yX3_cellIn cX3_cellIn 3 (some .int), Cond.methodLink RX3 44 yX3_copyDownwards, Cond.instanceMethod yX3_copyDownwards, Cond.selects RX3 yX3_copyDownwards yX3_copyDownwards, Cond.code yX3_copyDownwards cX3_copyDownwards 3 none, Cond.methodLink RX3 47 yX3_swapRows, Cond.instanceMethod yX3_swapRows, Cond.selects RX3 yX3_swapRows yX3_swapRows, Cond.code yX3_swapRows cX3_swapRows 3 none]
def wsL_unfold : List Cond := .codeWith yL_unfold cL_unfold 4 (some .int) [(0, 9, 12, 13), (0, 9, 15, 20)] :: ((wsL_unfold_r1 ++ (wsL_unfold_r2 ++ (wsL_unfold_r3 ++ wsL_unfold_r4))) ++ wsX20 ++ wsX40 ++ wsX30 ++ (vx_atS RX4 76 "java/lang/IllegalStateException" ["java/lang/RuntimeException", "java/lang/Exception"]).filter goodWord ++ (vx_atS RX4 153 "java/lang/IndexOutOfBoundsException" ["java/lang/RuntimeException", "java/lang/Exception"]).filter goodWord)
def wsL_use_r1 : List Cond := [Cond.classLink RL 13 "java/lang/IndexOutOfBoundsException", Cond.classLink RL 15 "java/lang/IllegalArgumentException", Cond.methodLink RL 30 yX4_use, Cond.instanceMethod yX4_use, Cond.selects RX4 yX4_use yX4_use, Cond.initialized RX4, Cond.code yX4_use cX4_use 4 (some .boolean), Cond.classLink RX4 50 "java/lang/IllegalArgumentException", Cond.initialized "java/lang/IllegalArgumentException", Cond.fieldLink RX4 22 "PaperGuild" "used" "[I", Cond.methodLink RX4 118 yX4_checkModel, Cond.instanceMethod yX4_checkModel, Cond.selects RX4 yX4_checkModel yX4_checkModel, Cond.code yX4_checkModel cX4_checkModel 2 none, Cond.classLink RX4 149 "java/lang/IndexOutOfBoundsException", Cond.initialized "java/lang/IndexOutOfBoundsException", Cond.fieldLink RX4 25 "PaperGuild" "modelCount" "I", Cond.methodLink RX4 121 yX4_modelsCountedFor, Cond.instanceMethod yX4_modelsCountedFor, Cond.selects RX4 yX4_modelsCountedFor yX4_modelsCountedFor, Cond.code yX4_modelsCountedFor cX4_modelsCountedFor 2 (some .int), Cond.methodLink RX4 57 yX4_reached, Cond.static yX4_reached, Cond.code yX4_reached cX4_reached 6 (some .int)]
def wsL_use_r2 : List Cond := [Cond.methodLink RX4 61 yX4_holds, Cond.static yX4_holds, Cond.code yX4_holds cX4_holds 2 (some .boolean)]
def wsL_use : List Cond := .codeWith yL_use cL_use 5 (some .int) [(0, 17, 20, 13), (0, 17, 24, 15)] :: ((wsL_use_r1 ++ wsL_use_r2) ++ wsX40 ++ (vx_atS RX4 54 "java/lang/IllegalArgumentException" ["java/lang/RuntimeException", "java/lang/Exception"]).filter goodWord ++ (vx_atS RX4 153 "java/lang/IndexOutOfBoundsException" ["java/lang/RuntimeException", "java/lang/Exception"]).filter goodWord)
def wsL_setRoll : List Cond := .codeWith yL_setRoll cL_setRoll 5 (some .int) [(0, 10, 13, 15)] :: ([.classLink RL 15 "java/lang/IllegalArgumentException", .methodLink RL 34 yX4_setRoll, .instanceMethod yX4_setRoll, .selects RX4 yX4_setRoll yX4_setRoll, .initialized RX4, .code yX4_setRoll cX4_setRoll 4 (some .int), .classLink RX4 50 "java/lang/IllegalArgumentException", .initialized "java/lang/IllegalArgumentException", .constant RX4 127 (1048575), .fieldLink RX4 42 "PaperGuild" "mill" "LPaperGuild$Mill;", .fieldLink RX4 130 "PaperGuild$Mill" "rollLength" "I", .fieldLink RX4 133 "PaperGuild$Mill" "demanded" "I"] ++ wsX40 ++ wsX10 ++ (vx_atS RX4 54 "java/lang/IllegalArgumentException" ["java/lang/RuntimeException", "java/lang/Exception"]).filter goodWord)
def wsL_teach_r1 : List Cond := [Cond.classLink RL 13 "java/lang/IndexOutOfBoundsException", Cond.classLink RL 20 "java/lang/IllegalStateException", Cond.methodLink RL 37 yX4_teach, Cond.instanceMethod yX4_teach, Cond.selects RX4 yX4_teach yX4_teach, Cond.initialized RX4, Cond.code yX4_teach cX4_teach 3 (some .int), Cond.classLink RX4 72 "java/lang/IllegalStateException", Cond.initialized "java/lang/IllegalStateException", Cond.fieldLink RX4 13 "PaperGuild" "known" "[I", Cond.fieldLink RX4 9 "PaperGuild" "needed" "[I", Cond.methodLink RX4 136 yX4_checkPupil, Cond.instanceMethod yX4_checkPupil, Cond.selects RX4 yX4_checkPupil yX4_checkPupil, Cond.code yX4_checkPupil cX4_checkPupil 2 none, Cond.classLink RX4 149 "java/lang/IndexOutOfBoundsException", Cond.initialized "java/lang/IndexOutOfBoundsException", Cond.methodLink RX4 46 yX4_checkKind, Cond.instanceMethod yX4_checkKind, Cond.selects RX4 yX4_checkKind yX4_checkKind, Cond.code yX4_checkKind cX4_checkKind 2 none, Cond.methodLink RX4 104 yX4_lacksAny, Cond.static yX4_lacksAny, Cond.code yX4_lacksAny cX4_lacksAny 2 (some .boolean)]
def wsL_teach_r2 : List Cond := [Cond.methodLink RX4 141 yJ6_bitCount_0f7a4, Cond.static yJ6_bitCount_0f7a4, Cond.initialized RJ6, Cond.code yJ6_bitCount_0f7a4 cJ6_bitCount_0f7a4 1 (some .int), Cond.constant RJ6 265 (1431655765), Cond.constant RJ6 266 (858993459), Cond.constant RJ6 267 (252645135)]
def wsL_teach : List Cond := .codeWith yL_teach cL_teach 5 (some .int) [(0, 10, 13, 13), (0, 10, 17, 20)] :: ((wsL_teach_r1 ++ wsL_teach_r2) ++ wsX40 ++ (vx_atS RX4 76 "java/lang/IllegalStateException" ["java/lang/RuntimeException", "java/lang/Exception"]).filter goodWord ++ (vx_atS RX4 153 "java/lang/IndexOutOfBoundsException" ["java/lang/RuntimeException", "java/lang/Exception"]).filter goodWord)
def wsL_steps : List Cond := .codeWith yL_steps cL_steps 4 (some .int) [(0, 9, 12, 13)] :: ([.classLink RL 13 "java/lang/IndexOutOfBoundsException", .methodLink RL 40 yX4_steps, .instanceMethod yX4_steps, .selects RX4 yX4_steps yX4_steps, .initialized RX4, .code yX4_steps cX4_steps 2 (some .int), .fieldLink RX4 95 "PaperGuild$Model" "stepCount" "I", .methodLink RX4 80 yX4_modelAt, .instanceMethod yX4_modelAt, .selects RX4 yX4_modelAt yX4_modelAt, .code yX4_modelAt cX4_modelAt 3 (some (.object "PaperGuild$Model")), .classLink RX4 149 "java/lang/IndexOutOfBoundsException", .initialized "java/lang/IndexOutOfBoundsException", .fieldLink RX4 18 "PaperGuild" "guildModels" "[LPaperGuild$Model;", .methodLink RX4 118 yX4_checkModel, .instanceMethod yX4_checkModel, .selects RX4 yX4_checkModel yX4_checkModel, .code yX4_checkModel cX4_checkModel 2 none, .fieldLink RX4 25 "PaperGuild" "modelCount" "I"] ++ wsX20 ++ wsX40 ++ (vx_atS RX4 153 "java/lang/IndexOutOfBoundsException" ["java/lang/RuntimeException", "java/lang/Exception"]).filter goodWord)
def wsL_places : List Cond := .codeWith yL_places cL_places 4 (some .int) [(0, 9, 12, 13)] :: ([.classLink RL 13 "java/lang/IndexOutOfBoundsException", .methodLink RL 43 yX4_places, .instanceMethod yX4_places, .selects RX4 yX4_places yX4_places, .initialized RX4, .code yX4_places cX4_places 2 (some .int), .fieldLink RX4 84 "PaperGuild$Model" "stacks" "LPaperGuild$Stacks;", .fieldLink RX4 88 "PaperGuild$Stacks" "span" "I", .methodLink RX4 80 yX4_modelAt, .instanceMethod yX4_modelAt, .selects RX4 yX4_modelAt yX4_modelAt, .code yX4_modelAt cX4_modelAt 3 (some (.object "PaperGuild$Model")), .classLink RX4 149 "java/lang/IndexOutOfBoundsException", .initialized "java/lang/IndexOutOfBoundsException", .fieldLink RX4 18 "PaperGuild" "guildModels" "[LPaperGuild$Model;", .methodLink RX4 118 yX4_checkModel, .instanceMethod yX4_checkModel, .selects RX4 yX4_checkModel yX4_checkModel, .code yX4_checkModel cX4_checkModel 2 none, .fieldLink RX4 25 "PaperGuild" "modelCount" "I"] ++ wsX20 ++ wsX30 ++ wsX40 ++ (vx_atS RX4 153 "java/lang/IndexOutOfBoundsException" ["java/lang/RuntimeException", "java/lang/Exception"]).filter goodWord)
def wsL_layers_r1 : List Cond := [Cond.classLink RL 13 "java/lang/IndexOutOfBoundsException", Cond.methodLink RL 46 yX4_layers, Cond.instanceMethod yX4_layers, Cond.selects RX4 yX4_layers yX4_layers, Cond.initialized RX4, Cond.code yX4_layers cX4_layers 2 (some .int), Cond.fieldLink RX4 84 "PaperGuild$Model" "stacks" "LPaperGuild$Stacks;", Cond.methodLink RX4 80 yX4_modelAt, Cond.instanceMethod yX4_modelAt, Cond.selects RX4 yX4_modelAt yX4_modelAt, Cond.code yX4_modelAt cX4_modelAt 3 (some (.object "PaperGuild$Model")), Cond.classLink RX4 149 "java/lang/IndexOutOfBoundsException", Cond.initialized "java/lang/IndexOutOfBoundsException", Cond.fieldLink RX4 18 "PaperGuild" "guildModels" "[LPaperGuild$Model;", Cond.methodLink RX4 118 yX4_checkModel, Cond.instanceMethod yX4_checkModel, Cond.selects RX4 yX4_checkModel yX4_checkModel, Cond.code yX4_checkModel cX4_checkModel 2 none, Cond.fieldLink RX4 25 "PaperGuild" "modelCount" "I", Cond.methodLink RX4 146 yX3_greatestHeight, Cond.instanceMethod yX3_greatestHeight, Cond.selects RX3 yX3_greatestHeight yX3_greatestHeight, Cond.initialized RX3, Cond.code yX3_greatestHeight cX3_greatestHeight 3 (some .int)]
def wsL_layers_r2 : List Cond := [Cond.fieldLink RX3 28 "PaperGuild$Stacks" "span" "I", Cond.methodLink RX3 37 Lib.Math.max.name, Cond.static Lib.Math.max.name, Cond.initialized "java/lang/Math", Cond.code Lib.Math.max.name Lib.Math.max.code 2 (some .int), Cond.methodLink RX3 54 yX3_heightAt, Cond.instanceMethod yX3_heightAt, Cond.selects RX3 yX3_heightAt yX3_heightAt, Cond.code yX3_heightAt cX3_heightAt 2 (some .int), Cond.fieldLink RX3 15 "PaperGuild$Stacks" "starts" "[I", Cond.methodLink RX3 50 yX3_isPlace, Cond.instanceMethod yX3_isPlace, Cond.selects RX3 yX3_isPlace yX3_isPlace, Cond.code yX3_isPlace cX3_isPlace 2 (some .boolean)]
def wsL_layers : List Cond := .codeWith yL_layers cL_layers 4 (some .int) [(0, 9, 12, 13)] :: ((wsL_layers_r1 ++ wsL_layers_r2) ++ wsX20 ++ wsX40 ++ wsX30 ++ (vx_atS RX4 153 "java/lang/IndexOutOfBoundsException" ["java/lang/RuntimeException", "java/lang/Exception"]).filter goodWord)
def wsL_cellAt_r1 : List Cond := [Cond.classLink RL 13 "java/lang/IndexOutOfBoundsException", Cond.methodLink RL 49 yX4_cellAt, Cond.instanceMethod yX4_cellAt, Cond.selects RX4 yX4_cellAt yX4_cellAt, Cond.initialized RX4, Cond.code yX4_cellAt cX4_cellAt 5 (some .int), Cond.classLink RX4 149 "java/lang/IndexOutOfBoundsException", Cond.initialized "java/lang/IndexOutOfBoundsException", Cond.fieldLink RX4 84 "PaperGuild$Model" "stacks" "LPaperGuild$Stacks;", Cond.fieldLink RX4 88 "PaperGuild$Stacks" "span" "I", Cond.methodLink RX4 80 yX4_modelAt, Cond.instanceMethod yX4_modelAt, Cond.selects RX4 yX4_modelAt yX4_modelAt, Cond.code yX4_modelAt cX4_modelAt 3 (some (.object "PaperGuild$Model")), Cond.fieldLink RX4 18 "PaperGuild" "guildModels" "[LPaperGuild$Model;", Cond.methodLink RX4 118 yX4_checkModel, Cond.instanceMethod yX4_checkModel, Cond.selects RX4 yX4_checkModel yX4_checkModel, Cond.code yX4_checkModel cX4_checkModel 2 none, Cond.fieldLink RX4 25 "PaperGuild" "modelCount" "I", Cond.methodLink RX4 154 yX3_heightAt, Cond.instanceMethod yX3_heightAt, Cond.selects RX3 yX3_heightAt yX3_heightAt, Cond.initialized RX3]
def wsL_cellAt_r2 : List Cond := [Cond.code yX3_heightAt cX3_heightAt 2 (some .int), Cond.fieldLink RX3 15 "PaperGuild$Stacks" "starts" "[I", Cond.methodLink RX3 50 yX3_isPlace, Cond.instanceMethod yX3_isPlace, Cond.selects RX3 yX3_isPlace yX3_isPlace, Cond.code yX3_isPlace cX3_isPlace 2 (some .boolean), Cond.fieldLink RX3 28 "PaperGuild$Stacks" "span" "I", Cond.methodLink RX4 159 yX3_cellIn, Cond.instanceMethod yX3_cellIn, Cond.selects RX3 yX3_cellIn yX3_cellIn, Cond.code yX3_cellIn cX3_cellIn 3 (some .int), Cond.fieldLink RX3 9 "PaperGuild$Stacks" "cells" "[I", Cond.methodLink RX3 54 yX3_heightAt]
def wsL_cellAt : List Cond := .codeWith yL_cellAt cL_cellAt 6 (some .int) [(0, 12, 15, 13)] :: ((wsL_cellAt_r1 ++ wsL_cellAt_r2) ++ wsX20 ++ wsX30 ++ wsX40 ++ (vx_atS RX4 153 "java/lang/IndexOutOfBoundsException" ["java/lang/RuntimeException", "java/lang/Exception"]).filter goodWord)
def wsL_placeOf_r1 : List Cond := [Cond.classLink RL 13 "java/lang/IndexOutOfBoundsException", Cond.methodLink RL 53 yX4_placeOf, Cond.instanceMethod yX4_placeOf, Cond.selects RX4 yX4_placeOf yX4_placeOf, Cond.initialized RX4, Cond.code yX4_placeOf cX4_placeOf 4 (some .int), Cond.fieldLink RX4 32 "PaperGuild" "follower" "LPaperGuild$Follower;", Cond.fieldLink RX4 170 "PaperGuild$Follower" "place" "I", Cond.methodLink RX4 80 yX4_modelAt, Cond.instanceMethod yX4_modelAt, Cond.selects RX4 yX4_modelAt yX4_modelAt, Cond.code yX4_modelAt cX4_modelAt 3 (some (.object "PaperGuild$Model")), Cond.classLink RX4 149 "java/lang/IndexOutOfBoundsException", Cond.initialized "java/lang/IndexOutOfBoundsException", Cond.fieldLink RX4 18 "PaperGuild" "guildModels" "[LPaperGuild$Model;", Cond.methodLink RX4 118 yX4_checkModel, Cond.instanceMethod yX4_checkModel, Cond.selects RX4 yX4_checkModel yX4_checkModel, Cond.code yX4_checkModel cX4_checkModel 2 none, Cond.fieldLink RX4 25 "PaperGuild" "modelCount" "I", Cond.methodLink RX4 163 yX4_checkCell, Cond.instanceMethod yX4_checkCell, Cond.selects RX4 yX4_checkCell yX4_checkCell, Cond.code yX4_checkCell cX4_checkCell 3 none]
def wsL_placeOf_r2 : List Cond := [Cond.fieldLink RX4 177 "PaperGuild$Model" "length" "I", Cond.methodLink RX4 167 yX0_follow, Cond.instanceMethod yX0_follow, Cond.selects RX0 yX0_follow yX0_follow, Cond.initialized RX0, Cond.code yX0_follow cX0_follow 4 none, Cond.fieldLink RX0 7 "PaperGuild$Follower" "place" "I", Cond.fieldLink RX0 13 "PaperGuild$Follower" "turned" "Z", Cond.fieldLink RX0 20 "PaperGuild$Model" "length" "I", Cond.fieldLink RX0 17 "PaperGuild$Follower" "span" "I", Cond.fieldLink RX0 25 "PaperGuild$Model" "stepCount" "I", Cond.fieldLink RX0 28 "PaperGuild$Model" "stepPlaces" "[I", Cond.fieldLink RX0 32 "PaperGuild$Model" "stepsFromLeft" "[Z", Cond.methodLink RX0 36 yX0_takeStep, Cond.instanceMethod yX0_takeStep, Cond.selects RX0 yX0_takeStep yX0_takeStep, Cond.code yX0_takeStep cX0_takeStep 5 none, Cond.methodLink RX0 40 Lib.Math.min.name, Cond.static Lib.Math.min.name, Cond.initialized "java/lang/Math", Cond.code Lib.Math.min.name Lib.Math.min.code 2 (some .int), Cond.methodLink RX0 46 Lib.Math.max.name, Cond.static Lib.Math.max.name, Cond.code Lib.Math.max.name Lib.Math.max.code 2 (some .int)]
def wsL_placeOf : List Cond := .codeWith yL_placeOf cL_placeOf 5 (some .int) [(0, 10, 13, 13)] :: ((wsL_placeOf_r1 ++ wsL_placeOf_r2) ++ wsX40 ++ wsX00 ++ wsX20 ++ (vx_atS RX4 153 "java/lang/IndexOutOfBoundsException" ["java/lang/RuntimeException", "java/lang/Exception"]).filter goodWord)
def wsL_isTurned_r1 : List Cond := [Cond.classLink RL 13 "java/lang/IndexOutOfBoundsException", Cond.methodLink RL 56 yX4_isTurned, Cond.instanceMethod yX4_isTurned, Cond.selects RX4 yX4_isTurned yX4_isTurned, Cond.initialized RX4, Cond.code yX4_isTurned cX4_isTurned 4 (some .boolean), Cond.fieldLink RX4 32 "PaperGuild" "follower" "LPaperGuild$Follower;", Cond.fieldLink RX4 173 "PaperGuild$Follower" "turned" "Z", Cond.methodLink RX4 80 yX4_modelAt, Cond.instanceMethod yX4_modelAt, Cond.selects RX4 yX4_modelAt yX4_modelAt, Cond.code yX4_modelAt cX4_modelAt 3 (some (.object "PaperGuild$Model")), Cond.classLink RX4 149 "java/lang/IndexOutOfBoundsException", Cond.initialized "java/lang/IndexOutOfBoundsException", Cond.fieldLink RX4 18 "PaperGuild" "guildModels" "[LPaperGuild$Model;", Cond.methodLink RX4 118 yX4_checkModel, Cond.instanceMethod yX4_checkModel, Cond.selects RX4 yX4_checkModel yX4_checkModel, Cond.code yX4_checkModel cX4_checkModel 2 none, Cond.fieldLink RX4 25 "PaperGuild" "modelCount" "I", Cond.methodLink RX4 163 yX4_checkCell, Cond.instanceMethod yX4_checkCell, Cond.selects RX4 yX4_checkCell yX4_checkCell, Cond.code yX4_checkCell cX4_checkCell 3 none]
def wsL_isTurned_r2 : List Cond := [Cond.fieldLink RX4 177 "PaperGuild$Model" "length" "I", Cond.methodLink RX4 167 yX0_follow, Cond.instanceMethod yX0_follow, Cond.selects RX0 yX0_follow yX0_follow, Cond.initialized RX0, Cond.code yX0_follow cX0_follow 4 none, Cond.fieldLink RX0 7 "PaperGuild$Follower" "place" "I", Cond.fieldLink RX0 13 "PaperGuild$Follower" "turned" "Z", Cond.fieldLink RX0 20 "PaperGuild$Model" "length" "I", Cond.fieldLink RX0 17 "PaperGuild$Follower" "span" "I", Cond.fieldLink RX0 25 "PaperGuild$Model" "stepCount" "I", Cond.fieldLink RX0 28 "PaperGuild$Model" "stepPlaces" "[I", Cond.fieldLink RX0 32 "PaperGuild$Model" "stepsFromLeft" "[Z", Cond.methodLink RX0 36 yX0_takeStep, Cond.instanceMethod yX0_takeStep, Cond.selects RX0 yX0_takeStep yX0_takeStep, Cond.code yX0_takeStep cX0_takeStep 5 none, Cond.methodLink RX0 40 Lib.Math.min.name, Cond.static Lib.Math.min.name, Cond.initialized "java/lang/Math", Cond.code Lib.Math.min.name Lib.Math.min.code 2 (some .int), Cond.methodLink RX0 46 Lib.Math.max.name, Cond.static Lib.Math.max.name, Cond.code Lib.Math.max.name Lib.Math.max.code 2 (some .int)]
def wsL_isTurned : List Cond := .codeWith yL_isTurned cL_isTurned 5 (some .int) [(0, 17, 20, 13)] :: ((wsL_isTurned_r1 ++ wsL_isTurned_r2) ++ wsX40 ++ wsX00 ++ wsX20 ++ (vx_atS RX4 153 "java/lang/IndexOutOfBoundsException" ["java/lang/RuntimeException", "java/lang/Exception"]).filter goodWord)
def wsL_layersByFollowing_r1 : List Cond := [Cond.classLink RL 13 "java/lang/IndexOutOfBoundsException", Cond.methodLink RL 59 yX4_layersByFollowing, Cond.instanceMethod yX4_layersByFollowing, Cond.selects RX4 yX4_layersByFollowing yX4_layersByFollowing, Cond.initialized RX4, Cond.code yX4_layersByFollowing cX4_layersByFollowing 6 (some .int), Cond.fieldLink RX4 36 "PaperGuild" "followedHeights" "[I", Cond.fieldLink RX4 177 "PaperGuild$Model" "length" "I", Cond.fieldLink RX4 32 "PaperGuild" "follower" "LPaperGuild$Follower;", Cond.fieldLink RX4 170 "PaperGuild$Follower" "place" "I", Cond.methodLink RX4 180 Lib.Math.max.name, Cond.static Lib.Math.max.name, Cond.initialized "java/lang/Math", Cond.code Lib.Math.max.name Lib.Math.max.code 2 (some .int), Cond.methodLink RX4 80 yX4_modelAt, Cond.instanceMethod yX4_modelAt, Cond.selects RX4 yX4_modelAt yX4_modelAt, Cond.code yX4_modelAt cX4_modelAt 3 (some (.object "PaperGuild$Model")), Cond.classLink RX4 149 "java/lang/IndexOutOfBoundsException", Cond.initialized "java/lang/IndexOutOfBoundsException", Cond.fieldLink RX4 18 "PaperGuild" "guildModels" "[LPaperGuild$Model;", Cond.methodLink RX4 118 yX4_checkModel, Cond.instanceMethod yX4_checkModel, Cond.selects RX4 yX4_checkModel yX4_checkModel]
def wsL_layersByFollowing_r2 : List Cond := [Cond.code yX4_checkModel cX4_checkModel 2 none, Cond.fieldLink RX4 25 "PaperGuild" "modelCount" "I", Cond.methodLink RX4 167 yX0_follow, Cond.instanceMethod yX0_follow, Cond.selects RX0 yX0_follow yX0_follow, Cond.initialized RX0, Cond.code yX0_follow cX0_follow 4 none, Cond.fieldLink RX0 7 "PaperGuild$Follower" "place" "I", Cond.fieldLink RX0 13 "PaperGuild$Follower" "turned" "Z", Cond.fieldLink RX0 20 "PaperGuild$Model" "length" "I", Cond.fieldLink RX0 17 "PaperGuild$Follower" "span" "I", Cond.fieldLink RX0 25 "PaperGuild$Model" "stepCount" "I", Cond.fieldLink RX0 28 "PaperGuild$Model" "stepPlaces" "[I", Cond.fieldLink RX0 32 "PaperGuild$Model" "stepsFromLeft" "[Z", Cond.methodLink RX0 36 yX0_takeStep, Cond.instanceMethod yX0_takeStep, Cond.selects RX0 yX0_takeStep yX0_takeStep, Cond.code yX0_takeStep cX0_takeStep 5 none, Cond.methodLink RX0 40 Lib.Math.min.name, Cond.static Lib.Math.min.name, Cond.code Lib.Math.min.name Lib.Math.min.code 2 (some .int), Cond.methodLink RX0 46 Lib.Math.max.name]
def wsL_layersByFollowing : List Cond := .codeWith yL_layersByFollowing cL_layersByFollowing 4 (some .int) [(0, 9, 12, 13)] :: ((wsL_layersByFollowing_r1 ++ wsL_layersByFollowing_r2) ++ wsX40 ++ wsX20 ++ wsX00 ++ (vx_atS RX4 153 "java/lang/IndexOutOfBoundsException" ["java/lang/RuntimeException", "java/lang/Exception"]).filter goodWord)
def wsL_bears_r1 : List Cond := [Cond.classLink RL 13 "java/lang/IndexOutOfBoundsException", Cond.classLink RL 15 "java/lang/IllegalArgumentException", Cond.methodLink RL 62 yX4_bears, Cond.instanceMethod yX4_bears, Cond.selects RX4 yX4_bears yX4_bears, Cond.initialized RX4, Cond.code yX4_bears cX4_bears 5 (some .boolean), Cond.classLink RX4 50 "java/lang/IllegalArgumentException", Cond.initialized "java/lang/IllegalArgumentException", Cond.methodLink RX4 180 Lib.Math.max.name, Cond.static Lib.Math.max.name, Cond.initialized "java/lang/Math", Cond.code Lib.Math.max.name Lib.Math.max.code 2 (some .int), Cond.fieldLink RX4 84 "PaperGuild$Model" "stacks" "LPaperGuild$Stacks;", Cond.methodLink RX4 80 yX4_modelAt, Cond.instanceMethod yX4_modelAt, Cond.selects RX4 yX4_modelAt yX4_modelAt, Cond.code yX4_modelAt cX4_modelAt 3 (some (.object "PaperGuild$Model")), Cond.classLink RX4 149 "java/lang/IndexOutOfBoundsException", Cond.initialized "java/lang/IndexOutOfBoundsException", Cond.fieldLink RX4 18 "PaperGuild" "guildModels" "[LPaperGuild$Model;", Cond.methodLink RX4 118 yX4_checkModel, Cond.instanceMethod yX4_checkModel, Cond.selects RX4 yX4_checkModel yX4_checkModel]
def wsL_bears_r2 : List Cond := [Cond.code yX4_checkModel cX4_checkModel 2 none, Cond.fieldLink RX4 25 "PaperGuild" "modelCount" "I", Cond.methodLink RX4 146 yX3_greatestHeight, Cond.instanceMethod yX3_greatestHeight, Cond.selects RX3 yX3_greatestHeight yX3_greatestHeight, Cond.initialized RX3, Cond.code yX3_greatestHeight cX3_greatestHeight 3 (some .int), Cond.fieldLink RX3 28 "PaperGuild$Stacks" "span" "I", Cond.methodLink RX3 37 Lib.Math.max.name, Cond.methodLink RX3 54 yX3_heightAt, Cond.instanceMethod yX3_heightAt, Cond.selects RX3 yX3_heightAt yX3_heightAt, Cond.code yX3_heightAt cX3_heightAt 2 (some .int), Cond.fieldLink RX3 15 "PaperGuild$Stacks" "starts" "[I", Cond.methodLink RX3 50 yX3_isPlace, Cond.instanceMethod yX3_isPlace, Cond.selects RX3 yX3_isPlace yX3_isPlace, Cond.code yX3_isPlace cX3_isPlace 2 (some .boolean)]
def wsL_bears : List Cond := .codeWith yL_bears cL_bears 5 (some .int) [(0, 17, 20, 13), (0, 17, 24, 15)] :: ((wsL_bears_r1 ++ wsL_bears_r2) ++ wsX20 ++ wsX40 ++ wsX30 ++ (vx_atS RX4 54 "java/lang/IllegalArgumentException" ["java/lang/RuntimeException", "java/lang/Exception"]).filter goodWord ++ (vx_atS RX4 153 "java/lang/IndexOutOfBoundsException" ["java/lang/RuntimeException", "java/lang/Exception"]).filter goodWord)
def wsL_kindsOf_r1 : List Cond := [Cond.classLink RL 13 "java/lang/IndexOutOfBoundsException", Cond.methodLink RL 65 yX4_kindsOf, Cond.instanceMethod yX4_kindsOf, Cond.selects RX4 yX4_kindsOf yX4_kindsOf, Cond.initialized RX4, Cond.code yX4_kindsOf cX4_kindsOf 2 (some .int), Cond.methodLink RX4 118 yX4_checkModel, Cond.instanceMethod yX4_checkModel, Cond.selects RX4 yX4_checkModel yX4_checkModel, Cond.code yX4_checkModel cX4_checkModel 2 none, Cond.classLink RX4 149 "java/lang/IndexOutOfBoundsException", Cond.initialized "java/lang/IndexOutOfBoundsException", Cond.fieldLink RX4 25 "PaperGuild" "modelCount" "I", Cond.methodLink RX4 187 yX4_kindsCountedFor, Cond.instanceMethod yX4_kindsCountedFor, Cond.selects RX4 yX4_kindsCountedFor yX4_kindsCountedFor, Cond.code yX4_kindsCountedFor cX4_kindsCountedFor 5 (some .int), Cond.methodLink RX4 121 yX4_modelsCountedFor, Cond.instanceMethod yX4_modelsCountedFor, Cond.selects RX4 yX4_modelsCountedFor yX4_modelsCountedFor, Cond.code yX4_modelsCountedFor cX4_modelsCountedFor 2 (some .int), Cond.fieldLink RX4 22 "PaperGuild" "used" "[I", Cond.methodLink RX4 57 yX4_reached, Cond.static yX4_reached]
def wsL_kindsOf_r2 : List Cond := [Cond.code yX4_reached cX4_reached 6 (some .int), Cond.methodLink RX4 61 yX4_holds, Cond.static yX4_holds, Cond.code yX4_holds cX4_holds 2 (some .boolean), Cond.methodLink RX4 80 yX4_modelAt, Cond.instanceMethod yX4_modelAt, Cond.selects RX4 yX4_modelAt yX4_modelAt, Cond.code yX4_modelAt cX4_modelAt 3 (some (.object "PaperGuild$Model")), Cond.fieldLink RX4 18 "PaperGuild" "guildModels" "[LPaperGuild$Model;", Cond.methodLink RX4 100 yX2_ownKinds, Cond.instanceMethod yX2_ownKinds, Cond.selects RX2 yX2_ownKinds yX2_ownKinds, Cond.initialized RX2, Cond.code yX2_ownKinds cX2_ownKinds 3 (some .int), Cond.fieldLink RX2 22 "PaperGuild$Model" "stepCount" "I", Cond.fieldLink RX2 9 "PaperGuild$Model" "stepKinds" "[I"]
def wsL_kindsOf : List Cond := .codeWith yL_kindsOf cL_kindsOf 4 (some .int) [(0, 9, 12, 13)] :: ((wsL_kindsOf_r1 ++ wsL_kindsOf_r2) ++ wsX40 ++ wsX20 ++ (vx_atS RX4 153 "java/lang/IndexOutOfBoundsException" ["java/lang/RuntimeException", "java/lang/Exception"]).filter goodWord)
def wsL_mayFold_r1 : List Cond := [Cond.classLink RL 13 "java/lang/IndexOutOfBoundsException", Cond.methodLink RL 68 yX4_mayFold, Cond.instanceMethod yX4_mayFold, Cond.selects RX4 yX4_mayFold yX4_mayFold, Cond.initialized RX4, Cond.code yX4_mayFold cX4_mayFold 3 (some .boolean), Cond.fieldLink RX4 13 "PaperGuild" "known" "[I", Cond.methodLink RX4 136 yX4_checkPupil, Cond.instanceMethod yX4_checkPupil, Cond.selects RX4 yX4_checkPupil yX4_checkPupil, Cond.code yX4_checkPupil cX4_checkPupil 2 none, Cond.classLink RX4 149 "java/lang/IndexOutOfBoundsException", Cond.initialized "java/lang/IndexOutOfBoundsException", Cond.methodLink RX4 118 yX4_checkModel, Cond.instanceMethod yX4_checkModel, Cond.selects RX4 yX4_checkModel yX4_checkModel, Cond.code yX4_checkModel cX4_checkModel 2 none, Cond.fieldLink RX4 25 "PaperGuild" "modelCount" "I", Cond.methodLink RX4 187 yX4_kindsCountedFor, Cond.instanceMethod yX4_kindsCountedFor, Cond.selects RX4 yX4_kindsCountedFor yX4_kindsCountedFor, Cond.code yX4_kindsCountedFor cX4_kindsCountedFor 5 (some .int), Cond.methodLink RX4 121 yX4_modelsCountedFor, Cond.instanceMethod yX4_modelsCountedFor]
def wsL_mayFold_r2 : List Cond := [Cond.selects RX4 yX4_modelsCountedFor yX4_modelsCountedFor, Cond.code yX4_modelsCountedFor cX4_modelsCountedFor 2 (some .int), Cond.fieldLink RX4 22 "PaperGuild" "used" "[I", Cond.methodLink RX4 57 yX4_reached, Cond.static yX4_reached, Cond.code yX4_reached cX4_reached 6 (some .int), Cond.methodLink RX4 61 yX4_holds, Cond.static yX4_holds, Cond.code yX4_holds cX4_holds 2 (some .boolean), Cond.methodLink RX4 80 yX4_modelAt, Cond.instanceMethod yX4_modelAt, Cond.selects RX4 yX4_modelAt yX4_modelAt, Cond.code yX4_modelAt cX4_modelAt 3 (some (.object "PaperGuild$Model")), Cond.fieldLink RX4 18 "PaperGuild" "guildModels" "[LPaperGuild$Model;", Cond.methodLink RX4 100 yX2_ownKinds, Cond.instanceMethod yX2_ownKinds, Cond.selects RX2 yX2_ownKinds yX2_ownKinds, Cond.initialized RX2, Cond.code yX2_ownKinds cX2_ownKinds 3 (some .int), Cond.fieldLink RX2 22 "PaperGuild$Model" "stepCount" "I", Cond.fieldLink RX2 9 "PaperGuild$Model" "stepKinds" "[I", Cond.methodLink RX4 104 yX4_lacksAny, Cond.static yX4_lacksAny, Cond.code yX4_lacksAny cX4_lacksAny 2 (some .boolean)]
def wsL_mayFold : List Cond := .codeWith yL_mayFold cL_mayFold 5 (some .int) [(0, 17, 20, 13)] :: ((wsL_mayFold_r1 ++ wsL_mayFold_r2) ++ wsX40 ++ wsX20 ++ (vx_atS RX4 153 "java/lang/IndexOutOfBoundsException" ["java/lang/RuntimeException", "java/lang/Exception"]).filter goodWord)
def wsL_lessons_r1 : List Cond := [Cond.classLink RL 13 "java/lang/IndexOutOfBoundsException", Cond.methodLink RL 71 yX4_lessons, Cond.instanceMethod yX4_lessons, Cond.selects RX4 yX4_lessons yX4_lessons, Cond.initialized RX4, Cond.code yX4_lessons cX4_lessons 4 (some .int), Cond.fieldLink RX4 13 "PaperGuild" "known" "[I", Cond.fieldLink RX4 9 "PaperGuild" "needed" "[I", Cond.methodLink RX4 136 yX4_checkPupil, Cond.instanceMethod yX4_checkPupil, Cond.selects RX4 yX4_checkPupil yX4_checkPupil, Cond.code yX4_checkPupil cX4_checkPupil 2 none, Cond.classLink RX4 149 "java/lang/IndexOutOfBoundsException", Cond.initialized "java/lang/IndexOutOfBoundsException", Cond.methodLink RX4 118 yX4_checkModel, Cond.instanceMethod yX4_checkModel, Cond.selects RX4 yX4_checkModel yX4_checkModel, Cond.code yX4_checkModel cX4_checkModel 2 none, Cond.fieldLink RX4 25 "PaperGuild" "modelCount" "I", Cond.methodLink RX4 187 yX4_kindsCountedFor, Cond.instanceMethod yX4_kindsCountedFor, Cond.selects RX4 yX4_kindsCountedFor yX4_kindsCountedFor, Cond.code yX4_kindsCountedFor cX4_kindsCountedFor 5 (some .int), Cond.methodLink RX4 121 yX4_modelsCountedFor]
def wsL_lessons_r2 : List Cond := [Cond.instanceMethod yX4_modelsCountedFor, Cond.selects RX4 yX4_modelsCountedFor yX4_modelsCountedFor, Cond.code yX4_modelsCountedFor cX4_modelsCountedFor 2 (some .int), Cond.fieldLink RX4 22 "PaperGuild" "used" "[I", Cond.methodLink RX4 57 yX4_reached, Cond.static yX4_reached, Cond.code yX4_reached cX4_reached 6 (some .int), Cond.methodLink RX4 61 yX4_holds, Cond.static yX4_holds, Cond.code yX4_holds cX4_holds 2 (some .boolean), Cond.methodLink RX4 80 yX4_modelAt, Cond.instanceMethod yX4_modelAt, Cond.selects RX4 yX4_modelAt yX4_modelAt, Cond.code yX4_modelAt cX4_modelAt 3 (some (.object "PaperGuild$Model")), Cond.fieldLink RX4 18 "PaperGuild" "guildModels" "[LPaperGuild$Model;", Cond.methodLink RX4 100 yX2_ownKinds, Cond.instanceMethod yX2_ownKinds, Cond.selects RX2 yX2_ownKinds yX2_ownKinds, Cond.initialized RX2, Cond.code yX2_ownKinds cX2_ownKinds 3 (some .int), Cond.fieldLink RX2 22 "PaperGuild$Model" "stepCount" "I", Cond.fieldLink RX2 9 "PaperGuild$Model" "stepKinds" "[I", Cond.methodLink RX4 141 yJ6_bitCount_0f7a4, Cond.static yJ6_bitCount_0f7a4]
def wsL_lessons_r3 : List Cond := [Cond.initialized RJ6, Cond.code yJ6_bitCount_0f7a4 cJ6_bitCount_0f7a4 1 (some .int), Cond.constant RJ6 265 (1431655765), Cond.constant RJ6 266 (858993459), Cond.constant RJ6 267 (252645135)]
def wsL_lessons : List Cond := .codeWith yL_lessons cL_lessons 5 (some .int) [(0, 10, 13, 13)] :: ((wsL_lessons_r1 ++ (wsL_lessons_r2 ++ wsL_lessons_r3)) ++ wsX40 ++ wsX20 ++ (vx_atS RX4 153 "java/lang/IndexOutOfBoundsException" ["java/lang/RuntimeException", "java/lang/Exception"]).filter goodWord)
def wsL_credit_r1 : List Cond := [Cond.classLink RL 13 "java/lang/IndexOutOfBoundsException", Cond.methodLink RL 74 yX4_credit, Cond.instanceMethod yX4_credit, Cond.selects RX4 yX4_credit yX4_credit, Cond.initialized RX4, Cond.code yX4_credit cX4_credit 5 (some .int), Cond.fieldLink RX4 25 "PaperGuild" "modelCount" "I", Cond.methodLink RX4 67 yX4_checkAuthor, Cond.instanceMethod yX4_checkAuthor, Cond.selects RX4 yX4_checkAuthor yX4_checkAuthor, Cond.code yX4_checkAuthor cX4_checkAuthor 2 none, Cond.classLink RX4 149 "java/lang/IndexOutOfBoundsException", Cond.initialized "java/lang/IndexOutOfBoundsException", Cond.methodLink RX4 190 yX4_modelsOf, Cond.instanceMethod yX4_modelsOf, Cond.selects RX4 yX4_modelsOf yX4_modelsOf, Cond.code yX4_modelsOf cX4_modelsOf 4 (some .int), Cond.fieldLink RX4 212 "PaperGuild$Model" "author" "I", Cond.methodLink RX4 80 yX4_modelAt, Cond.instanceMethod yX4_modelAt, Cond.selects RX4 yX4_modelAt yX4_modelAt, Cond.code yX4_modelAt cX4_modelAt 3 (some (.object "PaperGuild$Model")), Cond.fieldLink RX4 18 "PaperGuild" "guildModels" "[LPaperGuild$Model;", Cond.methodLink RX4 118 yX4_checkModel]
def wsL_credit_r2 : List Cond := [Cond.instanceMethod yX4_checkModel, Cond.selects RX4 yX4_checkModel yX4_checkModel, Cond.code yX4_checkModel cX4_checkModel 2 none, Cond.methodLink RX4 61 yX4_holds, Cond.static yX4_holds, Cond.code yX4_holds cX4_holds 2 (some .boolean), Cond.methodLink RX4 121 yX4_modelsCountedFor, Cond.instanceMethod yX4_modelsCountedFor, Cond.selects RX4 yX4_modelsCountedFor yX4_modelsCountedFor, Cond.code yX4_modelsCountedFor cX4_modelsCountedFor 2 (some .int), Cond.fieldLink RX4 22 "PaperGuild" "used" "[I", Cond.methodLink RX4 57 yX4_reached, Cond.static yX4_reached, Cond.code yX4_reached cX4_reached 6 (some .int)]
def wsL_credit : List Cond := .codeWith yL_credit cL_credit 4 (some .int) [(0, 9, 12, 13)] :: ((wsL_credit_r1 ++ wsL_credit_r2) ++ wsX40 ++ wsX20 ++ (vx_atS RX4 153 "java/lang/IndexOutOfBoundsException" ["java/lang/RuntimeException", "java/lang/Exception"]).filter goodWord)
def wsL_law0_r1 : List Cond := [Cond.classLink RL 8 RX4, Cond.instantiable RX4 8, Cond.initialized RX4, Cond.classLink RL 78 RX5, Cond.instantiable RX5 20, Cond.initialized RX5, Cond.arrayClass .long, Cond.methodLink RL 77 yX4_init, Cond.instanceMethod yX4_init, Cond.code yX4_init cX4_init 1 none, Cond.methodLink RX4 1 objectInit, Cond.instanceMethod objectInit, Cond.code objectInit ⟨#[0xb1]⟩ 1 none, Cond.arrayClass .int, Cond.fieldLink RX4 9 "PaperGuild" "needed" "[I", Cond.fieldLink RX4 13 "PaperGuild" "known" "[I", Cond.classLink RX4 16 RX2, Cond.fieldLink RX4 18 "PaperGuild" "guildModels" "[LPaperGuild$Model;", Cond.fieldLink RX4 22 "PaperGuild" "used" "[I", Cond.fieldLink RX4 25 "PaperGuild" "modelCount" "I", Cond.classLink RX4 29 RX0, Cond.instantiable RX0 3, Cond.initialized RX0, Cond.fieldLink RX4 32 "PaperGuild" "follower" "LPaperGuild$Follower;"]
def wsL_law0_r2 : List Cond := [Cond.fieldLink RX4 36 "PaperGuild" "followedHeights" "[I", Cond.classLink RX4 39 RX1, Cond.instantiable RX1 4, Cond.initialized RX1, Cond.fieldLink RX4 42 "PaperGuild" "mill" "LPaperGuild$Mill;", Cond.instanceMethod yX0_init, Cond.code yX0_init cX0_init 1 none, Cond.methodLink RX0 1 objectInit, Cond.fieldLink RX0 7 "PaperGuild$Follower" "place" "I", Cond.fieldLink RX0 13 "PaperGuild$Follower" "turned" "Z", Cond.fieldLink RX0 17 "PaperGuild$Follower" "span" "I", Cond.instanceMethod yX1_init, Cond.code yX1_init cX1_init 1 none, Cond.methodLink RX1 3 objectInit, Cond.fieldLink RX1 9 "PaperGuild$Mill" "rollLength" "I", Cond.fieldLink RX1 15 "PaperGuild$Mill" "demanded" "I", Cond.fieldLink RX1 18 "PaperGuild$Mill" "fewest" "[I", Cond.fieldLink RX1 22 "PaperGuild$Mill" "waysTo" "[I", Cond.methodLink RL 80 yX5_init, Cond.instanceMethod yX5_init, Cond.code yX5_init cX5_init 1 none, Cond.methodLink RX5 1 objectInit, Cond.fieldLink RX5 7 "PaperGuildModel" "needs" "[I", Cond.fieldLink RX5 13 "PaperGuildModel" "authors" "[I"]
def wsL_law0_r3 : List Cond := [Cond.fieldLink RX5 16 "PaperGuildModel" "lengths" "[I", Cond.fieldLink RX5 19 "PaperGuildModel" "steps" "[I", Cond.fieldLink RX5 22 "PaperGuildModel" "uses" "[I", Cond.fieldLink RX5 25 "PaperGuildModel" "kinds" "[I", Cond.fieldLink RX5 28 "PaperGuildModel" "at" "[I", Cond.fieldLink RX5 31 "PaperGuildModel" "lefts" "[I", Cond.fieldLink RX5 34 "PaperGuildModel" "knows" "[I", Cond.fieldLink RX5 37 "PaperGuildModel" "places" "[I", Cond.fieldLink RX5 40 "PaperGuildModel" "heights" "[I", Cond.fieldLink RX5 43 "PaperGuildModel" "turns" "[I", Cond.fieldLink RX5 46 "PaperGuildModel" "many" "[I", Cond.fieldLink RX5 49 "PaperGuildModel" "cuts" "[I", Cond.methodLink RL 81 yL_setNeeds, Cond.static yL_setNeeds, Cond.initialized RL, Cond.codeWith yL_setNeeds cL_setNeeds 5 (some .int) [(0, 10, 13, 13), (0, 10, 17, 15)], Cond.classLink RL 13 "java/lang/IndexOutOfBoundsException", Cond.classLink RL 15 "java/lang/IllegalArgumentException", Cond.methodLink RL 7 yX4_setNeeds, Cond.instanceMethod yX4_setNeeds, Cond.selects RX4 yX4_setNeeds yX4_setNeeds, Cond.code yX4_setNeeds cX4_setNeeds 4 (some .int), Cond.classLink RX4 50 "java/lang/IllegalArgumentException", Cond.initialized "java/lang/IllegalArgumentException"]
def wsL_law0_r4 : List Cond := [Cond.methodLink RX4 46 yX4_checkKind, Cond.instanceMethod yX4_checkKind, Cond.selects RX4 yX4_checkKind yX4_checkKind, Cond.code yX4_checkKind cX4_checkKind 2 none, Cond.classLink RX4 149 "java/lang/IndexOutOfBoundsException", Cond.initialized "java/lang/IndexOutOfBoundsException", Cond.methodLink RX4 57 yX4_reached, Cond.static yX4_reached, Cond.code yX4_reached cX4_reached 6 (some .int), Cond.methodLink RX4 61 yX4_holds, Cond.static yX4_holds, Cond.code yX4_holds cX4_holds 2 (some .boolean), Cond.methodLink RL 86 yX5_setNeeds, Cond.instanceMethod yX5_setNeeds, Cond.selects RX5 yX5_setNeeds yX5_setNeeds, Cond.code yX5_setNeeds cX5_setNeeds 4 (some .int), Cond.fieldLink RX5 52 "PaperGuildModel" "thrown" "I", Cond.methodLink RX5 59 yX5_in, Cond.static yX5_in, Cond.code yX5_in cX5_in 3 (some .boolean), Cond.methodLink RX5 63 yX5_closed, Cond.instanceMethod yX5_closed, Cond.selects RX5 yX5_closed yX5_closed, Cond.code yX5_closed cX5_closed 5 (some .int)]
def wsL_law0_r5 : List Cond := [Cond.methodLink RX5 67 yX5_fails, Cond.instanceMethod yX5_fails, Cond.selects RX5 yX5_fails yX5_fails, Cond.code yX5_fails cX5_fails 2 (some .int), Cond.methodLink RL 87 yX5_thrown, Cond.instanceMethod yX5_thrown, Cond.selects RX5 yX5_thrown yX5_thrown, Cond.code yX5_thrown cX5_thrown 1 (some .int), Cond.methodLink RL 91 yL_addModel, Cond.static yL_addModel, Cond.codeWith yL_addModel cL_addModel 5 (some .int) [(0, 10, 13, 13), (0, 10, 17, 15), (0, 10, 21, 20)], Cond.classLink RL 20 "java/lang/IllegalStateException", Cond.methodLink RL 17 yX4_addModel, Cond.instanceMethod yX4_addModel, Cond.selects RX4 yX4_addModel yX4_addModel, Cond.code yX4_addModel cX4_addModel 3 (some .int), Cond.classLink RX4 72 "java/lang/IllegalStateException", Cond.initialized "java/lang/IllegalStateException", Cond.instantiable RX2 7, Cond.initialized RX2, Cond.methodLink RX4 67 yX4_checkAuthor, Cond.instanceMethod yX4_checkAuthor, Cond.selects RX4 yX4_checkAuthor yX4_checkAuthor, Cond.code yX4_checkAuthor cX4_checkAuthor 2 none]
def wsL_law0_r6 : List Cond := [Cond.methodLink RX4 77 yX2_init, Cond.instanceMethod yX2_init, Cond.code yX2_init cX2_init 3 none, Cond.methodLink RX2 3 objectInit, Cond.fieldLink RX2 9 "PaperGuild$Model" "stepKinds" "[I", Cond.fieldLink RX2 15 "PaperGuild$Model" "stepPlaces" "[I", Cond.arrayClass .boolean, Cond.fieldLink RX2 18 "PaperGuild$Model" "stepsFromLeft" "[Z", Cond.fieldLink RX2 22 "PaperGuild$Model" "stepCount" "I", Cond.fieldLink RX2 26 "PaperGuild$Model" "author" "I", Cond.fieldLink RX2 29 "PaperGuild$Model" "length" "I", Cond.classLink RX2 32 RX3, Cond.instantiable RX3 6, Cond.initialized RX3, Cond.fieldLink RX2 35 "PaperGuild$Model" "stacks" "LPaperGuild$Stacks;", Cond.instanceMethod yX3_init, Cond.code yX3_init cX3_init 1 none, Cond.methodLink RX3 3 objectInit, Cond.fieldLink RX3 9 "PaperGuild$Stacks" "cells" "[I", Cond.fieldLink RX3 15 "PaperGuild$Stacks" "starts" "[I", Cond.fieldLink RX3 18 "PaperGuild$Stacks" "nextCells" "[I", Cond.fieldLink RX3 21 "PaperGuild$Stacks" "nextStarts" "[I", Cond.fieldLink RX3 24 "PaperGuild$Stacks" "filled" "I", Cond.fieldLink RX3 28 "PaperGuild$Stacks" "span" "I"]
def wsL_law0_r7 : List Cond := [Cond.methodLink RX2 39 yX3_layFlat, Cond.instanceMethod yX3_layFlat, Cond.selects RX3 yX3_layFlat yX3_layFlat, Cond.code yX3_layFlat cX3_layFlat 3 none, Cond.methodLink RX3 31 Lib.Math.min.name, Cond.static Lib.Math.min.name, Cond.initialized "java/lang/Math", Cond.code Lib.Math.min.name Lib.Math.min.code 2 (some .int), Cond.methodLink RX3 37 Lib.Math.max.name, Cond.static Lib.Math.max.name, Cond.code Lib.Math.max.name Lib.Math.max.code 2 (some .int), Cond.methodLink RL 93 yX5_addModel, Cond.instanceMethod yX5_addModel, Cond.selects RX5 yX5_addModel yX5_addModel, Cond.code yX5_addModel cX5_addModel 3 (some .int), Cond.fieldLink RX5 56 "PaperGuildModel" "models" "I", Cond.methodLink RL 94 yL_fold, Cond.static yL_fold, Cond.codeWith yL_fold cL_fold 7 (some .int) [(0, 14, 17, 13), (0, 14, 21, 15), (0, 14, 25, 20)], Cond.methodLink RL 22 yX4_fold, Cond.instanceMethod yX4_fold, Cond.selects RX4 yX4_fold yX4_fold, Cond.code yX4_fold cX4_fold 6 (some .int), Cond.fieldLink RX4 84 "PaperGuild$Model" "stacks" "LPaperGuild$Stacks;"]
def wsL_law0_r8 : List Cond := [Cond.fieldLink RX4 88 "PaperGuild$Stacks" "span" "I", Cond.fieldLink RX4 95 "PaperGuild$Model" "stepCount" "I", Cond.methodLink RX4 80 yX4_modelAt, Cond.instanceMethod yX4_modelAt, Cond.selects RX4 yX4_modelAt yX4_modelAt, Cond.code yX4_modelAt cX4_modelAt 3 (some (.object "PaperGuild$Model")), Cond.methodLink RX4 118 yX4_checkModel, Cond.instanceMethod yX4_checkModel, Cond.selects RX4 yX4_checkModel yX4_checkModel, Cond.code yX4_checkModel cX4_checkModel 2 none, Cond.methodLink RX4 100 yX2_ownKinds, Cond.instanceMethod yX2_ownKinds, Cond.selects RX2 yX2_ownKinds yX2_ownKinds, Cond.code yX2_ownKinds cX2_ownKinds 3 (some .int), Cond.methodLink RX4 104 yX4_lacksAny, Cond.static yX4_lacksAny, Cond.code yX4_lacksAny cX4_lacksAny 2 (some .boolean), Cond.methodLink RX4 109 yX2_addStep, Cond.instanceMethod yX2_addStep, Cond.selects RX2 yX2_addStep yX2_addStep, Cond.code yX2_addStep cX2_addStep 4 none, Cond.methodLink RX2 43 yX3_turnOver, Cond.instanceMethod yX3_turnOver, Cond.selects RX3 yX3_turnOver yX3_turnOver]
def wsL_law0_r9 : List Cond := [Cond.code yX3_turnOver cX3_turnOver 7 none, Cond.methodLink RX3 40 yX3_copyUpwards, Cond.instanceMethod yX3_copyUpwards, Cond.selects RX3 yX3_copyUpwards yX3_copyUpwards, Cond.code yX3_copyUpwards cX3_copyUpwards 4 none, Cond.methodLink RX3 54 yX3_heightAt, Cond.instanceMethod yX3_heightAt, Cond.selects RX3 yX3_heightAt yX3_heightAt, Cond.code yX3_heightAt cX3_heightAt 2 (some .int), Cond.methodLink RX3 50 yX3_isPlace, Cond.instanceMethod yX3_isPlace, Cond.selects RX3 yX3_isPlace yX3_isPlace, Cond.code yX3_isPlace cX3_isPlace 2 (some .boolean), Cond.methodLink RX3 58 yX3_copyCell, Cond.instanceMethod yX3_copyCell, Cond.selects RX3 yX3_copyCell yX3_copyCell, Cond.code yX3_copyCell cX3_copyCell 3 none, Cond.methodLink RX3 62 yX3_cellIn, Cond.instanceMethod yX3_cellIn, Cond.selects RX3 yX3_cellIn yX3_cellIn, Cond.code yX3_cellIn cX3_cellIn 3 (some .int), Cond.methodLink RX3 44 yX3_copyDownwards, Cond.instanceMethod yX3_copyDownwards, Cond.selects RX3 yX3_copyDownwards yX3_copyDownwards]
def wsL_law0_r10 : List Cond := [Cond.code yX3_copyDownwards cX3_copyDownwards 3 none, Cond.methodLink RX3 47 yX3_swapRows, Cond.instanceMethod yX3_swapRows, Cond.selects RX3 yX3_swapRows yX3_swapRows, Cond.code yX3_swapRows cX3_swapRows 3 none, Cond.methodLink RL 97 yX5_fold, Cond.instanceMethod yX5_fold, Cond.selects RX5 yX5_fold yX5_fold, Cond.code yX5_fold cX5_fold 6 (some .int), Cond.fieldLink RX5 73 "PaperGuildModel" "size" "I", Cond.methodLink RX5 84 yX5_folds, Cond.instanceMethod yX5_folds, Cond.selects RX5 yX5_folds yX5_folds, Cond.code yX5_folds cX5_folds 4 none, Cond.fieldLink RX5 70 "PaperGuildModel" "most" "I", Cond.methodLink RX5 76 yX5_counts, Cond.instanceMethod yX5_counts, Cond.selects RX5 yX5_counts yX5_counts, Cond.code yX5_counts cX5_counts 3 none, Cond.methodLink RX5 80 yX5_makes, Cond.instanceMethod yX5_makes, Cond.selects RX5 yX5_makes yX5_makes, Cond.code yX5_makes cX5_makes 10 none, Cond.methodLink RX5 87 yX5_ownKinds]
def wsL_law0_r11 : List Cond := [Cond.instanceMethod yX5_ownKinds, Cond.selects RX5 yX5_ownKinds yX5_ownKinds, Cond.code yX5_ownKinds cX5_ownKinds 4 (some .int), Cond.methodLink RL 98 yL_unfold, Cond.static yL_unfold, Cond.codeWith yL_unfold cL_unfold 4 (some .int) [(0, 9, 12, 13), (0, 9, 15, 20)], Cond.methodLink RL 26 yX4_unfold, Cond.instanceMethod yX4_unfold, Cond.selects RX4 yX4_unfold yX4_unfold, Cond.code yX4_unfold cX4_unfold 3 (some .int), Cond.methodLink RX4 115 yX2_removeLastStep, Cond.instanceMethod yX2_removeLastStep, Cond.selects RX2 yX2_removeLastStep yX2_removeLastStep, Cond.code yX2_removeLastStep cX2_removeLastStep 2 (some .int), Cond.methodLink RL 101 yX5_unfold, Cond.instanceMethod yX5_unfold, Cond.selects RX5 yX5_unfold yX5_unfold, Cond.code yX5_unfold cX5_unfold 2 (some .int), Cond.methodLink RX5 90 yX5_isModel, Cond.instanceMethod yX5_isModel, Cond.selects RX5 yX5_isModel yX5_isModel, Cond.code yX5_isModel cX5_isModel 2 (some .boolean), Cond.methodLink RL 102 yL_use, Cond.static yL_use]
def wsL_law0_r12 : List Cond := [Cond.codeWith yL_use cL_use 5 (some .int) [(0, 17, 20, 13), (0, 17, 24, 15)], Cond.methodLink RL 30 yX4_use, Cond.instanceMethod yX4_use, Cond.selects RX4 yX4_use yX4_use, Cond.code yX4_use cX4_use 4 (some .boolean), Cond.methodLink RX4 121 yX4_modelsCountedFor, Cond.instanceMethod yX4_modelsCountedFor, Cond.selects RX4 yX4_modelsCountedFor yX4_modelsCountedFor, Cond.code yX4_modelsCountedFor cX4_modelsCountedFor 2 (some .int), Cond.methodLink RL 104 yX5_use, Cond.instanceMethod yX5_use, Cond.selects RX5 yX5_use yX5_use, Cond.code yX5_use cX5_use 4 (some .boolean), Cond.methodLink RX5 94 yX5_used, Cond.instanceMethod yX5_used, Cond.selects RX5 yX5_used yX5_used, Cond.code yX5_used cX5_used 5 (some .int), Cond.methodLink RL 105 yL_setRoll, Cond.static yL_setRoll, Cond.codeWith yL_setRoll cL_setRoll 5 (some .int) [(0, 10, 13, 15)], Cond.methodLink RL 34 yX4_setRoll, Cond.instanceMethod yX4_setRoll, Cond.selects RX4 yX4_setRoll yX4_setRoll, Cond.code yX4_setRoll cX4_setRoll 4 (some .int)]
def wsL_law0_r13 : List Cond := [Cond.constant RX4 127 (1048575), Cond.fieldLink RX4 130 "PaperGuild$Mill" "rollLength" "I", Cond.fieldLink RX4 133 "PaperGuild$Mill" "demanded" "I", Cond.methodLink RL 107 yX5_setRoll, Cond.instanceMethod yX5_setRoll, Cond.selects RX5 yX5_setRoll yX5_setRoll, Cond.code yX5_setRoll cX5_setRoll 4 (some .int), Cond.constant RX5 97 (1048575), Cond.fieldLink RX5 98 "PaperGuildModel" "roll" "I", Cond.fieldLink RX5 101 "PaperGuildModel" "demand" "I", Cond.methodLink RL 108 yL_teach, Cond.static yL_teach, Cond.codeWith yL_teach cL_teach 5 (some .int) [(0, 10, 13, 13), (0, 10, 17, 20)], Cond.methodLink RL 37 yX4_teach, Cond.instanceMethod yX4_teach, Cond.selects RX4 yX4_teach yX4_teach, Cond.code yX4_teach cX4_teach 3 (some .int), Cond.methodLink RX4 136 yX4_checkPupil, Cond.instanceMethod yX4_checkPupil, Cond.selects RX4 yX4_checkPupil yX4_checkPupil, Cond.code yX4_checkPupil cX4_checkPupil 2 none, Cond.methodLink RX4 141 yJ6_bitCount_0f7a4, Cond.static yJ6_bitCount_0f7a4, Cond.initialized RJ6]
def wsL_law0_r14 : List Cond := [Cond.code yJ6_bitCount_0f7a4 cJ6_bitCount_0f7a4 1 (some .int), Cond.constant RJ6 265 (1431655765), Cond.constant RJ6 266 (858993459), Cond.constant RJ6 267 (252645135), Cond.methodLink RL 110 yX5_teach, Cond.instanceMethod yX5_teach, Cond.selects RX5 yX5_teach yX5_teach, Cond.code yX5_teach cX5_teach 3 (some .int), Cond.methodLink RX5 104 yX5_bits, Cond.static yX5_bits, Cond.code yX5_bits cX5_bits 3 (some .int), Cond.methodLink RL 111 yX4_models, Cond.instanceMethod yX4_models, Cond.selects RX4 yX4_models yX4_models, Cond.code yX4_models cX4_models 1 (some .int), Cond.methodLink RL 114 yX5_models, Cond.instanceMethod yX5_models, Cond.selects RX5 yX5_models yX5_models, Cond.code yX5_models cX5_models 1 (some .int), Cond.methodLink RL 115 yL_steps, Cond.static yL_steps, Cond.codeWith yL_steps cL_steps 4 (some .int) [(0, 9, 12, 13)], Cond.methodLink RL 40 yX4_steps, Cond.instanceMethod yX4_steps]
def wsL_law0_r15 : List Cond := [Cond.selects RX4 yX4_steps yX4_steps, Cond.code yX4_steps cX4_steps 2 (some .int), Cond.methodLink RL 117 yX5_steps, Cond.instanceMethod yX5_steps, Cond.selects RX5 yX5_steps yX5_steps, Cond.code yX5_steps cX5_steps 2 (some .int), Cond.methodLink RL 118 yL_places, Cond.static yL_places, Cond.codeWith yL_places cL_places 4 (some .int) [(0, 9, 12, 13)], Cond.methodLink RL 43 yX4_places, Cond.instanceMethod yX4_places, Cond.selects RX4 yX4_places yX4_places, Cond.code yX4_places cX4_places 2 (some .int), Cond.methodLink RL 120 yX5_places, Cond.instanceMethod yX5_places, Cond.selects RX5 yX5_places yX5_places, Cond.code yX5_places cX5_places 2 (some .int), Cond.methodLink RL 121 yL_layers, Cond.static yL_layers, Cond.codeWith yL_layers cL_layers 4 (some .int) [(0, 9, 12, 13)], Cond.methodLink RL 46 yX4_layers, Cond.instanceMethod yX4_layers, Cond.selects RX4 yX4_layers yX4_layers, Cond.code yX4_layers cX4_layers 2 (some .int)]
def wsL_law0_r16 : List Cond := [Cond.methodLink RX4 146 yX3_greatestHeight, Cond.instanceMethod yX3_greatestHeight, Cond.selects RX3 yX3_greatestHeight yX3_greatestHeight, Cond.code yX3_greatestHeight cX3_greatestHeight 3 (some .int), Cond.methodLink RL 123 yX5_layers, Cond.instanceMethod yX5_layers, Cond.selects RX5 yX5_layers yX5_layers, Cond.code yX5_layers cX5_layers 2 (some .int), Cond.methodLink RX5 107 yX5_layersOf, Cond.instanceMethod yX5_layersOf, Cond.selects RX5 yX5_layersOf yX5_layersOf, Cond.code yX5_layersOf cX5_layersOf 4 (some .int), Cond.methodLink RL 124 yL_cellAt, Cond.static yL_cellAt, Cond.codeWith yL_cellAt cL_cellAt 6 (some .int) [(0, 12, 15, 13)], Cond.methodLink RL 49 yX4_cellAt, Cond.instanceMethod yX4_cellAt, Cond.selects RX4 yX4_cellAt yX4_cellAt, Cond.code yX4_cellAt cX4_cellAt 5 (some .int), Cond.methodLink RX4 154 yX3_heightAt, Cond.methodLink RX4 159 yX3_cellIn, Cond.methodLink RL 127 yX5_cellAt, Cond.instanceMethod yX5_cellAt, Cond.selects RX5 yX5_cellAt yX5_cellAt]
def wsL_law0_r17 : List Cond := [Cond.code yX5_cellAt cX5_cellAt 5 (some .int), Cond.methodLink RL 128 yL_placeOf, Cond.static yL_placeOf, Cond.codeWith yL_placeOf cL_placeOf 5 (some .int) [(0, 10, 13, 13)], Cond.methodLink RL 53 yX4_placeOf, Cond.instanceMethod yX4_placeOf, Cond.selects RX4 yX4_placeOf yX4_placeOf, Cond.code yX4_placeOf cX4_placeOf 4 (some .int), Cond.fieldLink RX4 170 "PaperGuild$Follower" "place" "I", Cond.methodLink RX4 163 yX4_checkCell, Cond.instanceMethod yX4_checkCell, Cond.selects RX4 yX4_checkCell yX4_checkCell, Cond.code yX4_checkCell cX4_checkCell 3 none, Cond.fieldLink RX4 177 "PaperGuild$Model" "length" "I", Cond.methodLink RX4 167 yX0_follow, Cond.instanceMethod yX0_follow, Cond.selects RX0 yX0_follow yX0_follow, Cond.code yX0_follow cX0_follow 4 none, Cond.fieldLink RX0 20 "PaperGuild$Model" "length" "I", Cond.fieldLink RX0 25 "PaperGuild$Model" "stepCount" "I", Cond.fieldLink RX0 28 "PaperGuild$Model" "stepPlaces" "[I", Cond.fieldLink RX0 32 "PaperGuild$Model" "stepsFromLeft" "[Z", Cond.methodLink RX0 36 yX0_takeStep, Cond.instanceMethod yX0_takeStep]
def wsL_law0_r18 : List Cond := [Cond.selects RX0 yX0_takeStep yX0_takeStep, Cond.code yX0_takeStep cX0_takeStep 5 none, Cond.methodLink RX0 40 Lib.Math.min.name, Cond.methodLink RX0 46 Lib.Math.max.name, Cond.methodLink RL 130 yX5_placeOf, Cond.instanceMethod yX5_placeOf, Cond.selects RX5 yX5_placeOf yX5_placeOf, Cond.code yX5_placeOf cX5_placeOf 3 (some .int), Cond.methodLink RX5 110 yX5_isCell, Cond.instanceMethod yX5_isCell, Cond.selects RX5 yX5_isCell yX5_isCell, Cond.code yX5_isCell cX5_isCell 3 (some .boolean), Cond.methodLink RL 131 yL_isTurned, Cond.static yL_isTurned, Cond.codeWith yL_isTurned cL_isTurned 5 (some .int) [(0, 17, 20, 13)], Cond.methodLink RL 56 yX4_isTurned, Cond.instanceMethod yX4_isTurned, Cond.selects RX4 yX4_isTurned yX4_isTurned, Cond.code yX4_isTurned cX4_isTurned 4 (some .boolean), Cond.fieldLink RX4 173 "PaperGuild$Follower" "turned" "Z", Cond.methodLink RL 133 yX5_isTurned, Cond.instanceMethod yX5_isTurned, Cond.selects RX5 yX5_isTurned yX5_isTurned, Cond.code yX5_isTurned cX5_isTurned 3 (some .boolean)]
def wsL_law0_r19 : List Cond := [Cond.methodLink RL 134 yL_layersByFollowing, Cond.static yL_layersByFollowing, Cond.codeWith yL_layersByFollowing cL_layersByFollowing 4 (some .int) [(0, 9, 12, 13)], Cond.methodLink RL 59 yX4_layersByFollowing, Cond.instanceMethod yX4_layersByFollowing, Cond.selects RX4 yX4_layersByFollowing yX4_layersByFollowing, Cond.code yX4_layersByFollowing cX4_layersByFollowing 6 (some .int), Cond.methodLink RX4 180 Lib.Math.max.name, Cond.methodLink RL 136 yX5_layersByFollowing, Cond.instanceMethod yX5_layersByFollowing, Cond.selects RX5 yX5_layersByFollowing yX5_layersByFollowing, Cond.code yX5_layersByFollowing cX5_layersByFollowing 2 (some .int), Cond.methodLink RL 137 yL_bears, Cond.static yL_bears, Cond.codeWith yL_bears cL_bears 5 (some .int) [(0, 17, 20, 13), (0, 17, 24, 15)], Cond.methodLink RL 62 yX4_bears, Cond.instanceMethod yX4_bears, Cond.selects RX4 yX4_bears yX4_bears, Cond.code yX4_bears cX4_bears 5 (some .boolean), Cond.methodLink RL 139 yX5_bears, Cond.instanceMethod yX5_bears, Cond.selects RX5 yX5_bears yX5_bears, Cond.code yX5_bears cX5_bears 4 (some .boolean), Cond.methodLink RL 140 yL_kindsOf]
def wsL_law0_r20 : List Cond := [Cond.static yL_kindsOf, Cond.codeWith yL_kindsOf cL_kindsOf 4 (some .int) [(0, 9, 12, 13)], Cond.methodLink RL 65 yX4_kindsOf, Cond.instanceMethod yX4_kindsOf, Cond.selects RX4 yX4_kindsOf yX4_kindsOf, Cond.code yX4_kindsOf cX4_kindsOf 2 (some .int), Cond.methodLink RX4 187 yX4_kindsCountedFor, Cond.instanceMethod yX4_kindsCountedFor, Cond.selects RX4 yX4_kindsCountedFor yX4_kindsCountedFor, Cond.code yX4_kindsCountedFor cX4_kindsCountedFor 5 (some .int), Cond.methodLink RL 142 yX5_kindsOf, Cond.instanceMethod yX5_kindsOf, Cond.selects RX5 yX5_kindsOf yX5_kindsOf, Cond.code yX5_kindsOf cX5_kindsOf 2 (some .int), Cond.methodLink RX5 114 yX5_kindsFor, Cond.instanceMethod yX5_kindsFor, Cond.selects RX5 yX5_kindsFor yX5_kindsFor, Cond.code yX5_kindsFor cX5_kindsFor 4 (some .int), Cond.methodLink RL 143 yL_mayFold, Cond.static yL_mayFold, Cond.codeWith yL_mayFold cL_mayFold 5 (some .int) [(0, 17, 20, 13)], Cond.methodLink RL 68 yX4_mayFold, Cond.instanceMethod yX4_mayFold, Cond.selects RX4 yX4_mayFold yX4_mayFold]
def wsL_law0_r21 : List Cond := [Cond.code yX4_mayFold cX4_mayFold 3 (some .boolean), Cond.methodLink RL 145 yX5_mayFold, Cond.instanceMethod yX5_mayFold, Cond.selects RX5 yX5_mayFold yX5_mayFold, Cond.code yX5_mayFold cX5_mayFold 3 (some .boolean), Cond.methodLink RX5 117 yX5_isExam, Cond.instanceMethod yX5_isExam, Cond.selects RX5 yX5_isExam yX5_isExam, Cond.code yX5_isExam cX5_isExam 3 (some .boolean), Cond.methodLink RL 146 yL_lessons, Cond.static yL_lessons, Cond.codeWith yL_lessons cL_lessons 5 (some .int) [(0, 10, 13, 13)], Cond.methodLink RL 71 yX4_lessons, Cond.instanceMethod yX4_lessons, Cond.selects RX4 yX4_lessons yX4_lessons, Cond.code yX4_lessons cX4_lessons 4 (some .int), Cond.methodLink RL 148 yX5_lessons, Cond.instanceMethod yX5_lessons, Cond.selects RX5 yX5_lessons yX5_lessons, Cond.code yX5_lessons cX5_lessons 6 (some .int), Cond.methodLink RL 149 yL_credit, Cond.static yL_credit, Cond.codeWith yL_credit cL_credit 4 (some .int) [(0, 9, 12, 13)], Cond.methodLink RL 74 yX4_credit]
def wsL_law0_r22 : List Cond := [Cond.instanceMethod yX4_credit, Cond.selects RX4 yX4_credit yX4_credit, Cond.code yX4_credit cX4_credit 5 (some .int), Cond.methodLink RX4 190 yX4_modelsOf, Cond.instanceMethod yX4_modelsOf, Cond.selects RX4 yX4_modelsOf yX4_modelsOf, Cond.code yX4_modelsOf cX4_modelsOf 4 (some .int), Cond.fieldLink RX4 212 "PaperGuild$Model" "author" "I", Cond.methodLink RL 151 yX5_credit, Cond.instanceMethod yX5_credit, Cond.selects RX5 yX5_credit yX5_credit, Cond.code yX5_credit cX5_credit 6 (some .int), Cond.methodLink RL 152 yX4_fewestPieces, Cond.instanceMethod yX4_fewestPieces, Cond.selects RX4 yX4_fewestPieces yX4_fewestPieces, Cond.code yX4_fewestPieces cX4_fewestPieces 1 (some .int), Cond.methodLink RX4 193 yX1_fewestForRoll, Cond.instanceMethod yX1_fewestForRoll, Cond.selects RX1 yX1_fewestForRoll yX1_fewestForRoll, Cond.code yX1_fewestForRoll cX1_fewestForRoll 1 (some .int), Cond.methodLink RX1 25 yX1_fillFewest, Cond.instanceMethod yX1_fillFewest, Cond.selects RX1 yX1_fillFewest yX1_fillFewest, Cond.code yX1_fillFewest cX1_fillFewest 2 none]
def wsL_law0_r23 : List Cond := [Cond.methodLink RX1 37 yX1_fewestFor, Cond.instanceMethod yX1_fewestFor, Cond.selects RX1 yX1_fewestFor yX1_fewestFor, Cond.code yX1_fewestFor cX1_fewestFor 5 (some .int), Cond.methodLink RX1 28 yX1_isDemanded, Cond.instanceMethod yX1_isDemanded, Cond.selects RX1 yX1_isDemanded yX1_isDemanded, Cond.code yX1_isDemanded cX1_isDemanded 2 (some .boolean), Cond.methodLink RL 155 yX5_fewestPieces, Cond.instanceMethod yX5_fewestPieces, Cond.selects RX5 yX5_fewestPieces yX5_fewestPieces, Cond.code yX5_fewestPieces cX5_fewestPieces 1 (some .int), Cond.methodLink RX5 120 yX5_fewest, Cond.instanceMethod yX5_fewest, Cond.selects RX5 yX5_fewest yX5_fewest, Cond.code yX5_fewest cX5_fewest 4 none, Cond.methodLink RL 156 yX4_ways, Cond.instanceMethod yX4_ways, Cond.selects RX4 yX4_ways yX4_ways, Cond.code yX4_ways cX4_ways 1 (some .int), Cond.methodLink RX4 196 yX1_waysForRoll, Cond.instanceMethod yX1_waysForRoll, Cond.selects RX1 yX1_waysForRoll yX1_waysForRoll, Cond.code yX1_waysForRoll cX1_waysForRoll 2 (some .int)]
def wsL_law0_r24 : List Cond := [Cond.methodLink RX1 32 yX1_addWaysWith, Cond.instanceMethod yX1_addWaysWith, Cond.selects RX1 yX1_addWaysWith yX1_addWaysWith, Cond.code yX1_addWaysWith cX1_addWaysWith 3 none, Cond.constant RX1 36 (1000007), Cond.methodLink RL 159 yX5_ways, Cond.instanceMethod yX5_ways, Cond.selects RX5 yX5_ways yX5_ways, Cond.code yX5_ways cX5_ways 3 (some .int), Cond.constant RX5 123 (1000007), Cond.methodLink RL 160 yX4_leastRest, Cond.instanceMethod yX4_leastRest, Cond.selects RX4 yX4_leastRest yX4_leastRest, Cond.code yX4_leastRest cX4_leastRest 1 (some .int), Cond.methodLink RX4 199 yX1_restOfRoll, Cond.instanceMethod yX1_restOfRoll, Cond.selects RX1 yX1_restOfRoll yX1_restOfRoll, Cond.code yX1_restOfRoll cX1_restOfRoll 2 (some .int), Cond.methodLink RL 163 yX5_leastRest, Cond.instanceMethod yX5_leastRest, Cond.selects RX5 yX5_leastRest yX5_leastRest, Cond.code yX5_leastRest cX5_leastRest 2 (some .int)]
def wsL_law0 : List Cond := (wsL_law0_r1 ++ (wsL_law0_r2 ++ (wsL_law0_r3 ++ (wsL_law0_r4 ++ (wsL_law0_r5 ++ (wsL_law0_r6 ++ (wsL_law0_r7 ++ (wsL_law0_r8 ++ (wsL_law0_r9 ++ (wsL_law0_r10 ++ (wsL_law0_r11 ++ (wsL_law0_r12 ++ (wsL_law0_r13 ++ (wsL_law0_r14 ++ (wsL_law0_r15 ++ (wsL_law0_r16 ++ (wsL_law0_r17 ++ (wsL_law0_r18 ++ (wsL_law0_r19 ++ (wsL_law0_r20 ++ (wsL_law0_r21 ++ (wsL_law0_r22 ++ (wsL_law0_r23 ++ wsL_law0_r24))))))))))))))))))))))) ++ wsX40 ++ wsX50 ++ wsX00 ++ wsX10 ++ wsX20 ++ wsX30 ++ ([] : List Cond)
def wsL_law : List Cond := wsL_law0 ++ (vx_atS RX4 54 "java/lang/IllegalArgumentException" ["java/lang/RuntimeException", "java/lang/Exception"]).filter goodWord ++ (vx_atS RX4 153 "java/lang/IndexOutOfBoundsException" ["java/lang/RuntimeException", "java/lang/Exception"]).filter goodWord ++ (vx_atS RX4 76 "java/lang/IllegalStateException" ["java/lang/RuntimeException", "java/lang/Exception"]).filter goodWord
theorem inJ6 : ∀ w ∈ wsJ60, w ∈ lw_tbl := by decide +kernel
theorem inJ9 : ∀ w ∈ wsJ90, w ∈ lw_tbl := by decide +kernel
theorem inJ0 : ∀ w ∈ wsJ00, w ∈ lw_tbl := by decide +kernel
abbrev vwCl : List vw_C := [(RX0, TX0, 3), (RX1, TX1, 4), (RX2, TX2, 7), (RX3, TX3, 6), (RX4, TX4, 8), (RX5, TX5, 20)]
end
section
theorem dX0_init_0 : decode cX0_init 0 = .ok (.aload_n 0, 1) := by decide +kernel
theorem dX0_init_1 : decode cX0_init 1 = .ok (.invokespecial 1, 3) := by decide +kernel
theorem dX0_init_4 : decode cX0_init 4 = .ok (.aload_n 0, 1) := by decide +kernel
theorem dX0_init_5 : decode cX0_init 5 = .ok (.iconst 0, 1) := by decide +kernel
theorem dX0_init_6 : decode cX0_init 6 = .ok (.putfield 7, 3) := by decide +kernel
theorem dX0_init_9 : decode cX0_init 9 = .ok (.aload_n 0, 1) := by decide +kernel
theorem dX0_init_10 : decode cX0_init 10 = .ok (.iconst 0, 1) := by decide +kernel
theorem dX0_init_11 : decode cX0_init 11 = .ok (.putfield 13, 3) := by decide +kernel
theorem dX0_init_14 : decode cX0_init 14 = .ok (.aload_n 0, 1) := by decide +kernel
theorem dX0_init_15 : decode cX0_init 15 = .ok (.iconst 0, 1) := by decide +kernel
theorem dX0_init_16 : decode cX0_init 16 = .ok (.putfield 17, 3) := by decide +kernel
theorem dX0_init_19 : decode cX0_init 19 = .ok (.return_, 1) := by decide +kernel
set_option maxRecDepth 20000 in
theorem ggX0_follow_X0_takeStep : GoodIn wsX0_follow wsX0_takeStep := goodIn_r _ [12, 1, 2, 4, 13, 14, 15, 16, 17, 18, 19, 20, 21, 22] (by decide +kernel) (by decide +kernel)
set_option maxRecDepth 20000 in
theorem gX0_follow_X0_takeStep : GoodIn wsX0_follow (wsV RX0 36 RX0 yX0_takeStep wsX0_takeStep) := goodIn_app (goodIn_of _ (by decide +kernel)) ggX0_follow_X0_takeStep
theorem dX0_follow_0 : decode cX0_follow 0 = .ok (.aload_n 0, 1) := by decide +kernel
theorem dX0_follow_1 : decode cX0_follow 1 = .ok (.iload_n 2, 1) := by decide +kernel
theorem dX0_follow_2 : decode cX0_follow 2 = .ok (.putfield 7, 3) := by decide +kernel
theorem dX0_follow_5 : decode cX0_follow 5 = .ok (.aload_n 0, 1) := by decide +kernel
theorem dX0_follow_6 : decode cX0_follow 6 = .ok (.iconst 0, 1) := by decide +kernel
theorem dX0_follow_7 : decode cX0_follow 7 = .ok (.putfield 13, 3) := by decide +kernel
theorem dX0_follow_10 : decode cX0_follow 10 = .ok (.aload_n 0, 1) := by decide +kernel
theorem dX0_follow_11 : decode cX0_follow 11 = .ok (.aload_n 1, 1) := by decide +kernel
theorem dX0_follow_12 : decode cX0_follow 12 = .ok (.getfield 20, 3) := by decide +kernel
theorem dX0_follow_15 : decode cX0_follow 15 = .ok (.putfield 17, 3) := by decide +kernel
theorem dX0_follow_18 : decode cX0_follow 18 = .ok (.iconst 0, 1) := by decide +kernel
theorem dX0_follow_19 : decode cX0_follow 19 = .ok (.istore_n 3, 1) := by decide +kernel
theorem dX0_follow_20 : decode cX0_follow 20 = .ok (.iload_n 3, 1) := by decide +kernel
theorem dX0_follow_21 : decode cX0_follow 21 = .ok (.aload_n 1, 1) := by decide +kernel
theorem dX0_follow_22 : decode cX0_follow 22 = .ok (.getfield 25, 3) := by decide +kernel
theorem dX0_follow_25 : decode cX0_follow 25 = .ok (.if_icmp .ge 25, 3) := by decide +kernel
theorem dX0_follow_28 : decode cX0_follow 28 = .ok (.aload_n 0, 1) := by decide +kernel
theorem dX0_follow_29 : decode cX0_follow 29 = .ok (.aload_n 1, 1) := by decide +kernel
theorem dX0_follow_30 : decode cX0_follow 30 = .ok (.getfield 28, 3) := by decide +kernel
theorem dX0_follow_33 : decode cX0_follow 33 = .ok (.iload_n 3, 1) := by decide +kernel
theorem dX0_follow_34 : decode cX0_follow 34 = .ok (.iaload, 1) := by decide +kernel
theorem dX0_follow_35 : decode cX0_follow 35 = .ok (.aload_n 1, 1) := by decide +kernel
theorem dX0_follow_36 : decode cX0_follow 36 = .ok (.getfield 32, 3) := by decide +kernel
theorem dX0_follow_39 : decode cX0_follow 39 = .ok (.iload_n 3, 1) := by decide +kernel
theorem dX0_follow_40 : decode cX0_follow 40 = .ok (.baload, 1) := by decide +kernel
theorem dX0_follow_41 : decode cX0_follow 41 = .ok (.invokevirtual 36, 3) := by decide +kernel
theorem dX0_follow_44 : decode cX0_follow 44 = .ok (.iinc 3 1, 3) := by decide +kernel
theorem dX0_follow_47 : decode cX0_follow 47 = .ok (.goto (-27), 3) := by decide +kernel
theorem dX0_follow_50 : decode cX0_follow 50 = .ok (.return_, 1) := by decide +kernel
theorem dX0_takeStep_0 : decode cX0_takeStep 0 = .ok (.aload_n 0, 1) := by decide +kernel
theorem dX0_takeStep_1 : decode cX0_takeStep 1 = .ok (.getfield 7, 3) := by decide +kernel
theorem dX0_takeStep_4 : decode cX0_takeStep 4 = .ok (.iload_n 1, 1) := by decide +kernel
theorem dX0_takeStep_5 : decode cX0_takeStep 5 = .ok (.if_icmp .ge 7, 3) := by decide +kernel
theorem dX0_takeStep_8 : decode cX0_takeStep 8 = .ok (.iconst 1, 1) := by decide +kernel
theorem dX0_takeStep_9 : decode cX0_takeStep 9 = .ok (.goto 4, 3) := by decide +kernel
theorem dX0_takeStep_12 : decode cX0_takeStep 12 = .ok (.iconst 0, 1) := by decide +kernel
theorem dX0_takeStep_13 : decode cX0_takeStep 13 = .ok (.istore_n 3, 1) := by decide +kernel
theorem dX0_takeStep_14 : decode cX0_takeStep 14 = .ok (.iload_n 3, 1) := by decide +kernel
theorem dX0_takeStep_15 : decode cX0_takeStep 15 = .ok (.iload_n 2, 1) := by decide +kernel
theorem dX0_takeStep_16 : decode cX0_takeStep 16 = .ok (.if_icmp .ne 33, 3) := by decide +kernel
theorem dX0_takeStep_19 : decode cX0_takeStep 19 = .ok (.aload_n 0, 1) := by decide +kernel
theorem dX0_takeStep_20 : decode cX0_takeStep 20 = .ok (.iconst 2, 1) := by decide +kernel
theorem dX0_takeStep_21 : decode cX0_takeStep 21 = .ok (.iload_n 1, 1) := by decide +kernel
theorem dX0_takeStep_22 : decode cX0_takeStep 22 = .ok (.imul, 1) := by decide +kernel
theorem dX0_takeStep_23 : decode cX0_takeStep 23 = .ok (.iconst 1, 1) := by decide +kernel
theorem dX0_takeStep_24 : decode cX0_takeStep 24 = .ok (.isub, 1) := by decide +kernel
theorem dX0_takeStep_25 : decode cX0_takeStep 25 = .ok (.aload_n 0, 1) := by decide +kernel
theorem dX0_takeStep_26 : decode cX0_takeStep 26 = .ok (.getfield 7, 3) := by decide +kernel
theorem dX0_takeStep_29 : decode cX0_takeStep 29 = .ok (.isub, 1) := by decide +kernel
theorem dX0_takeStep_30 : decode cX0_takeStep 30 = .ok (.putfield 7, 3) := by decide +kernel
theorem dX0_takeStep_33 : decode cX0_takeStep 33 = .ok (.aload_n 0, 1) := by decide +kernel
theorem dX0_takeStep_34 : decode cX0_takeStep 34 = .ok (.aload_n 0, 1) := by decide +kernel
theorem dX0_takeStep_35 : decode cX0_takeStep 35 = .ok (.getfield 13, 3) := by decide +kernel
theorem dX0_takeStep_38 : decode cX0_takeStep 38 = .ok (.ifCond .ne 7, 3) := by decide +kernel
theorem dX0_takeStep_41 : decode cX0_takeStep 41 = .ok (.iconst 1, 1) := by decide +kernel
theorem dX0_takeStep_42 : decode cX0_takeStep 42 = .ok (.goto 4, 3) := by decide +kernel
theorem dX0_takeStep_45 : decode cX0_takeStep 45 = .ok (.iconst 0, 1) := by decide +kernel
theorem dX0_takeStep_46 : decode cX0_takeStep 46 = .ok (.putfield 13, 3) := by decide +kernel
theorem dX0_takeStep_49 : decode cX0_takeStep 49 = .ok (.iload_n 2, 1) := by decide +kernel
theorem dX0_takeStep_50 : decode cX0_takeStep 50 = .ok (.ifCond .eq 7, 3) := by decide +kernel
theorem dX0_takeStep_53 : decode cX0_takeStep 53 = .ok (.iload_n 1, 1) := by decide +kernel
theorem dX0_takeStep_54 : decode cX0_takeStep 54 = .ok (.goto 15, 3) := by decide +kernel
theorem dX0_takeStep_57 : decode cX0_takeStep 57 = .ok (.iconst 0, 1) := by decide +kernel
theorem dX0_takeStep_58 : decode cX0_takeStep 58 = .ok (.iconst 2, 1) := by decide +kernel
theorem dX0_takeStep_59 : decode cX0_takeStep 59 = .ok (.iload_n 1, 1) := by decide +kernel
theorem dX0_takeStep_60 : decode cX0_takeStep 60 = .ok (.imul, 1) := by decide +kernel
theorem dX0_takeStep_61 : decode cX0_takeStep 61 = .ok (.aload_n 0, 1) := by decide +kernel
theorem dX0_takeStep_62 : decode cX0_takeStep 62 = .ok (.getfield 17, 3) := by decide +kernel
theorem dX0_takeStep_65 : decode cX0_takeStep 65 = .ok (.isub, 1) := by decide +kernel
theorem dX0_takeStep_66 : decode cX0_takeStep 66 = .ok (.invokestatic 40, 3) := by decide +kernel
theorem dX0_takeStep_69 : decode cX0_takeStep 69 = .ok (.istore 4, 2) := by decide +kernel
theorem dX0_takeStep_71 : decode cX0_takeStep 71 = .ok (.aload_n 0, 1) := by decide +kernel
theorem dX0_takeStep_72 : decode cX0_takeStep 72 = .ok (.dup, 1) := by decide +kernel
theorem dX0_takeStep_73 : decode cX0_takeStep 73 = .ok (.getfield 7, 3) := by decide +kernel
theorem dX0_takeStep_76 : decode cX0_takeStep 76 = .ok (.iload 4, 2) := by decide +kernel
theorem dX0_takeStep_78 : decode cX0_takeStep 78 = .ok (.isub, 1) := by decide +kernel
theorem dX0_takeStep_79 : decode cX0_takeStep 79 = .ok (.putfield 7, 3) := by decide +kernel
theorem dX0_takeStep_82 : decode cX0_takeStep 82 = .ok (.aload_n 0, 1) := by decide +kernel
theorem dX0_takeStep_83 : decode cX0_takeStep 83 = .ok (.iload_n 1, 1) := by decide +kernel
theorem dX0_takeStep_84 : decode cX0_takeStep 84 = .ok (.aload_n 0, 1) := by decide +kernel
theorem dX0_takeStep_85 : decode cX0_takeStep 85 = .ok (.getfield 17, 3) := by decide +kernel
theorem dX0_takeStep_88 : decode cX0_takeStep 88 = .ok (.iload_n 1, 1) := by decide +kernel
theorem dX0_takeStep_89 : decode cX0_takeStep 89 = .ok (.isub, 1) := by decide +kernel
theorem dX0_takeStep_90 : decode cX0_takeStep 90 = .ok (.invokestatic 46, 3) := by decide +kernel
theorem dX0_takeStep_93 : decode cX0_takeStep 93 = .ok (.putfield 17, 3) := by decide +kernel
theorem dX0_takeStep_96 : decode cX0_takeStep 96 = .ok (.return_, 1) := by decide +kernel
theorem dX1_init_0 : decode cX1_init 0 = .ok (.aload_n 0, 1) := by decide +kernel
theorem dX1_init_1 : decode cX1_init 1 = .ok (.invokespecial 3, 3) := by decide +kernel
theorem dX1_init_4 : decode cX1_init 4 = .ok (.aload_n 0, 1) := by decide +kernel
theorem dX1_init_5 : decode cX1_init 5 = .ok (.iconst 0, 1) := by decide +kernel
theorem dX1_init_6 : decode cX1_init 6 = .ok (.putfield 9, 3) := by decide +kernel
theorem dX1_init_9 : decode cX1_init 9 = .ok (.aload_n 0, 1) := by decide +kernel
theorem dX1_init_10 : decode cX1_init 10 = .ok (.iconst 0, 1) := by decide +kernel
theorem dX1_init_11 : decode cX1_init 11 = .ok (.putfield 15, 3) := by decide +kernel
theorem dX1_init_14 : decode cX1_init 14 = .ok (.aload_n 0, 1) := by decide +kernel
theorem dX1_init_15 : decode cX1_init 15 = .ok (.sipush 201, 3) := by decide +kernel
theorem dX1_init_18 : decode cX1_init 18 = .ok (.newarray .int, 2) := by decide +kernel
theorem dX1_init_20 : decode cX1_init 20 = .ok (.putfield 18, 3) := by decide +kernel
theorem dX1_init_23 : decode cX1_init 23 = .ok (.aload_n 0, 1) := by decide +kernel
theorem dX1_init_24 : decode cX1_init 24 = .ok (.sipush 201, 3) := by decide +kernel
theorem dX1_init_27 : decode cX1_init 27 = .ok (.newarray .int, 2) := by decide +kernel
theorem dX1_init_29 : decode cX1_init 29 = .ok (.putfield 22, 3) := by decide +kernel
theorem dX1_init_32 : decode cX1_init 32 = .ok (.return_, 1) := by decide +kernel
set_option maxRecDepth 20000 in
theorem ggX1_fewestForRoll_X1_fillFewest : GoodIn wsX1_fewestForRoll wsX1_fillFewest := goodIn_r _ [7, 1, 2, 8, 9, 10, 6, 11, 12, 13, 14, 15, 16, 17, 18, 19, 20, 21, 22, 23] (by decide +kernel) (by decide +kernel)
set_option maxRecDepth 20000 in
theorem gX1_fewestForRoll_X1_fillFewest : GoodIn wsX1_fewestForRoll (wsV RX1 25 RX1 yX1_fillFewest wsX1_fillFewest) := goodIn_app (goodIn_of _ (by decide +kernel)) ggX1_fewestForRoll_X1_fillFewest
theorem dX1_fewestForRoll_0 : decode cX1_fewestForRoll 0 = .ok (.aload_n 0, 1) := by decide +kernel
theorem dX1_fewestForRoll_1 : decode cX1_fewestForRoll 1 = .ok (.invokevirtual 25, 3) := by decide +kernel
theorem dX1_fewestForRoll_4 : decode cX1_fewestForRoll 4 = .ok (.aload_n 0, 1) := by decide +kernel
theorem dX1_fewestForRoll_5 : decode cX1_fewestForRoll 5 = .ok (.getfield 18, 3) := by decide +kernel
theorem dX1_fewestForRoll_8 : decode cX1_fewestForRoll 8 = .ok (.aload_n 0, 1) := by decide +kernel
theorem dX1_fewestForRoll_9 : decode cX1_fewestForRoll 9 = .ok (.getfield 9, 3) := by decide +kernel
theorem dX1_fewestForRoll_12 : decode cX1_fewestForRoll 12 = .ok (.iaload, 1) := by decide +kernel
theorem dX1_fewestForRoll_13 : decode cX1_fewestForRoll 13 = .ok (.ireturn, 1) := by decide +kernel
set_option maxRecDepth 20000 in
theorem ggX1_restOfRoll_X1_fillFewest : GoodIn wsX1_restOfRoll wsX1_fillFewest := goodIn_r _ [7, 2, 1, 8, 9, 10, 6, 11, 12, 13, 14, 15, 16, 17, 18, 19, 20, 21, 22, 23] (by decide +kernel) (by decide +kernel)
set_option maxRecDepth 20000 in
theorem gX1_restOfRoll_X1_fillFewest : GoodIn wsX1_restOfRoll (wsV RX1 25 RX1 yX1_fillFewest wsX1_fillFewest) := goodIn_app (goodIn_of _ (by decide +kernel)) ggX1_restOfRoll_X1_fillFewest
theorem dX1_restOfRoll_0 : decode cX1_restOfRoll 0 = .ok (.aload_n 0, 1) := by decide +kernel
theorem dX1_restOfRoll_1 : decode cX1_restOfRoll 1 = .ok (.invokevirtual 25, 3) := by decide +kernel
theorem dX1_restOfRoll_4 : decode cX1_restOfRoll 4 = .ok (.aload_n 0, 1) := by decide +kernel
theorem dX1_restOfRoll_5 : decode cX1_restOfRoll 5 = .ok (.getfield 9, 3) := by decide +kernel
theorem dX1_restOfRoll_8 : decode cX1_restOfRoll 8 = .ok (.istore_n 1, 1) := by decide +kernel
theorem dX1_restOfRoll_9 : decode cX1_restOfRoll 9 = .ok (.iload_n 1, 1) := by decide +kernel
theorem dX1_restOfRoll_10 : decode cX1_restOfRoll 10 = .ok (.ifCond .le 18, 3) := by decide +kernel
theorem dX1_restOfRoll_13 : decode cX1_restOfRoll 13 = .ok (.aload_n 0, 1) := by decide +kernel
theorem dX1_restOfRoll_14 : decode cX1_restOfRoll 14 = .ok (.getfield 18, 3) := by decide +kernel
theorem dX1_restOfRoll_17 : decode cX1_restOfRoll 17 = .ok (.iload_n 1, 1) := by decide +kernel
theorem dX1_restOfRoll_18 : decode cX1_restOfRoll 18 = .ok (.iaload, 1) := by decide +kernel
theorem dX1_restOfRoll_19 : decode cX1_restOfRoll 19 = .ok (.ifCond .ge 9, 3) := by decide +kernel
theorem dX1_restOfRoll_22 : decode cX1_restOfRoll 22 = .ok (.iinc 1 (-1), 3) := by decide +kernel
theorem dX1_restOfRoll_25 : decode cX1_restOfRoll 25 = .ok (.goto (-16), 3) := by decide +kernel
theorem dX1_restOfRoll_28 : decode cX1_restOfRoll 28 = .ok (.aload_n 0, 1) := by decide +kernel
theorem dX1_restOfRoll_29 : decode cX1_restOfRoll 29 = .ok (.getfield 9, 3) := by decide +kernel
theorem dX1_restOfRoll_32 : decode cX1_restOfRoll 32 = .ok (.iload_n 1, 1) := by decide +kernel
theorem dX1_restOfRoll_33 : decode cX1_restOfRoll 33 = .ok (.isub, 1) := by decide +kernel
theorem dX1_restOfRoll_34 : decode cX1_restOfRoll 34 = .ok (.ireturn, 1) := by decide +kernel
set_option maxRecDepth 20000 in
theorem ggX1_waysForRoll_X1_isDemanded : GoodIn wsX1_waysForRoll wsX1_isDemanded := goodIn_r _ [7, 8, 9, 10, 11, 17, 18, 19, 20] (by decide +kernel) (by decide +kernel)
set_option maxRecDepth 20000 in
theorem gX1_waysForRoll_X1_isDemanded : GoodIn wsX1_waysForRoll (wsV RX1 28 RX1 yX1_isDemanded wsX1_isDemanded) := goodIn_app (goodIn_of _ (by decide +kernel)) ggX1_waysForRoll_X1_isDemanded
set_option maxRecDepth 20000 in
theorem ggX1_waysForRoll_X1_addWaysWith : GoodIn wsX1_waysForRoll wsX1_addWaysWith := goodIn_r _ [15, 2, 1, 16, 17, 18, 19, 20] (by decide +kernel) (by decide +kernel)
set_option maxRecDepth 20000 in
theorem gX1_waysForRoll_X1_addWaysWith : GoodIn wsX1_waysForRoll (wsV RX1 32 RX1 yX1_addWaysWith wsX1_addWaysWith) := goodIn_app (goodIn_of _ (by decide +kernel)) ggX1_waysForRoll_X1_addWaysWith
theorem dX1_waysForRoll_0 : decode cX1_waysForRoll 0 = .ok (.aload_n 0, 1) := by decide +kernel
theorem dX1_waysForRoll_1 : decode cX1_waysForRoll 1 = .ok (.getfield 22, 3) := by decide +kernel
theorem dX1_waysForRoll_4 : decode cX1_waysForRoll 4 = .ok (.iconst 0, 1) := by decide +kernel
theorem dX1_waysForRoll_5 : decode cX1_waysForRoll 5 = .ok (.iconst 1, 1) := by decide +kernel
theorem dX1_waysForRoll_6 : decode cX1_waysForRoll 6 = .ok (.iastore, 1) := by decide +kernel
theorem dX1_waysForRoll_7 : decode cX1_waysForRoll 7 = .ok (.iconst 1, 1) := by decide +kernel
theorem dX1_waysForRoll_8 : decode cX1_waysForRoll 8 = .ok (.istore_n 1, 1) := by decide +kernel
theorem dX1_waysForRoll_9 : decode cX1_waysForRoll 9 = .ok (.iload_n 1, 1) := by decide +kernel
theorem dX1_waysForRoll_10 : decode cX1_waysForRoll 10 = .ok (.aload_n 0, 1) := by decide +kernel
theorem dX1_waysForRoll_11 : decode cX1_waysForRoll 11 = .ok (.getfield 9, 3) := by decide +kernel
theorem dX1_waysForRoll_14 : decode cX1_waysForRoll 14 = .ok (.if_icmp .gt 16, 3) := by decide +kernel
theorem dX1_waysForRoll_17 : decode cX1_waysForRoll 17 = .ok (.aload_n 0, 1) := by decide +kernel
theorem dX1_waysForRoll_18 : decode cX1_waysForRoll 18 = .ok (.getfield 22, 3) := by decide +kernel
theorem dX1_waysForRoll_21 : decode cX1_waysForRoll 21 = .ok (.iload_n 1, 1) := by decide +kernel
theorem dX1_waysForRoll_22 : decode cX1_waysForRoll 22 = .ok (.iconst 0, 1) := by decide +kernel
theorem dX1_waysForRoll_23 : decode cX1_waysForRoll 23 = .ok (.iastore, 1) := by decide +kernel
theorem dX1_waysForRoll_24 : decode cX1_waysForRoll 24 = .ok (.iinc 1 1, 3) := by decide +kernel
theorem dX1_waysForRoll_27 : decode cX1_waysForRoll 27 = .ok (.goto (-18), 3) := by decide +kernel
theorem dX1_waysForRoll_30 : decode cX1_waysForRoll 30 = .ok (.iconst 1, 1) := by decide +kernel
theorem dX1_waysForRoll_31 : decode cX1_waysForRoll 31 = .ok (.istore_n 1, 1) := by decide +kernel
theorem dX1_waysForRoll_32 : decode cX1_waysForRoll 32 = .ok (.iload_n 1, 1) := by decide +kernel
theorem dX1_waysForRoll_33 : decode cX1_waysForRoll 33 = .ok (.bipush 20, 2) := by decide +kernel
theorem dX1_waysForRoll_35 : decode cX1_waysForRoll 35 = .ok (.if_icmp .gt 22, 3) := by decide +kernel
theorem dX1_waysForRoll_38 : decode cX1_waysForRoll 38 = .ok (.aload_n 0, 1) := by decide +kernel
theorem dX1_waysForRoll_39 : decode cX1_waysForRoll 39 = .ok (.iload_n 1, 1) := by decide +kernel
theorem dX1_waysForRoll_40 : decode cX1_waysForRoll 40 = .ok (.invokevirtual 28, 3) := by decide +kernel
theorem dX1_waysForRoll_43 : decode cX1_waysForRoll 43 = .ok (.ifCond .eq 8, 3) := by decide +kernel
theorem dX1_waysForRoll_46 : decode cX1_waysForRoll 46 = .ok (.aload_n 0, 1) := by decide +kernel
theorem dX1_waysForRoll_47 : decode cX1_waysForRoll 47 = .ok (.iload_n 1, 1) := by decide +kernel
theorem dX1_waysForRoll_48 : decode cX1_waysForRoll 48 = .ok (.invokevirtual 32, 3) := by decide +kernel
theorem dX1_waysForRoll_51 : decode cX1_waysForRoll 51 = .ok (.iinc 1 1, 3) := by decide +kernel
theorem dX1_waysForRoll_54 : decode cX1_waysForRoll 54 = .ok (.goto (-22), 3) := by decide +kernel
theorem dX1_waysForRoll_57 : decode cX1_waysForRoll 57 = .ok (.aload_n 0, 1) := by decide +kernel
theorem dX1_waysForRoll_58 : decode cX1_waysForRoll 58 = .ok (.getfield 22, 3) := by decide +kernel
theorem dX1_waysForRoll_61 : decode cX1_waysForRoll 61 = .ok (.aload_n 0, 1) := by decide +kernel
theorem dX1_waysForRoll_62 : decode cX1_waysForRoll 62 = .ok (.getfield 9, 3) := by decide +kernel
theorem dX1_waysForRoll_65 : decode cX1_waysForRoll 65 = .ok (.iaload, 1) := by decide +kernel
theorem dX1_waysForRoll_66 : decode cX1_waysForRoll 66 = .ok (.ireturn, 1) := by decide +kernel
theorem dX1_addWaysWith_0 : decode cX1_addWaysWith 0 = .ok (.iload_n 1, 1) := by decide +kernel
theorem dX1_addWaysWith_1 : decode cX1_addWaysWith 1 = .ok (.istore_n 2, 1) := by decide +kernel
theorem dX1_addWaysWith_2 : decode cX1_addWaysWith 2 = .ok (.iload_n 2, 1) := by decide +kernel
theorem dX1_addWaysWith_3 : decode cX1_addWaysWith 3 = .ok (.aload_n 0, 1) := by decide +kernel
theorem dX1_addWaysWith_4 : decode cX1_addWaysWith 4 = .ok (.getfield 9, 3) := by decide +kernel
theorem dX1_addWaysWith_7 : decode cX1_addWaysWith 7 = .ok (.if_icmp .gt 33, 3) := by decide +kernel
theorem dX1_addWaysWith_10 : decode cX1_addWaysWith 10 = .ok (.aload_n 0, 1) := by decide +kernel
theorem dX1_addWaysWith_11 : decode cX1_addWaysWith 11 = .ok (.getfield 22, 3) := by decide +kernel
theorem dX1_addWaysWith_14 : decode cX1_addWaysWith 14 = .ok (.iload_n 2, 1) := by decide +kernel
theorem dX1_addWaysWith_15 : decode cX1_addWaysWith 15 = .ok (.aload_n 0, 1) := by decide +kernel
theorem dX1_addWaysWith_16 : decode cX1_addWaysWith 16 = .ok (.getfield 22, 3) := by decide +kernel
theorem dX1_addWaysWith_19 : decode cX1_addWaysWith 19 = .ok (.iload_n 2, 1) := by decide +kernel
theorem dX1_addWaysWith_20 : decode cX1_addWaysWith 20 = .ok (.iaload, 1) := by decide +kernel
theorem dX1_addWaysWith_21 : decode cX1_addWaysWith 21 = .ok (.aload_n 0, 1) := by decide +kernel
theorem dX1_addWaysWith_22 : decode cX1_addWaysWith 22 = .ok (.getfield 22, 3) := by decide +kernel
theorem dX1_addWaysWith_25 : decode cX1_addWaysWith 25 = .ok (.iload_n 2, 1) := by decide +kernel
theorem dX1_addWaysWith_26 : decode cX1_addWaysWith 26 = .ok (.iload_n 1, 1) := by decide +kernel
theorem dX1_addWaysWith_27 : decode cX1_addWaysWith 27 = .ok (.isub, 1) := by decide +kernel
theorem dX1_addWaysWith_28 : decode cX1_addWaysWith 28 = .ok (.iaload, 1) := by decide +kernel
theorem dX1_addWaysWith_29 : decode cX1_addWaysWith 29 = .ok (.iadd, 1) := by decide +kernel
theorem dX1_addWaysWith_30 : decode cX1_addWaysWith 30 = .ok (.ldc 36, 2) := by decide +kernel
theorem dX1_addWaysWith_32 : decode cX1_addWaysWith 32 = .ok (.irem, 1) := by decide +kernel
theorem dX1_addWaysWith_33 : decode cX1_addWaysWith 33 = .ok (.iastore, 1) := by decide +kernel
theorem dX1_addWaysWith_34 : decode cX1_addWaysWith 34 = .ok (.iinc 2 1, 3) := by decide +kernel
theorem dX1_addWaysWith_37 : decode cX1_addWaysWith 37 = .ok (.goto (-35), 3) := by decide +kernel
theorem dX1_addWaysWith_40 : decode cX1_addWaysWith 40 = .ok (.return_, 1) := by decide +kernel
set_option maxRecDepth 20000 in
theorem ggX1_fillFewest_X1_fewestFor : GoodIn wsX1_fillFewest wsX1_fewestFor := goodIn_r _ [7, 1, 8, 9, 10, 6, 11, 12, 13, 14, 15, 16, 17, 18, 19] (by decide +kernel) (by decide +kernel)
set_option maxRecDepth 20000 in
theorem gX1_fillFewest_X1_fewestFor : GoodIn wsX1_fillFewest (wsV RX1 37 RX1 yX1_fewestFor wsX1_fewestFor) := goodIn_app (goodIn_of _ (by decide +kernel)) ggX1_fillFewest_X1_fewestFor
theorem dX1_fillFewest_0 : decode cX1_fillFewest 0 = .ok (.aload_n 0, 1) := by decide +kernel
theorem dX1_fillFewest_1 : decode cX1_fillFewest 1 = .ok (.getfield 18, 3) := by decide +kernel
theorem dX1_fillFewest_4 : decode cX1_fillFewest 4 = .ok (.iconst 0, 1) := by decide +kernel
theorem dX1_fillFewest_5 : decode cX1_fillFewest 5 = .ok (.iconst 0, 1) := by decide +kernel
theorem dX1_fillFewest_6 : decode cX1_fillFewest 6 = .ok (.iastore, 1) := by decide +kernel
theorem dX1_fillFewest_7 : decode cX1_fillFewest 7 = .ok (.iconst 1, 1) := by decide +kernel
theorem dX1_fillFewest_8 : decode cX1_fillFewest 8 = .ok (.istore_n 1, 1) := by decide +kernel
theorem dX1_fillFewest_9 : decode cX1_fillFewest 9 = .ok (.iload_n 1, 1) := by decide +kernel
theorem dX1_fillFewest_10 : decode cX1_fillFewest 10 = .ok (.aload_n 0, 1) := by decide +kernel
theorem dX1_fillFewest_11 : decode cX1_fillFewest 11 = .ok (.getfield 9, 3) := by decide +kernel
theorem dX1_fillFewest_14 : decode cX1_fillFewest 14 = .ok (.if_icmp .gt 20, 3) := by decide +kernel
theorem dX1_fillFewest_17 : decode cX1_fillFewest 17 = .ok (.aload_n 0, 1) := by decide +kernel
theorem dX1_fillFewest_18 : decode cX1_fillFewest 18 = .ok (.getfield 18, 3) := by decide +kernel
theorem dX1_fillFewest_21 : decode cX1_fillFewest 21 = .ok (.iload_n 1, 1) := by decide +kernel
theorem dX1_fillFewest_22 : decode cX1_fillFewest 22 = .ok (.aload_n 0, 1) := by decide +kernel
theorem dX1_fillFewest_23 : decode cX1_fillFewest 23 = .ok (.iload_n 1, 1) := by decide +kernel
theorem dX1_fillFewest_24 : decode cX1_fillFewest 24 = .ok (.invokevirtual 37, 3) := by decide +kernel
theorem dX1_fillFewest_27 : decode cX1_fillFewest 27 = .ok (.iastore, 1) := by decide +kernel
theorem dX1_fillFewest_28 : decode cX1_fillFewest 28 = .ok (.iinc 1 1, 3) := by decide +kernel
theorem dX1_fillFewest_31 : decode cX1_fillFewest 31 = .ok (.goto (-22), 3) := by decide +kernel
theorem dX1_fillFewest_34 : decode cX1_fillFewest 34 = .ok (.return_, 1) := by decide +kernel
set_option maxRecDepth 20000 in
theorem ggX1_fewestFor_X1_isDemanded : GoodIn wsX1_fewestFor wsX1_isDemanded := goodIn_r _ [6, 7, 8, 9, 10, 11, 12, 13, 14] (by decide +kernel) (by decide +kernel)
set_option maxRecDepth 20000 in
theorem gX1_fewestFor_X1_isDemanded : GoodIn wsX1_fewestFor (wsV RX1 28 RX1 yX1_isDemanded wsX1_isDemanded) := goodIn_app (goodIn_of _ (by decide +kernel)) ggX1_fewestFor_X1_isDemanded
theorem dX1_fewestFor_0 : decode cX1_fewestFor 0 = .ok (.iconst (-1), 1) := by decide +kernel
theorem dX1_fewestFor_1 : decode cX1_fewestFor 1 = .ok (.istore_n 2, 1) := by decide +kernel
theorem dX1_fewestFor_2 : decode cX1_fewestFor 2 = .ok (.iconst 1, 1) := by decide +kernel
theorem dX1_fewestFor_3 : decode cX1_fewestFor 3 = .ok (.istore_n 3, 1) := by decide +kernel
theorem dX1_fewestFor_4 : decode cX1_fewestFor 4 = .ok (.iload_n 3, 1) := by decide +kernel
theorem dX1_fewestFor_5 : decode cX1_fewestFor 5 = .ok (.bipush 20, 2) := by decide +kernel
theorem dX1_fewestFor_7 : decode cX1_fewestFor 7 = .ok (.if_icmp .gt 58, 3) := by decide +kernel
theorem dX1_fewestFor_10 : decode cX1_fewestFor 10 = .ok (.iload_n 3, 1) := by decide +kernel
theorem dX1_fewestFor_11 : decode cX1_fewestFor 11 = .ok (.iload_n 1, 1) := by decide +kernel
theorem dX1_fewestFor_12 : decode cX1_fewestFor 12 = .ok (.if_icmp .gt 53, 3) := by decide +kernel
theorem dX1_fewestFor_15 : decode cX1_fewestFor 15 = .ok (.aload_n 0, 1) := by decide +kernel
theorem dX1_fewestFor_16 : decode cX1_fewestFor 16 = .ok (.iload_n 3, 1) := by decide +kernel
theorem dX1_fewestFor_17 : decode cX1_fewestFor 17 = .ok (.invokevirtual 28, 3) := by decide +kernel
theorem dX1_fewestFor_20 : decode cX1_fewestFor 20 = .ok (.ifCond .eq 14, 3) := by decide +kernel
theorem dX1_fewestFor_23 : decode cX1_fewestFor 23 = .ok (.aload_n 0, 1) := by decide +kernel
theorem dX1_fewestFor_24 : decode cX1_fewestFor 24 = .ok (.getfield 18, 3) := by decide +kernel
theorem dX1_fewestFor_27 : decode cX1_fewestFor 27 = .ok (.iload_n 1, 1) := by decide +kernel
theorem dX1_fewestFor_28 : decode cX1_fewestFor 28 = .ok (.iload_n 3, 1) := by decide +kernel
theorem dX1_fewestFor_29 : decode cX1_fewestFor 29 = .ok (.isub, 1) := by decide +kernel
theorem dX1_fewestFor_30 : decode cX1_fewestFor 30 = .ok (.iaload, 1) := by decide +kernel
theorem dX1_fewestFor_31 : decode cX1_fewestFor 31 = .ok (.goto 4, 3) := by decide +kernel
theorem dX1_fewestFor_34 : decode cX1_fewestFor 34 = .ok (.iconst (-1), 1) := by decide +kernel
theorem dX1_fewestFor_35 : decode cX1_fewestFor 35 = .ok (.istore 4, 2) := by decide +kernel
theorem dX1_fewestFor_37 : decode cX1_fewestFor 37 = .ok (.iload 4, 2) := by decide +kernel
theorem dX1_fewestFor_39 : decode cX1_fewestFor 39 = .ok (.ifCond .lt 20, 3) := by decide +kernel
theorem dX1_fewestFor_42 : decode cX1_fewestFor 42 = .ok (.iload_n 2, 1) := by decide +kernel
theorem dX1_fewestFor_43 : decode cX1_fewestFor 43 = .ok (.ifCond .lt 11, 3) := by decide +kernel
theorem dX1_fewestFor_46 : decode cX1_fewestFor 46 = .ok (.iload 4, 2) := by decide +kernel
theorem dX1_fewestFor_48 : decode cX1_fewestFor 48 = .ok (.iconst 1, 1) := by decide +kernel
theorem dX1_fewestFor_49 : decode cX1_fewestFor 49 = .ok (.iadd, 1) := by decide +kernel
theorem dX1_fewestFor_50 : decode cX1_fewestFor 50 = .ok (.iload_n 2, 1) := by decide +kernel
theorem dX1_fewestFor_51 : decode cX1_fewestFor 51 = .ok (.if_icmp .ge 8, 3) := by decide +kernel
theorem dX1_fewestFor_54 : decode cX1_fewestFor 54 = .ok (.iload 4, 2) := by decide +kernel
theorem dX1_fewestFor_56 : decode cX1_fewestFor 56 = .ok (.iconst 1, 1) := by decide +kernel
theorem dX1_fewestFor_57 : decode cX1_fewestFor 57 = .ok (.iadd, 1) := by decide +kernel
theorem dX1_fewestFor_58 : decode cX1_fewestFor 58 = .ok (.istore_n 2, 1) := by decide +kernel
theorem dX1_fewestFor_59 : decode cX1_fewestFor 59 = .ok (.iinc 3 1, 3) := by decide +kernel
theorem dX1_fewestFor_62 : decode cX1_fewestFor 62 = .ok (.goto (-58), 3) := by decide +kernel
theorem dX1_fewestFor_65 : decode cX1_fewestFor 65 = .ok (.iload_n 2, 1) := by decide +kernel
theorem dX1_fewestFor_66 : decode cX1_fewestFor 66 = .ok (.ireturn, 1) := by decide +kernel
set_option maxRecDepth 20000 in
theorem ggX1_isDemanded_X4_holds : GoodIn wsX1_isDemanded wsX4_holds := goodIn_r _ [4] (by decide +kernel) (by decide +kernel)
set_option maxRecDepth 20000 in
theorem gX1_isDemanded_X4_holds_n41 : GoodIn wsX1_isDemanded (wsX4_holds) := ggX1_isDemanded_X4_holds
theorem dX1_isDemanded_0 : decode cX1_isDemanded 0 = .ok (.aload_n 0, 1) := by decide +kernel
theorem dX1_isDemanded_1 : decode cX1_isDemanded 1 = .ok (.getfield 15, 3) := by decide +kernel
theorem dX1_isDemanded_4 : decode cX1_isDemanded 4 = .ok (.iload_n 1, 1) := by decide +kernel
theorem dX1_isDemanded_5 : decode cX1_isDemanded 5 = .ok (.iconst 1, 1) := by decide +kernel
theorem dX1_isDemanded_6 : decode cX1_isDemanded 6 = .ok (.isub, 1) := by decide +kernel
theorem dX1_isDemanded_7 : decode cX1_isDemanded 7 = .ok (.invokestatic 41, 3) := by decide +kernel
theorem dX1_isDemanded_10 : decode cX1_isDemanded 10 = .ok (.ireturn, 1) := by decide +kernel
set_option maxRecDepth 20000 in
theorem ggX2_init_X3_init : GoodIn wsX2_init wsX3_init := goodIn_r _ [17, 18, 2, 3, 4, 19, 20, 21, 22, 23, 24, 43, 44, 45, 46, 47, 48] (by decide +kernel) (by decide +kernel)
set_option maxRecDepth 20000 in
theorem gX2_init_X3_init_n34 : GoodIn wsX2_init (wsX3_init) := ggX2_init_X3_init
set_option maxRecDepth 20000 in
theorem ggX2_init_X3_layFlat : GoodIn wsX2_init wsX3_layFlat := goodIn_r _ [28, 29, 30, 31, 32, 33, 34, 35, 24, 19, 20, 43, 44, 45, 46, 47, 48] (by decide +kernel) (by decide +kernel)
set_option maxRecDepth 20000 in
theorem gX2_init_X3_layFlat : GoodIn wsX2_init (wsV RX2 39 RX3 yX3_layFlat wsX3_layFlat) := goodIn_app (goodIn_of _ (by decide +kernel)) ggX2_init_X3_layFlat
theorem dX2_init_0 : decode cX2_init 0 = .ok (.aload_n 0, 1) := by decide +kernel
theorem dX2_init_1 : decode cX2_init 1 = .ok (.invokespecial 3, 3) := by decide +kernel
theorem dX2_init_4 : decode cX2_init 4 = .ok (.aload_n 0, 1) := by decide +kernel
theorem dX2_init_5 : decode cX2_init 5 = .ok (.bipush 10, 2) := by decide +kernel
theorem dX2_init_7 : decode cX2_init 7 = .ok (.newarray .int, 2) := by decide +kernel
theorem dX2_init_9 : decode cX2_init 9 = .ok (.putfield 9, 3) := by decide +kernel
theorem dX2_init_12 : decode cX2_init 12 = .ok (.aload_n 0, 1) := by decide +kernel
theorem dX2_init_13 : decode cX2_init 13 = .ok (.bipush 10, 2) := by decide +kernel
theorem dX2_init_15 : decode cX2_init 15 = .ok (.newarray .int, 2) := by decide +kernel
theorem dX2_init_17 : decode cX2_init 17 = .ok (.putfield 15, 3) := by decide +kernel
theorem dX2_init_20 : decode cX2_init 20 = .ok (.aload_n 0, 1) := by decide +kernel
theorem dX2_init_21 : decode cX2_init 21 = .ok (.bipush 10, 2) := by decide +kernel
theorem dX2_init_23 : decode cX2_init 23 = .ok (.newarray .boolean, 2) := by decide +kernel
theorem dX2_init_25 : decode cX2_init 25 = .ok (.putfield 18, 3) := by decide +kernel
theorem dX2_init_28 : decode cX2_init 28 = .ok (.aload_n 0, 1) := by decide +kernel
theorem dX2_init_29 : decode cX2_init 29 = .ok (.iconst 0, 1) := by decide +kernel
theorem dX2_init_30 : decode cX2_init 30 = .ok (.putfield 22, 3) := by decide +kernel
theorem dX2_init_33 : decode cX2_init 33 = .ok (.aload_n 0, 1) := by decide +kernel
theorem dX2_init_34 : decode cX2_init 34 = .ok (.iload_n 1, 1) := by decide +kernel
theorem dX2_init_35 : decode cX2_init 35 = .ok (.putfield 26, 3) := by decide +kernel
theorem dX2_init_38 : decode cX2_init 38 = .ok (.aload_n 0, 1) := by decide +kernel
theorem dX2_init_39 : decode cX2_init 39 = .ok (.iload_n 2, 1) := by decide +kernel
theorem dX2_init_40 : decode cX2_init 40 = .ok (.putfield 29, 3) := by decide +kernel
theorem dX2_init_43 : decode cX2_init 43 = .ok (.aload_n 0, 1) := by decide +kernel
theorem dX2_init_44 : decode cX2_init 44 = .ok (.new 32, 3) := by decide +kernel
theorem dX2_init_47 : decode cX2_init 47 = .ok (.dup, 1) := by decide +kernel
theorem dX2_init_48 : decode cX2_init 48 = .ok (.invokespecial 34, 3) := by decide +kernel
theorem dX2_init_51 : decode cX2_init 51 = .ok (.putfield 35, 3) := by decide +kernel
theorem dX2_init_54 : decode cX2_init 54 = .ok (.aload_n 0, 1) := by decide +kernel
theorem dX2_init_55 : decode cX2_init 55 = .ok (.getfield 35, 3) := by decide +kernel
theorem dX2_init_58 : decode cX2_init 58 = .ok (.iload_n 2, 1) := by decide +kernel
theorem dX2_init_59 : decode cX2_init 59 = .ok (.invokevirtual 39, 3) := by decide +kernel
theorem dX2_init_62 : decode cX2_init 62 = .ok (.return_, 1) := by decide +kernel
theorem dX2_ownKinds_0 : decode cX2_ownKinds 0 = .ok (.iconst 0, 1) := by decide +kernel
theorem dX2_ownKinds_1 : decode cX2_ownKinds 1 = .ok (.istore_n 1, 1) := by decide +kernel
theorem dX2_ownKinds_2 : decode cX2_ownKinds 2 = .ok (.iconst 0, 1) := by decide +kernel
theorem dX2_ownKinds_3 : decode cX2_ownKinds 3 = .ok (.istore_n 2, 1) := by decide +kernel
theorem dX2_ownKinds_4 : decode cX2_ownKinds 4 = .ok (.iload_n 2, 1) := by decide +kernel
theorem dX2_ownKinds_5 : decode cX2_ownKinds 5 = .ok (.aload_n 0, 1) := by decide +kernel
theorem dX2_ownKinds_6 : decode cX2_ownKinds 6 = .ok (.getfield 22, 3) := by decide +kernel
theorem dX2_ownKinds_9 : decode cX2_ownKinds 9 = .ok (.if_icmp .ge 20, 3) := by decide +kernel
theorem dX2_ownKinds_12 : decode cX2_ownKinds 12 = .ok (.iload_n 1, 1) := by decide +kernel
theorem dX2_ownKinds_13 : decode cX2_ownKinds 13 = .ok (.iconst 1, 1) := by decide +kernel
theorem dX2_ownKinds_14 : decode cX2_ownKinds 14 = .ok (.aload_n 0, 1) := by decide +kernel
theorem dX2_ownKinds_15 : decode cX2_ownKinds 15 = .ok (.getfield 9, 3) := by decide +kernel
theorem dX2_ownKinds_18 : decode cX2_ownKinds 18 = .ok (.iload_n 2, 1) := by decide +kernel
theorem dX2_ownKinds_19 : decode cX2_ownKinds 19 = .ok (.iaload, 1) := by decide +kernel
theorem dX2_ownKinds_20 : decode cX2_ownKinds 20 = .ok (.ishl, 1) := by decide +kernel
theorem dX2_ownKinds_21 : decode cX2_ownKinds 21 = .ok (.ior, 1) := by decide +kernel
theorem dX2_ownKinds_22 : decode cX2_ownKinds 22 = .ok (.istore_n 1, 1) := by decide +kernel
theorem dX2_ownKinds_23 : decode cX2_ownKinds 23 = .ok (.iinc 2 1, 3) := by decide +kernel
theorem dX2_ownKinds_26 : decode cX2_ownKinds 26 = .ok (.goto (-22), 3) := by decide +kernel
theorem dX2_ownKinds_29 : decode cX2_ownKinds 29 = .ok (.iload_n 1, 1) := by decide +kernel
theorem dX2_ownKinds_30 : decode cX2_ownKinds 30 = .ok (.ireturn, 1) := by decide +kernel
set_option maxRecDepth 20000 in
theorem ggX2_addStep_X3_turnOver : GoodIn wsX2_addStep wsX3_turnOver := goodIn_r _ [10, 11, 12, 13, 14, 15, 16, 17, 18, 19, 20, 21, 22, 23, 9, 24, 25, 26, 27, 28, 29, 30, 31, 32, 33, 34, 35, 36, 37, 38, 39, 40, 41, 42, 43, 44, 45, 46, 47, 48, 49, 50, 51, 59, 60, 61, 62, 63, 64] (by decide +kernel) (by decide +kernel)
set_option maxRecDepth 20000 in
theorem gX2_addStep_X3_turnOver : GoodIn wsX2_addStep (wsV RX2 43 RX3 yX3_turnOver wsX3_turnOver) := goodIn_app (goodIn_of _ (by decide +kernel)) ggX2_addStep_X3_turnOver
theorem dX2_addStep_0 : decode cX2_addStep 0 = .ok (.aload_n 0, 1) := by decide +kernel
theorem dX2_addStep_1 : decode cX2_addStep 1 = .ok (.getfield 22, 3) := by decide +kernel
theorem dX2_addStep_4 : decode cX2_addStep 4 = .ok (.bipush 10, 2) := by decide +kernel
theorem dX2_addStep_6 : decode cX2_addStep 6 = .ok (.if_icmp .lt 4, 3) := by decide +kernel
theorem dX2_addStep_9 : decode cX2_addStep 9 = .ok (.return_, 1) := by decide +kernel
theorem dX2_addStep_10 : decode cX2_addStep 10 = .ok (.aload_n 0, 1) := by decide +kernel
theorem dX2_addStep_11 : decode cX2_addStep 11 = .ok (.getfield 9, 3) := by decide +kernel
theorem dX2_addStep_14 : decode cX2_addStep 14 = .ok (.aload_n 0, 1) := by decide +kernel
theorem dX2_addStep_15 : decode cX2_addStep 15 = .ok (.getfield 22, 3) := by decide +kernel
theorem dX2_addStep_18 : decode cX2_addStep 18 = .ok (.iload_n 1, 1) := by decide +kernel
theorem dX2_addStep_19 : decode cX2_addStep 19 = .ok (.iastore, 1) := by decide +kernel
theorem dX2_addStep_20 : decode cX2_addStep 20 = .ok (.aload_n 0, 1) := by decide +kernel
theorem dX2_addStep_21 : decode cX2_addStep 21 = .ok (.getfield 15, 3) := by decide +kernel
theorem dX2_addStep_24 : decode cX2_addStep 24 = .ok (.aload_n 0, 1) := by decide +kernel
theorem dX2_addStep_25 : decode cX2_addStep 25 = .ok (.getfield 22, 3) := by decide +kernel
theorem dX2_addStep_28 : decode cX2_addStep 28 = .ok (.iload_n 2, 1) := by decide +kernel
theorem dX2_addStep_29 : decode cX2_addStep 29 = .ok (.iastore, 1) := by decide +kernel
theorem dX2_addStep_30 : decode cX2_addStep 30 = .ok (.aload_n 0, 1) := by decide +kernel
theorem dX2_addStep_31 : decode cX2_addStep 31 = .ok (.getfield 18, 3) := by decide +kernel
theorem dX2_addStep_34 : decode cX2_addStep 34 = .ok (.aload_n 0, 1) := by decide +kernel
theorem dX2_addStep_35 : decode cX2_addStep 35 = .ok (.getfield 22, 3) := by decide +kernel
theorem dX2_addStep_38 : decode cX2_addStep 38 = .ok (.iload_n 3, 1) := by decide +kernel
theorem dX2_addStep_39 : decode cX2_addStep 39 = .ok (.bastore, 1) := by decide +kernel
theorem dX2_addStep_40 : decode cX2_addStep 40 = .ok (.aload_n 0, 1) := by decide +kernel
theorem dX2_addStep_41 : decode cX2_addStep 41 = .ok (.dup, 1) := by decide +kernel
theorem dX2_addStep_42 : decode cX2_addStep 42 = .ok (.getfield 22, 3) := by decide +kernel
theorem dX2_addStep_45 : decode cX2_addStep 45 = .ok (.iconst 1, 1) := by decide +kernel
theorem dX2_addStep_46 : decode cX2_addStep 46 = .ok (.iadd, 1) := by decide +kernel
theorem dX2_addStep_47 : decode cX2_addStep 47 = .ok (.putfield 22, 3) := by decide +kernel
theorem dX2_addStep_50 : decode cX2_addStep 50 = .ok (.aload_n 0, 1) := by decide +kernel
theorem dX2_addStep_51 : decode cX2_addStep 51 = .ok (.getfield 35, 3) := by decide +kernel
theorem dX2_addStep_54 : decode cX2_addStep 54 = .ok (.iload_n 2, 1) := by decide +kernel
theorem dX2_addStep_55 : decode cX2_addStep 55 = .ok (.iload_n 3, 1) := by decide +kernel
theorem dX2_addStep_56 : decode cX2_addStep 56 = .ok (.invokevirtual 43, 3) := by decide +kernel
theorem dX2_addStep_59 : decode cX2_addStep 59 = .ok (.return_, 1) := by decide +kernel
set_option maxRecDepth 20000 in
theorem ggX2_removeLastStep_X3_layFlat : GoodIn wsX2_removeLastStep wsX3_layFlat := goodIn_r _ [11, 12, 13, 14, 15, 16, 17, 18, 19, 20, 21, 64, 65, 66, 67, 68, 69] (by decide +kernel) (by decide +kernel)
set_option maxRecDepth 20000 in
theorem gX2_removeLastStep_X3_layFlat : GoodIn wsX2_removeLastStep (wsV RX2 39 RX3 yX3_layFlat wsX3_layFlat) := goodIn_app (goodIn_of _ (by decide +kernel)) ggX2_removeLastStep_X3_layFlat
set_option maxRecDepth 20000 in
theorem ggX2_removeLastStep_X3_turnOver : GoodIn wsX2_removeLastStep wsX3_turnOver := goodIn_r _ [25, 19, 12, 13, 14, 15, 16, 17, 18, 26, 27, 28, 29, 30, 10, 31, 32, 33, 34, 35, 21, 36, 37, 38, 39, 40, 41, 42, 43, 44, 45, 46, 47, 48, 20, 49, 50, 51, 52, 53, 54, 55, 56, 64, 65, 66, 67, 68, 69] (by decide +kernel) (by decide +kernel)
set_option maxRecDepth 20000 in
theorem gX2_removeLastStep_X3_turnOver : GoodIn wsX2_removeLastStep (wsV RX2 43 RX3 yX3_turnOver wsX3_turnOver) := goodIn_app (goodIn_of _ (by decide +kernel)) ggX2_removeLastStep_X3_turnOver
theorem dX2_removeLastStep_0 : decode cX2_removeLastStep 0 = .ok (.aload_n 0, 1) := by decide +kernel
theorem dX2_removeLastStep_1 : decode cX2_removeLastStep 1 = .ok (.getfield 22, 3) := by decide +kernel
theorem dX2_removeLastStep_4 : decode cX2_removeLastStep 4 = .ok (.ifCond .gt 5, 3) := by decide +kernel
theorem dX2_removeLastStep_7 : decode cX2_removeLastStep 7 = .ok (.iconst (-1), 1) := by decide +kernel
theorem dX2_removeLastStep_8 : decode cX2_removeLastStep 8 = .ok (.ireturn, 1) := by decide +kernel
theorem dX2_removeLastStep_9 : decode cX2_removeLastStep 9 = .ok (.aload_n 0, 1) := by decide +kernel
theorem dX2_removeLastStep_10 : decode cX2_removeLastStep 10 = .ok (.dup, 1) := by decide +kernel
theorem dX2_removeLastStep_11 : decode cX2_removeLastStep 11 = .ok (.getfield 22, 3) := by decide +kernel
theorem dX2_removeLastStep_14 : decode cX2_removeLastStep 14 = .ok (.iconst 1, 1) := by decide +kernel
theorem dX2_removeLastStep_15 : decode cX2_removeLastStep 15 = .ok (.isub, 1) := by decide +kernel
theorem dX2_removeLastStep_16 : decode cX2_removeLastStep 16 = .ok (.putfield 22, 3) := by decide +kernel
theorem dX2_removeLastStep_19 : decode cX2_removeLastStep 19 = .ok (.aload_n 0, 1) := by decide +kernel
theorem dX2_removeLastStep_20 : decode cX2_removeLastStep 20 = .ok (.getfield 35, 3) := by decide +kernel
theorem dX2_removeLastStep_23 : decode cX2_removeLastStep 23 = .ok (.aload_n 0, 1) := by decide +kernel
theorem dX2_removeLastStep_24 : decode cX2_removeLastStep 24 = .ok (.getfield 29, 3) := by decide +kernel
theorem dX2_removeLastStep_27 : decode cX2_removeLastStep 27 = .ok (.invokevirtual 39, 3) := by decide +kernel
theorem dX2_removeLastStep_30 : decode cX2_removeLastStep 30 = .ok (.iconst 0, 1) := by decide +kernel
theorem dX2_removeLastStep_31 : decode cX2_removeLastStep 31 = .ok (.istore_n 1, 1) := by decide +kernel
theorem dX2_removeLastStep_32 : decode cX2_removeLastStep 32 = .ok (.iload_n 1, 1) := by decide +kernel
theorem dX2_removeLastStep_33 : decode cX2_removeLastStep 33 = .ok (.aload_n 0, 1) := by decide +kernel
theorem dX2_removeLastStep_34 : decode cX2_removeLastStep 34 = .ok (.getfield 22, 3) := by decide +kernel
theorem dX2_removeLastStep_37 : decode cX2_removeLastStep 37 = .ok (.if_icmp .ge 28, 3) := by decide +kernel
theorem dX2_removeLastStep_40 : decode cX2_removeLastStep 40 = .ok (.aload_n 0, 1) := by decide +kernel
theorem dX2_removeLastStep_41 : decode cX2_removeLastStep 41 = .ok (.getfield 35, 3) := by decide +kernel
theorem dX2_removeLastStep_44 : decode cX2_removeLastStep 44 = .ok (.aload_n 0, 1) := by decide +kernel
theorem dX2_removeLastStep_45 : decode cX2_removeLastStep 45 = .ok (.getfield 15, 3) := by decide +kernel
theorem dX2_removeLastStep_48 : decode cX2_removeLastStep 48 = .ok (.iload_n 1, 1) := by decide +kernel
theorem dX2_removeLastStep_49 : decode cX2_removeLastStep 49 = .ok (.iaload, 1) := by decide +kernel
theorem dX2_removeLastStep_50 : decode cX2_removeLastStep 50 = .ok (.aload_n 0, 1) := by decide +kernel
theorem dX2_removeLastStep_51 : decode cX2_removeLastStep 51 = .ok (.getfield 18, 3) := by decide +kernel
theorem dX2_removeLastStep_54 : decode cX2_removeLastStep 54 = .ok (.iload_n 1, 1) := by decide +kernel
theorem dX2_removeLastStep_55 : decode cX2_removeLastStep 55 = .ok (.baload, 1) := by decide +kernel
theorem dX2_removeLastStep_56 : decode cX2_removeLastStep 56 = .ok (.invokevirtual 43, 3) := by decide +kernel
theorem dX2_removeLastStep_59 : decode cX2_removeLastStep 59 = .ok (.iinc 1 1, 3) := by decide +kernel
theorem dX2_removeLastStep_62 : decode cX2_removeLastStep 62 = .ok (.goto (-30), 3) := by decide +kernel
theorem dX2_removeLastStep_65 : decode cX2_removeLastStep 65 = .ok (.aload_n 0, 1) := by decide +kernel
theorem dX2_removeLastStep_66 : decode cX2_removeLastStep 66 = .ok (.getfield 9, 3) := by decide +kernel
theorem dX2_removeLastStep_69 : decode cX2_removeLastStep 69 = .ok (.aload_n 0, 1) := by decide +kernel
theorem dX2_removeLastStep_70 : decode cX2_removeLastStep 70 = .ok (.getfield 22, 3) := by decide +kernel
theorem dX2_removeLastStep_73 : decode cX2_removeLastStep 73 = .ok (.iaload, 1) := by decide +kernel
theorem dX2_removeLastStep_74 : decode cX2_removeLastStep 74 = .ok (.ireturn, 1) := by decide +kernel
theorem dX3_init_0 : decode cX3_init 0 = .ok (.aload_n 0, 1) := by decide +kernel
theorem dX3_init_1 : decode cX3_init 1 = .ok (.invokespecial 3, 3) := by decide +kernel
theorem dX3_init_4 : decode cX3_init 4 = .ok (.aload_n 0, 1) := by decide +kernel
theorem dX3_init_5 : decode cX3_init 5 = .ok (.bipush 32, 2) := by decide +kernel
theorem dX3_init_7 : decode cX3_init 7 = .ok (.newarray .int, 2) := by decide +kernel
theorem dX3_init_9 : decode cX3_init 9 = .ok (.putfield 9, 3) := by decide +kernel
theorem dX3_init_12 : decode cX3_init 12 = .ok (.aload_n 0, 1) := by decide +kernel
theorem dX3_init_13 : decode cX3_init 13 = .ok (.bipush 33, 2) := by decide +kernel
theorem dX3_init_15 : decode cX3_init 15 = .ok (.newarray .int, 2) := by decide +kernel
theorem dX3_init_17 : decode cX3_init 17 = .ok (.putfield 15, 3) := by decide +kernel
theorem dX3_init_20 : decode cX3_init 20 = .ok (.aload_n 0, 1) := by decide +kernel
theorem dX3_init_21 : decode cX3_init 21 = .ok (.bipush 32, 2) := by decide +kernel
theorem dX3_init_23 : decode cX3_init 23 = .ok (.newarray .int, 2) := by decide +kernel
theorem dX3_init_25 : decode cX3_init 25 = .ok (.putfield 18, 3) := by decide +kernel
theorem dX3_init_28 : decode cX3_init 28 = .ok (.aload_n 0, 1) := by decide +kernel
theorem dX3_init_29 : decode cX3_init 29 = .ok (.bipush 33, 2) := by decide +kernel
theorem dX3_init_31 : decode cX3_init 31 = .ok (.newarray .int, 2) := by decide +kernel
theorem dX3_init_33 : decode cX3_init 33 = .ok (.putfield 21, 3) := by decide +kernel
theorem dX3_init_36 : decode cX3_init 36 = .ok (.aload_n 0, 1) := by decide +kernel
theorem dX3_init_37 : decode cX3_init 37 = .ok (.iconst 0, 1) := by decide +kernel
theorem dX3_init_38 : decode cX3_init 38 = .ok (.putfield 24, 3) := by decide +kernel
theorem dX3_init_41 : decode cX3_init 41 = .ok (.aload_n 0, 1) := by decide +kernel
theorem dX3_init_42 : decode cX3_init 42 = .ok (.iconst 0, 1) := by decide +kernel
theorem dX3_init_43 : decode cX3_init 43 = .ok (.putfield 28, 3) := by decide +kernel
theorem dX3_init_46 : decode cX3_init 46 = .ok (.return_, 1) := by decide +kernel
theorem dX3_layFlat_0 : decode cX3_layFlat 0 = .ok (.aload_n 0, 1) := by decide +kernel
theorem dX3_layFlat_1 : decode cX3_layFlat 1 = .ok (.iconst 0, 1) := by decide +kernel
theorem dX3_layFlat_2 : decode cX3_layFlat 2 = .ok (.iload_n 1, 1) := by decide +kernel
theorem dX3_layFlat_3 : decode cX3_layFlat 3 = .ok (.bipush 32, 2) := by decide +kernel
theorem dX3_layFlat_5 : decode cX3_layFlat 5 = .ok (.invokestatic 31, 3) := by decide +kernel
theorem dX3_layFlat_8 : decode cX3_layFlat 8 = .ok (.invokestatic 37, 3) := by decide +kernel
theorem dX3_layFlat_11 : decode cX3_layFlat 11 = .ok (.putfield 28, 3) := by decide +kernel
theorem dX3_layFlat_14 : decode cX3_layFlat 14 = .ok (.iconst 0, 1) := by decide +kernel
theorem dX3_layFlat_15 : decode cX3_layFlat 15 = .ok (.istore_n 2, 1) := by decide +kernel
theorem dX3_layFlat_16 : decode cX3_layFlat 16 = .ok (.iload_n 2, 1) := by decide +kernel
theorem dX3_layFlat_17 : decode cX3_layFlat 17 = .ok (.aload_n 0, 1) := by decide +kernel
theorem dX3_layFlat_18 : decode cX3_layFlat 18 = .ok (.getfield 28, 3) := by decide +kernel
theorem dX3_layFlat_21 : decode cX3_layFlat 21 = .ok (.if_icmp .ge 23, 3) := by decide +kernel
theorem dX3_layFlat_24 : decode cX3_layFlat 24 = .ok (.aload_n 0, 1) := by decide +kernel
theorem dX3_layFlat_25 : decode cX3_layFlat 25 = .ok (.getfield 9, 3) := by decide +kernel
theorem dX3_layFlat_28 : decode cX3_layFlat 28 = .ok (.iload_n 2, 1) := by decide +kernel
theorem dX3_layFlat_29 : decode cX3_layFlat 29 = .ok (.iload_n 2, 1) := by decide +kernel
theorem dX3_layFlat_30 : decode cX3_layFlat 30 = .ok (.iastore, 1) := by decide +kernel
theorem dX3_layFlat_31 : decode cX3_layFlat 31 = .ok (.aload_n 0, 1) := by decide +kernel
theorem dX3_layFlat_32 : decode cX3_layFlat 32 = .ok (.getfield 15, 3) := by decide +kernel
theorem dX3_layFlat_35 : decode cX3_layFlat 35 = .ok (.iload_n 2, 1) := by decide +kernel
theorem dX3_layFlat_36 : decode cX3_layFlat 36 = .ok (.iload_n 2, 1) := by decide +kernel
theorem dX3_layFlat_37 : decode cX3_layFlat 37 = .ok (.iastore, 1) := by decide +kernel
theorem dX3_layFlat_38 : decode cX3_layFlat 38 = .ok (.iinc 2 1, 3) := by decide +kernel
theorem dX3_layFlat_41 : decode cX3_layFlat 41 = .ok (.goto (-25), 3) := by decide +kernel
theorem dX3_layFlat_44 : decode cX3_layFlat 44 = .ok (.aload_n 0, 1) := by decide +kernel
theorem dX3_layFlat_45 : decode cX3_layFlat 45 = .ok (.getfield 15, 3) := by decide +kernel
theorem dX3_layFlat_48 : decode cX3_layFlat 48 = .ok (.aload_n 0, 1) := by decide +kernel
theorem dX3_layFlat_49 : decode cX3_layFlat 49 = .ok (.getfield 28, 3) := by decide +kernel
theorem dX3_layFlat_52 : decode cX3_layFlat 52 = .ok (.aload_n 0, 1) := by decide +kernel
theorem dX3_layFlat_53 : decode cX3_layFlat 53 = .ok (.getfield 28, 3) := by decide +kernel
theorem dX3_layFlat_56 : decode cX3_layFlat 56 = .ok (.iastore, 1) := by decide +kernel
theorem dX3_layFlat_57 : decode cX3_layFlat 57 = .ok (.return_, 1) := by decide +kernel
set_option maxRecDepth 20000 in
theorem ggX3_turnOver_X3_copyUpwards : GoodIn wsX3_turnOver wsX3_copyUpwards := goodIn_r _ [15, 16, 17, 18, 14, 19, 20, 21, 22, 23, 24, 1, 25, 26, 27, 28, 9, 29, 30, 31, 32, 33, 34, 43, 44, 45, 46, 47, 48] (by decide +kernel) (by decide +kernel)
set_option maxRecDepth 20000 in
theorem gX3_turnOver_X3_copyUpwards : GoodIn wsX3_turnOver (wsV RX3 40 RX3 yX3_copyUpwards wsX3_copyUpwards) := goodIn_app (goodIn_of _ (by decide +kernel)) ggX3_turnOver_X3_copyUpwards
set_option maxRecDepth 20000 in
theorem ggX3_turnOver_X3_copyDownwards : GoodIn wsX3_turnOver wsX3_copyDownwards := goodIn_r _ [38, 16, 17, 18, 14, 19, 20, 21, 22, 23, 24, 1, 25, 26, 27, 28, 9, 29, 30, 31, 32, 33, 34, 43, 44, 45, 46, 47, 48] (by decide +kernel) (by decide +kernel)
set_option maxRecDepth 20000 in
theorem gX3_turnOver_X3_copyDownwards : GoodIn wsX3_turnOver (wsV RX3 44 RX3 yX3_copyDownwards wsX3_copyDownwards) := goodIn_app (goodIn_of _ (by decide +kernel)) ggX3_turnOver_X3_copyDownwards
set_option maxRecDepth 20000 in
theorem ggX3_turnOver_X3_swapRows : GoodIn wsX3_turnOver wsX3_swapRows := goodIn_r _ [42, 34, 20, 29, 10, 43, 44, 45, 46, 47, 48] (by decide +kernel) (by decide +kernel)
set_option maxRecDepth 20000 in
theorem gX3_turnOver_X3_swapRows : GoodIn wsX3_turnOver (wsV RX3 47 RX3 yX3_swapRows wsX3_swapRows) := goodIn_app (goodIn_of _ (by decide +kernel)) ggX3_turnOver_X3_swapRows
theorem dX3_turnOver_0 : decode cX3_turnOver 0 = .ok (.iload_n 1, 1) := by decide +kernel
theorem dX3_turnOver_1 : decode cX3_turnOver 1 = .ok (.iconst 1, 1) := by decide +kernel
theorem dX3_turnOver_2 : decode cX3_turnOver 2 = .ok (.if_icmp .lt 11, 3) := by decide +kernel
theorem dX3_turnOver_5 : decode cX3_turnOver 5 = .ok (.iload_n 1, 1) := by decide +kernel
theorem dX3_turnOver_6 : decode cX3_turnOver 6 = .ok (.aload_n 0, 1) := by decide +kernel
theorem dX3_turnOver_7 : decode cX3_turnOver 7 = .ok (.getfield 28, 3) := by decide +kernel
theorem dX3_turnOver_10 : decode cX3_turnOver 10 = .ok (.if_icmp .lt 4, 3) := by decide +kernel
theorem dX3_turnOver_13 : decode cX3_turnOver 13 = .ok (.return_, 1) := by decide +kernel
theorem dX3_turnOver_14 : decode cX3_turnOver 14 = .ok (.iload_n 2, 1) := by decide +kernel
theorem dX3_turnOver_15 : decode cX3_turnOver 15 = .ok (.ifCond .eq 7, 3) := by decide +kernel
theorem dX3_turnOver_18 : decode cX3_turnOver 18 = .ok (.iload_n 1, 1) := by decide +kernel
theorem dX3_turnOver_19 : decode cX3_turnOver 19 = .ok (.goto 15, 3) := by decide +kernel
theorem dX3_turnOver_22 : decode cX3_turnOver 22 = .ok (.iconst 0, 1) := by decide +kernel
theorem dX3_turnOver_23 : decode cX3_turnOver 23 = .ok (.iconst 2, 1) := by decide +kernel
theorem dX3_turnOver_24 : decode cX3_turnOver 24 = .ok (.iload_n 1, 1) := by decide +kernel
theorem dX3_turnOver_25 : decode cX3_turnOver 25 = .ok (.imul, 1) := by decide +kernel
theorem dX3_turnOver_26 : decode cX3_turnOver 26 = .ok (.aload_n 0, 1) := by decide +kernel
theorem dX3_turnOver_27 : decode cX3_turnOver 27 = .ok (.getfield 28, 3) := by decide +kernel
theorem dX3_turnOver_30 : decode cX3_turnOver 30 = .ok (.isub, 1) := by decide +kernel
theorem dX3_turnOver_31 : decode cX3_turnOver 31 = .ok (.invokestatic 31, 3) := by decide +kernel
theorem dX3_turnOver_34 : decode cX3_turnOver 34 = .ok (.istore_n 3, 1) := by decide +kernel
theorem dX3_turnOver_35 : decode cX3_turnOver 35 = .ok (.iload_n 1, 1) := by decide +kernel
theorem dX3_turnOver_36 : decode cX3_turnOver 36 = .ok (.aload_n 0, 1) := by decide +kernel
theorem dX3_turnOver_37 : decode cX3_turnOver 37 = .ok (.getfield 28, 3) := by decide +kernel
theorem dX3_turnOver_40 : decode cX3_turnOver 40 = .ok (.iload_n 1, 1) := by decide +kernel
theorem dX3_turnOver_41 : decode cX3_turnOver 41 = .ok (.isub, 1) := by decide +kernel
theorem dX3_turnOver_42 : decode cX3_turnOver 42 = .ok (.invokestatic 37, 3) := by decide +kernel
theorem dX3_turnOver_45 : decode cX3_turnOver 45 = .ok (.istore 4, 2) := by decide +kernel
theorem dX3_turnOver_47 : decode cX3_turnOver 47 = .ok (.aload_n 0, 1) := by decide +kernel
theorem dX3_turnOver_48 : decode cX3_turnOver 48 = .ok (.iconst 0, 1) := by decide +kernel
theorem dX3_turnOver_49 : decode cX3_turnOver 49 = .ok (.putfield 24, 3) := by decide +kernel
theorem dX3_turnOver_52 : decode cX3_turnOver 52 = .ok (.iconst 0, 1) := by decide +kernel
theorem dX3_turnOver_53 : decode cX3_turnOver 53 = .ok (.istore 5, 2) := by decide +kernel
theorem dX3_turnOver_55 : decode cX3_turnOver 55 = .ok (.iload 5, 2) := by decide +kernel
theorem dX3_turnOver_57 : decode cX3_turnOver 57 = .ok (.iload 4, 2) := by decide +kernel
theorem dX3_turnOver_59 : decode cX3_turnOver 59 = .ok (.if_icmp .ge 44, 3) := by decide +kernel
theorem dX3_turnOver_62 : decode cX3_turnOver 62 = .ok (.aload_n 0, 1) := by decide +kernel
theorem dX3_turnOver_63 : decode cX3_turnOver 63 = .ok (.getfield 21, 3) := by decide +kernel
theorem dX3_turnOver_66 : decode cX3_turnOver 66 = .ok (.iload 5, 2) := by decide +kernel
theorem dX3_turnOver_68 : decode cX3_turnOver 68 = .ok (.aload_n 0, 1) := by decide +kernel
theorem dX3_turnOver_69 : decode cX3_turnOver 69 = .ok (.getfield 24, 3) := by decide +kernel
theorem dX3_turnOver_72 : decode cX3_turnOver 72 = .ok (.iastore, 1) := by decide +kernel
theorem dX3_turnOver_73 : decode cX3_turnOver 73 = .ok (.iload_n 3, 1) := by decide +kernel
theorem dX3_turnOver_74 : decode cX3_turnOver 74 = .ok (.iload 5, 2) := by decide +kernel
theorem dX3_turnOver_76 : decode cX3_turnOver 76 = .ok (.iadd, 1) := by decide +kernel
theorem dX3_turnOver_77 : decode cX3_turnOver 77 = .ok (.istore 6, 2) := by decide +kernel
theorem dX3_turnOver_79 : decode cX3_turnOver 79 = .ok (.aload_n 0, 1) := by decide +kernel
theorem dX3_turnOver_80 : decode cX3_turnOver 80 = .ok (.iload 6, 2) := by decide +kernel
theorem dX3_turnOver_82 : decode cX3_turnOver 82 = .ok (.invokevirtual 40, 3) := by decide +kernel
theorem dX3_turnOver_85 : decode cX3_turnOver 85 = .ok (.aload_n 0, 1) := by decide +kernel
theorem dX3_turnOver_86 : decode cX3_turnOver 86 = .ok (.iconst 2, 1) := by decide +kernel
theorem dX3_turnOver_87 : decode cX3_turnOver 87 = .ok (.iload_n 1, 1) := by decide +kernel
theorem dX3_turnOver_88 : decode cX3_turnOver 88 = .ok (.imul, 1) := by decide +kernel
theorem dX3_turnOver_89 : decode cX3_turnOver 89 = .ok (.iconst 1, 1) := by decide +kernel
theorem dX3_turnOver_90 : decode cX3_turnOver 90 = .ok (.isub, 1) := by decide +kernel
theorem dX3_turnOver_91 : decode cX3_turnOver 91 = .ok (.iload 6, 2) := by decide +kernel
theorem dX3_turnOver_93 : decode cX3_turnOver 93 = .ok (.isub, 1) := by decide +kernel
theorem dX3_turnOver_94 : decode cX3_turnOver 94 = .ok (.invokevirtual 44, 3) := by decide +kernel
theorem dX3_turnOver_97 : decode cX3_turnOver 97 = .ok (.iinc 5 1, 3) := by decide +kernel
theorem dX3_turnOver_100 : decode cX3_turnOver 100 = .ok (.goto (-45), 3) := by decide +kernel
theorem dX3_turnOver_103 : decode cX3_turnOver 103 = .ok (.aload_n 0, 1) := by decide +kernel
theorem dX3_turnOver_104 : decode cX3_turnOver 104 = .ok (.getfield 21, 3) := by decide +kernel
theorem dX3_turnOver_107 : decode cX3_turnOver 107 = .ok (.iload 4, 2) := by decide +kernel
theorem dX3_turnOver_109 : decode cX3_turnOver 109 = .ok (.aload_n 0, 1) := by decide +kernel
theorem dX3_turnOver_110 : decode cX3_turnOver 110 = .ok (.getfield 24, 3) := by decide +kernel
theorem dX3_turnOver_113 : decode cX3_turnOver 113 = .ok (.iastore, 1) := by decide +kernel
theorem dX3_turnOver_114 : decode cX3_turnOver 114 = .ok (.aload_n 0, 1) := by decide +kernel
theorem dX3_turnOver_115 : decode cX3_turnOver 115 = .ok (.iload 4, 2) := by decide +kernel
theorem dX3_turnOver_117 : decode cX3_turnOver 117 = .ok (.putfield 28, 3) := by decide +kernel
theorem dX3_turnOver_120 : decode cX3_turnOver 120 = .ok (.aload_n 0, 1) := by decide +kernel
theorem dX3_turnOver_121 : decode cX3_turnOver 121 = .ok (.invokevirtual 47, 3) := by decide +kernel
theorem dX3_turnOver_124 : decode cX3_turnOver 124 = .ok (.return_, 1) := by decide +kernel
set_option maxRecDepth 20000 in
theorem ggX3_heightAt_X3_isPlace : GoodIn wsX3_heightAt wsX3_isPlace := goodIn_r _ [6, 7, 8, 9, 10, 11, 12, 13] (by decide +kernel) (by decide +kernel)
set_option maxRecDepth 20000 in
theorem gX3_heightAt_X3_isPlace : GoodIn wsX3_heightAt (wsV RX3 50 RX3 yX3_isPlace wsX3_isPlace) := goodIn_app (goodIn_of _ (by decide +kernel)) ggX3_heightAt_X3_isPlace
theorem dX3_heightAt_0 : decode cX3_heightAt 0 = .ok (.aload_n 0, 1) := by decide +kernel
theorem dX3_heightAt_1 : decode cX3_heightAt 1 = .ok (.iload_n 1, 1) := by decide +kernel
theorem dX3_heightAt_2 : decode cX3_heightAt 2 = .ok (.invokevirtual 50, 3) := by decide +kernel
theorem dX3_heightAt_5 : decode cX3_heightAt 5 = .ok (.ifCond .eq 21, 3) := by decide +kernel
theorem dX3_heightAt_8 : decode cX3_heightAt 8 = .ok (.aload_n 0, 1) := by decide +kernel
theorem dX3_heightAt_9 : decode cX3_heightAt 9 = .ok (.getfield 15, 3) := by decide +kernel
theorem dX3_heightAt_12 : decode cX3_heightAt 12 = .ok (.iload_n 1, 1) := by decide +kernel
theorem dX3_heightAt_13 : decode cX3_heightAt 13 = .ok (.iconst 1, 1) := by decide +kernel
theorem dX3_heightAt_14 : decode cX3_heightAt 14 = .ok (.iadd, 1) := by decide +kernel
theorem dX3_heightAt_15 : decode cX3_heightAt 15 = .ok (.iaload, 1) := by decide +kernel
theorem dX3_heightAt_16 : decode cX3_heightAt 16 = .ok (.aload_n 0, 1) := by decide +kernel
theorem dX3_heightAt_17 : decode cX3_heightAt 17 = .ok (.getfield 15, 3) := by decide +kernel
theorem dX3_heightAt_20 : decode cX3_heightAt 20 = .ok (.iload_n 1, 1) := by decide +kernel
theorem dX3_heightAt_21 : decode cX3_heightAt 21 = .ok (.iaload, 1) := by decide +kernel
theorem dX3_heightAt_22 : decode cX3_heightAt 22 = .ok (.isub, 1) := by decide +kernel
theorem dX3_heightAt_23 : decode cX3_heightAt 23 = .ok (.goto 4, 3) := by decide +kernel
theorem dX3_heightAt_26 : decode cX3_heightAt 26 = .ok (.iconst 0, 1) := by decide +kernel
theorem dX3_heightAt_27 : decode cX3_heightAt 27 = .ok (.ireturn, 1) := by decide +kernel
set_option maxRecDepth 20000 in
theorem ggX3_cellIn_X3_heightAt : GoodIn wsX3_cellIn wsX3_heightAt := goodIn_r _ [7, 2, 8, 9, 10, 6, 11, 12, 13, 14, 15, 16, 17, 18] (by decide +kernel) (by decide +kernel)
set_option maxRecDepth 20000 in
theorem gX3_cellIn_X3_heightAt : GoodIn wsX3_cellIn (wsV RX3 54 RX3 yX3_heightAt wsX3_heightAt) := goodIn_app (goodIn_of _ (by decide +kernel)) ggX3_cellIn_X3_heightAt
theorem dX3_cellIn_0 : decode cX3_cellIn 0 = .ok (.iload_n 2, 1) := by decide +kernel
theorem dX3_cellIn_1 : decode cX3_cellIn 1 = .ok (.ifCond .lt 12, 3) := by decide +kernel
theorem dX3_cellIn_4 : decode cX3_cellIn 4 = .ok (.iload_n 2, 1) := by decide +kernel
theorem dX3_cellIn_5 : decode cX3_cellIn 5 = .ok (.aload_n 0, 1) := by decide +kernel
theorem dX3_cellIn_6 : decode cX3_cellIn 6 = .ok (.iload_n 1, 1) := by decide +kernel
theorem dX3_cellIn_7 : decode cX3_cellIn 7 = .ok (.invokevirtual 54, 3) := by decide +kernel
theorem dX3_cellIn_10 : decode cX3_cellIn 10 = .ok (.if_icmp .lt 5, 3) := by decide +kernel
theorem dX3_cellIn_13 : decode cX3_cellIn 13 = .ok (.iconst (-1), 1) := by decide +kernel
theorem dX3_cellIn_14 : decode cX3_cellIn 14 = .ok (.ireturn, 1) := by decide +kernel
theorem dX3_cellIn_15 : decode cX3_cellIn 15 = .ok (.aload_n 0, 1) := by decide +kernel
theorem dX3_cellIn_16 : decode cX3_cellIn 16 = .ok (.getfield 9, 3) := by decide +kernel
theorem dX3_cellIn_19 : decode cX3_cellIn 19 = .ok (.aload_n 0, 1) := by decide +kernel
theorem dX3_cellIn_20 : decode cX3_cellIn 20 = .ok (.getfield 15, 3) := by decide +kernel
theorem dX3_cellIn_23 : decode cX3_cellIn 23 = .ok (.iload_n 1, 1) := by decide +kernel
theorem dX3_cellIn_24 : decode cX3_cellIn 24 = .ok (.iaload, 1) := by decide +kernel
theorem dX3_cellIn_25 : decode cX3_cellIn 25 = .ok (.iload_n 2, 1) := by decide +kernel
theorem dX3_cellIn_26 : decode cX3_cellIn 26 = .ok (.iadd, 1) := by decide +kernel
theorem dX3_cellIn_27 : decode cX3_cellIn 27 = .ok (.iaload, 1) := by decide +kernel
theorem dX3_cellIn_28 : decode cX3_cellIn 28 = .ok (.ireturn, 1) := by decide +kernel
set_option maxRecDepth 20000 in
theorem ggX3_greatestHeight_X3_heightAt : GoodIn wsX3_greatestHeight wsX3_heightAt := goodIn_r _ [10, 11, 12, 13, 14, 9, 15, 1, 16, 17, 18, 19, 20, 21] (by decide +kernel) (by decide +kernel)
set_option maxRecDepth 20000 in
theorem gX3_greatestHeight_X3_heightAt : GoodIn wsX3_greatestHeight (wsV RX3 54 RX3 yX3_heightAt wsX3_heightAt) := goodIn_app (goodIn_of _ (by decide +kernel)) ggX3_greatestHeight_X3_heightAt
theorem dX3_greatestHeight_0 : decode cX3_greatestHeight 0 = .ok (.iconst 0, 1) := by decide +kernel
theorem dX3_greatestHeight_1 : decode cX3_greatestHeight 1 = .ok (.istore_n 1, 1) := by decide +kernel
theorem dX3_greatestHeight_2 : decode cX3_greatestHeight 2 = .ok (.iconst 0, 1) := by decide +kernel
theorem dX3_greatestHeight_3 : decode cX3_greatestHeight 3 = .ok (.istore_n 2, 1) := by decide +kernel
theorem dX3_greatestHeight_4 : decode cX3_greatestHeight 4 = .ok (.iload_n 2, 1) := by decide +kernel
theorem dX3_greatestHeight_5 : decode cX3_greatestHeight 5 = .ok (.aload_n 0, 1) := by decide +kernel
theorem dX3_greatestHeight_6 : decode cX3_greatestHeight 6 = .ok (.getfield 28, 3) := by decide +kernel
theorem dX3_greatestHeight_9 : decode cX3_greatestHeight 9 = .ok (.if_icmp .ge 19, 3) := by decide +kernel
theorem dX3_greatestHeight_12 : decode cX3_greatestHeight 12 = .ok (.iload_n 1, 1) := by decide +kernel
theorem dX3_greatestHeight_13 : decode cX3_greatestHeight 13 = .ok (.aload_n 0, 1) := by decide +kernel
theorem dX3_greatestHeight_14 : decode cX3_greatestHeight 14 = .ok (.iload_n 2, 1) := by decide +kernel
theorem dX3_greatestHeight_15 : decode cX3_greatestHeight 15 = .ok (.invokevirtual 54, 3) := by decide +kernel
theorem dX3_greatestHeight_18 : decode cX3_greatestHeight 18 = .ok (.invokestatic 37, 3) := by decide +kernel
theorem dX3_greatestHeight_21 : decode cX3_greatestHeight 21 = .ok (.istore_n 1, 1) := by decide +kernel
theorem dX3_greatestHeight_22 : decode cX3_greatestHeight 22 = .ok (.iinc 2 1, 3) := by decide +kernel
theorem dX3_greatestHeight_25 : decode cX3_greatestHeight 25 = .ok (.goto (-21), 3) := by decide +kernel
theorem dX3_greatestHeight_28 : decode cX3_greatestHeight 28 = .ok (.iload_n 1, 1) := by decide +kernel
theorem dX3_greatestHeight_29 : decode cX3_greatestHeight 29 = .ok (.ireturn, 1) := by decide +kernel
theorem dX3_isPlace_0 : decode cX3_isPlace 0 = .ok (.iload_n 1, 1) := by decide +kernel
theorem dX3_isPlace_1 : decode cX3_isPlace 1 = .ok (.ifCond .lt 15, 3) := by decide +kernel
theorem dX3_isPlace_4 : decode cX3_isPlace 4 = .ok (.iload_n 1, 1) := by decide +kernel
theorem dX3_isPlace_5 : decode cX3_isPlace 5 = .ok (.aload_n 0, 1) := by decide +kernel
theorem dX3_isPlace_6 : decode cX3_isPlace 6 = .ok (.getfield 28, 3) := by decide +kernel
theorem dX3_isPlace_9 : decode cX3_isPlace 9 = .ok (.if_icmp .ge 7, 3) := by decide +kernel
theorem dX3_isPlace_12 : decode cX3_isPlace 12 = .ok (.iconst 1, 1) := by decide +kernel
theorem dX3_isPlace_13 : decode cX3_isPlace 13 = .ok (.goto 4, 3) := by decide +kernel
theorem dX3_isPlace_16 : decode cX3_isPlace 16 = .ok (.iconst 0, 1) := by decide +kernel
theorem dX3_isPlace_17 : decode cX3_isPlace 17 = .ok (.ireturn, 1) := by decide +kernel
set_option maxRecDepth 20000 in
theorem ggX3_copyUpwards_X3_heightAt : GoodIn wsX3_copyUpwards wsX3_heightAt := goodIn_r _ [5, 6, 7, 8, 9, 4, 10, 11, 23, 24, 25, 26, 27, 28] (by decide +kernel) (by decide +kernel)
set_option maxRecDepth 20000 in
theorem gX3_copyUpwards_X3_heightAt : GoodIn wsX3_copyUpwards (wsV RX3 54 RX3 yX3_heightAt wsX3_heightAt) := goodIn_app (goodIn_of _ (by decide +kernel)) ggX3_copyUpwards_X3_heightAt
set_option maxRecDepth 20000 in
theorem ggX3_copyUpwards_X3_copyCell : GoodIn wsX3_copyUpwards wsX3_copyCell := goodIn_r _ [15, 16, 17, 18, 19, 20, 4, 21, 22, 6, 1, 2, 3, 5, 7, 8, 9, 10, 11, 23, 24, 25, 26, 27, 28] (by decide +kernel) (by decide +kernel)
set_option maxRecDepth 20000 in
theorem gX3_copyUpwards_X3_copyCell : GoodIn wsX3_copyUpwards (wsV RX3 58 RX3 yX3_copyCell wsX3_copyCell) := goodIn_app (goodIn_of _ (by decide +kernel)) ggX3_copyUpwards_X3_copyCell
theorem dX3_copyUpwards_0 : decode cX3_copyUpwards 0 = .ok (.aload_n 0, 1) := by decide +kernel
theorem dX3_copyUpwards_1 : decode cX3_copyUpwards 1 = .ok (.iload_n 1, 1) := by decide +kernel
theorem dX3_copyUpwards_2 : decode cX3_copyUpwards 2 = .ok (.invokevirtual 54, 3) := by decide +kernel
theorem dX3_copyUpwards_5 : decode cX3_copyUpwards 5 = .ok (.istore_n 2, 1) := by decide +kernel
theorem dX3_copyUpwards_6 : decode cX3_copyUpwards 6 = .ok (.iconst 0, 1) := by decide +kernel
theorem dX3_copyUpwards_7 : decode cX3_copyUpwards 7 = .ok (.istore_n 3, 1) := by decide +kernel
theorem dX3_copyUpwards_8 : decode cX3_copyUpwards 8 = .ok (.iload_n 3, 1) := by decide +kernel
theorem dX3_copyUpwards_9 : decode cX3_copyUpwards 9 = .ok (.iload_n 2, 1) := by decide +kernel
theorem dX3_copyUpwards_10 : decode cX3_copyUpwards 10 = .ok (.if_icmp .ge 15, 3) := by decide +kernel
theorem dX3_copyUpwards_13 : decode cX3_copyUpwards 13 = .ok (.aload_n 0, 1) := by decide +kernel
theorem dX3_copyUpwards_14 : decode cX3_copyUpwards 14 = .ok (.iload_n 1, 1) := by decide +kernel
theorem dX3_copyUpwards_15 : decode cX3_copyUpwards 15 = .ok (.iload_n 3, 1) := by decide +kernel
theorem dX3_copyUpwards_16 : decode cX3_copyUpwards 16 = .ok (.invokevirtual 58, 3) := by decide +kernel
theorem dX3_copyUpwards_19 : decode cX3_copyUpwards 19 = .ok (.iinc 3 1, 3) := by decide +kernel
theorem dX3_copyUpwards_22 : decode cX3_copyUpwards 22 = .ok (.goto (-14), 3) := by decide +kernel
theorem dX3_copyUpwards_25 : decode cX3_copyUpwards 25 = .ok (.return_, 1) := by decide +kernel
set_option maxRecDepth 20000 in
theorem ggX3_copyDownwards_X3_heightAt : GoodIn wsX3_copyDownwards wsX3_heightAt := goodIn_r _ [5, 6, 7, 8, 9, 4, 10, 11, 23, 24, 25, 26, 27, 28] (by decide +kernel) (by decide +kernel)
set_option maxRecDepth 20000 in
theorem gX3_copyDownwards_X3_heightAt : GoodIn wsX3_copyDownwards (wsV RX3 54 RX3 yX3_heightAt wsX3_heightAt) := goodIn_app (goodIn_of _ (by decide +kernel)) ggX3_copyDownwards_X3_heightAt
set_option maxRecDepth 20000 in
theorem ggX3_copyDownwards_X3_copyCell : GoodIn wsX3_copyDownwards wsX3_copyCell := goodIn_r _ [15, 16, 17, 18, 19, 20, 4, 21, 22, 6, 1, 2, 3, 5, 7, 8, 9, 10, 11, 23, 24, 25, 26, 27, 28] (by decide +kernel) (by decide +kernel)
set_option maxRecDepth 20000 in
theorem gX3_copyDownwards_X3_copyCell : GoodIn wsX3_copyDownwards (wsV RX3 58 RX3 yX3_copyCell wsX3_copyCell) := goodIn_app (goodIn_of _ (by decide +kernel)) ggX3_copyDownwards_X3_copyCell
theorem dX3_copyDownwards_0 : decode cX3_copyDownwards 0 = .ok (.aload_n 0, 1) := by decide +kernel
theorem dX3_copyDownwards_1 : decode cX3_copyDownwards 1 = .ok (.iload_n 1, 1) := by decide +kernel
theorem dX3_copyDownwards_2 : decode cX3_copyDownwards 2 = .ok (.invokevirtual 54, 3) := by decide +kernel
theorem dX3_copyDownwards_5 : decode cX3_copyDownwards 5 = .ok (.iconst 1, 1) := by decide +kernel
theorem dX3_copyDownwards_6 : decode cX3_copyDownwards 6 = .ok (.isub, 1) := by decide +kernel
theorem dX3_copyDownwards_7 : decode cX3_copyDownwards 7 = .ok (.istore_n 2, 1) := by decide +kernel
theorem dX3_copyDownwards_8 : decode cX3_copyDownwards 8 = .ok (.iload_n 2, 1) := by decide +kernel
theorem dX3_copyDownwards_9 : decode cX3_copyDownwards 9 = .ok (.ifCond .lt 15, 3) := by decide +kernel
theorem dX3_copyDownwards_12 : decode cX3_copyDownwards 12 = .ok (.aload_n 0, 1) := by decide +kernel
theorem dX3_copyDownwards_13 : decode cX3_copyDownwards 13 = .ok (.iload_n 1, 1) := by decide +kernel
theorem dX3_copyDownwards_14 : decode cX3_copyDownwards 14 = .ok (.iload_n 2, 1) := by decide +kernel
theorem dX3_copyDownwards_15 : decode cX3_copyDownwards 15 = .ok (.invokevirtual 58, 3) := by decide +kernel
theorem dX3_copyDownwards_18 : decode cX3_copyDownwards 18 = .ok (.iinc 2 (-1), 3) := by decide +kernel
theorem dX3_copyDownwards_21 : decode cX3_copyDownwards 21 = .ok (.goto (-13), 3) := by decide +kernel
theorem dX3_copyDownwards_24 : decode cX3_copyDownwards 24 = .ok (.return_, 1) := by decide +kernel
set_option maxRecDepth 20000 in
theorem ggX3_copyCell_X3_cellIn : GoodIn wsX3_copyCell wsX3_cellIn := goodIn_r _ [7, 8, 9, 10, 11, 12, 6, 13, 14, 15, 16, 17, 18, 19, 20, 21, 22, 23, 24] (by decide +kernel) (by decide +kernel)
set_option maxRecDepth 20000 in
theorem gX3_copyCell_X3_cellIn : GoodIn wsX3_copyCell (wsV RX3 62 RX3 yX3_cellIn wsX3_cellIn) := goodIn_app (goodIn_of _ (by decide +kernel)) ggX3_copyCell_X3_cellIn
theorem dX3_copyCell_0 : decode cX3_copyCell 0 = .ok (.aload_n 0, 1) := by decide +kernel
theorem dX3_copyCell_1 : decode cX3_copyCell 1 = .ok (.getfield 24, 3) := by decide +kernel
theorem dX3_copyCell_4 : decode cX3_copyCell 4 = .ok (.aload_n 0, 1) := by decide +kernel
theorem dX3_copyCell_5 : decode cX3_copyCell 5 = .ok (.getfield 18, 3) := by decide +kernel
theorem dX3_copyCell_8 : decode cX3_copyCell 8 = .ok (.arraylength, 1) := by decide +kernel
theorem dX3_copyCell_9 : decode cX3_copyCell 9 = .ok (.if_icmp .ge 28, 3) := by decide +kernel
theorem dX3_copyCell_12 : decode cX3_copyCell 12 = .ok (.aload_n 0, 1) := by decide +kernel
theorem dX3_copyCell_13 : decode cX3_copyCell 13 = .ok (.getfield 18, 3) := by decide +kernel
theorem dX3_copyCell_16 : decode cX3_copyCell 16 = .ok (.aload_n 0, 1) := by decide +kernel
theorem dX3_copyCell_17 : decode cX3_copyCell 17 = .ok (.getfield 24, 3) := by decide +kernel
theorem dX3_copyCell_20 : decode cX3_copyCell 20 = .ok (.aload_n 0, 1) := by decide +kernel
theorem dX3_copyCell_21 : decode cX3_copyCell 21 = .ok (.iload_n 1, 1) := by decide +kernel
theorem dX3_copyCell_22 : decode cX3_copyCell 22 = .ok (.iload_n 2, 1) := by decide +kernel
theorem dX3_copyCell_23 : decode cX3_copyCell 23 = .ok (.invokevirtual 62, 3) := by decide +kernel
theorem dX3_copyCell_26 : decode cX3_copyCell 26 = .ok (.iastore, 1) := by decide +kernel
theorem dX3_copyCell_27 : decode cX3_copyCell 27 = .ok (.aload_n 0, 1) := by decide +kernel
theorem dX3_copyCell_28 : decode cX3_copyCell 28 = .ok (.dup, 1) := by decide +kernel
theorem dX3_copyCell_29 : decode cX3_copyCell 29 = .ok (.getfield 24, 3) := by decide +kernel
theorem dX3_copyCell_32 : decode cX3_copyCell 32 = .ok (.iconst 1, 1) := by decide +kernel
theorem dX3_copyCell_33 : decode cX3_copyCell 33 = .ok (.iadd, 1) := by decide +kernel
theorem dX3_copyCell_34 : decode cX3_copyCell 34 = .ok (.putfield 24, 3) := by decide +kernel
theorem dX3_copyCell_37 : decode cX3_copyCell 37 = .ok (.return_, 1) := by decide +kernel
theorem dX3_swapRows_0 : decode cX3_swapRows 0 = .ok (.aload_n 0, 1) := by decide +kernel
theorem dX3_swapRows_1 : decode cX3_swapRows 1 = .ok (.getfield 9, 3) := by decide +kernel
theorem dX3_swapRows_4 : decode cX3_swapRows 4 = .ok (.astore_n 1, 1) := by decide +kernel
theorem dX3_swapRows_5 : decode cX3_swapRows 5 = .ok (.aload_n 0, 1) := by decide +kernel
theorem dX3_swapRows_6 : decode cX3_swapRows 6 = .ok (.getfield 15, 3) := by decide +kernel
theorem dX3_swapRows_9 : decode cX3_swapRows 9 = .ok (.astore_n 2, 1) := by decide +kernel
theorem dX3_swapRows_10 : decode cX3_swapRows 10 = .ok (.aload_n 0, 1) := by decide +kernel
theorem dX3_swapRows_11 : decode cX3_swapRows 11 = .ok (.aload_n 0, 1) := by decide +kernel
theorem dX3_swapRows_12 : decode cX3_swapRows 12 = .ok (.getfield 18, 3) := by decide +kernel
theorem dX3_swapRows_15 : decode cX3_swapRows 15 = .ok (.putfield 9, 3) := by decide +kernel
theorem dX3_swapRows_18 : decode cX3_swapRows 18 = .ok (.aload_n 0, 1) := by decide +kernel
theorem dX3_swapRows_19 : decode cX3_swapRows 19 = .ok (.aload_n 0, 1) := by decide +kernel
theorem dX3_swapRows_20 : decode cX3_swapRows 20 = .ok (.getfield 21, 3) := by decide +kernel
theorem dX3_swapRows_23 : decode cX3_swapRows 23 = .ok (.putfield 15, 3) := by decide +kernel
theorem dX3_swapRows_26 : decode cX3_swapRows 26 = .ok (.aload_n 0, 1) := by decide +kernel
theorem dX3_swapRows_27 : decode cX3_swapRows 27 = .ok (.aload_n 1, 1) := by decide +kernel
theorem dX3_swapRows_28 : decode cX3_swapRows 28 = .ok (.putfield 18, 3) := by decide +kernel
theorem dX3_swapRows_31 : decode cX3_swapRows 31 = .ok (.aload_n 0, 1) := by decide +kernel
theorem dX3_swapRows_32 : decode cX3_swapRows 32 = .ok (.aload_n 2, 1) := by decide +kernel
theorem dX3_swapRows_33 : decode cX3_swapRows 33 = .ok (.putfield 21, 3) := by decide +kernel
theorem dX3_swapRows_36 : decode cX3_swapRows 36 = .ok (.return_, 1) := by decide +kernel
set_option maxRecDepth 20000 in
theorem ggX4_init_X0_init : GoodIn wsX4_init wsX0_init := goodIn_r _ [21, 22, 2, 3, 23, 24, 25, 41, 42, 43] (by decide +kernel) (by decide +kernel)
set_option maxRecDepth 20000 in
theorem gX4_init_X0_init_n31 : GoodIn wsX4_init (wsX0_init) := ggX4_init_X0_init
set_option maxRecDepth 20000 in
theorem ggX4_init_X1_init : GoodIn wsX4_init wsX1_init := goodIn_r _ [27, 28, 2, 3, 29, 30, 4, 31, 32, 44, 45, 46, 47] (by decide +kernel) (by decide +kernel)
set_option maxRecDepth 20000 in
theorem gX4_init_X1_init_n41 : GoodIn wsX4_init (wsX1_init) := ggX4_init_X1_init
theorem dX4_init_0 : decode cX4_init 0 = .ok (.aload_n 0, 1) := by decide +kernel
theorem dX4_init_1 : decode cX4_init 1 = .ok (.invokespecial 1, 3) := by decide +kernel
theorem dX4_init_4 : decode cX4_init 4 = .ok (.aload_n 0, 1) := by decide +kernel
theorem dX4_init_5 : decode cX4_init 5 = .ok (.bipush 8, 2) := by decide +kernel
theorem dX4_init_7 : decode cX4_init 7 = .ok (.newarray .int, 2) := by decide +kernel
theorem dX4_init_9 : decode cX4_init 9 = .ok (.putfield 9, 3) := by decide +kernel
theorem dX4_init_12 : decode cX4_init 12 = .ok (.aload_n 0, 1) := by decide +kernel
theorem dX4_init_13 : decode cX4_init 13 = .ok (.bipush 6, 2) := by decide +kernel
theorem dX4_init_15 : decode cX4_init 15 = .ok (.newarray .int, 2) := by decide +kernel
theorem dX4_init_17 : decode cX4_init 17 = .ok (.putfield 13, 3) := by decide +kernel
theorem dX4_init_20 : decode cX4_init 20 = .ok (.aload_n 0, 1) := by decide +kernel
theorem dX4_init_21 : decode cX4_init 21 = .ok (.bipush 8, 2) := by decide +kernel
theorem dX4_init_23 : decode cX4_init 23 = .ok (.anewarray 16, 3) := by decide +kernel
theorem dX4_init_26 : decode cX4_init 26 = .ok (.putfield 18, 3) := by decide +kernel
theorem dX4_init_29 : decode cX4_init 29 = .ok (.aload_n 0, 1) := by decide +kernel
theorem dX4_init_30 : decode cX4_init 30 = .ok (.bipush 8, 2) := by decide +kernel
theorem dX4_init_32 : decode cX4_init 32 = .ok (.newarray .int, 2) := by decide +kernel
theorem dX4_init_34 : decode cX4_init 34 = .ok (.putfield 22, 3) := by decide +kernel
theorem dX4_init_37 : decode cX4_init 37 = .ok (.aload_n 0, 1) := by decide +kernel
theorem dX4_init_38 : decode cX4_init 38 = .ok (.iconst 0, 1) := by decide +kernel
theorem dX4_init_39 : decode cX4_init 39 = .ok (.putfield 25, 3) := by decide +kernel
theorem dX4_init_42 : decode cX4_init 42 = .ok (.aload_n 0, 1) := by decide +kernel
theorem dX4_init_43 : decode cX4_init 43 = .ok (.new 29, 3) := by decide +kernel
theorem dX4_init_46 : decode cX4_init 46 = .ok (.dup, 1) := by decide +kernel
theorem dX4_init_47 : decode cX4_init 47 = .ok (.invokespecial 31, 3) := by decide +kernel
theorem dX4_init_50 : decode cX4_init 50 = .ok (.putfield 32, 3) := by decide +kernel
theorem dX4_init_53 : decode cX4_init 53 = .ok (.aload_n 0, 1) := by decide +kernel
theorem dX4_init_54 : decode cX4_init 54 = .ok (.bipush 32, 2) := by decide +kernel
theorem dX4_init_56 : decode cX4_init 56 = .ok (.newarray .int, 2) := by decide +kernel
theorem dX4_init_58 : decode cX4_init 58 = .ok (.putfield 36, 3) := by decide +kernel
theorem dX4_init_61 : decode cX4_init 61 = .ok (.aload_n 0, 1) := by decide +kernel
theorem dX4_init_62 : decode cX4_init 62 = .ok (.new 39, 3) := by decide +kernel
theorem dX4_init_65 : decode cX4_init 65 = .ok (.dup, 1) := by decide +kernel
theorem dX4_init_66 : decode cX4_init 66 = .ok (.invokespecial 41, 3) := by decide +kernel
theorem dX4_init_69 : decode cX4_init 69 = .ok (.putfield 42, 3) := by decide +kernel
theorem dX4_init_72 : decode cX4_init 72 = .ok (.return_, 1) := by decide +kernel
set_option maxRecDepth 20000 in
theorem ggX4_setNeeds_X4_checkKind : GoodIn wsX4_setNeeds wsX4_checkKind := goodIn_ca (goodIn_r _ [8, 9, 10] (by decide +kernel) (by decide +kernel)) (goodIn_sub (fun _ h => List.mem_cons_of_mem _ (List.mem_append_right _ h)) (by decide +kernel))
set_option maxRecDepth 20000 in
theorem gX4_setNeeds_X4_checkKind : GoodIn wsX4_setNeeds (wsV RX4 46 RX4 yX4_checkKind wsX4_checkKind) := goodIn_app (goodIn_of _ (by decide +kernel)) ggX4_setNeeds_X4_checkKind
set_option maxRecDepth 20000 in
theorem ggX4_setNeeds_X4_reached : GoodIn wsX4_setNeeds wsX4_reached := goodIn_r _ [13, 14, 15, 7, 16] (by decide +kernel) (by decide +kernel)
set_option maxRecDepth 20000 in
theorem gX4_setNeeds_X4_reached : GoodIn wsX4_setNeeds (va_wsS RX4 57 yX4_reached wsX4_reached) := goodIn_app (goodIn_of _ (by decide +kernel)) ggX4_setNeeds_X4_reached
set_option maxRecDepth 20000 in
theorem ggX4_setNeeds_X4_holds : GoodIn wsX4_setNeeds wsX4_holds := goodIn_r _ [16] (by decide +kernel) (by decide +kernel)
set_option maxRecDepth 20000 in
theorem gX4_setNeeds_X4_holds : GoodIn wsX4_setNeeds (va_wsS RX4 61 yX4_holds wsX4_holds) := goodIn_app (goodIn_of _ (by decide +kernel)) ggX4_setNeeds_X4_holds
theorem dX4_setNeeds_0 : decode cX4_setNeeds 0 = .ok (.aload_n 0, 1) := by decide +kernel
theorem dX4_setNeeds_1 : decode cX4_setNeeds 1 = .ok (.iload_n 1, 1) := by decide +kernel
theorem dX4_setNeeds_2 : decode cX4_setNeeds 2 = .ok (.invokevirtual 46, 3) := by decide +kernel
theorem dX4_setNeeds_5 : decode cX4_setNeeds 5 = .ok (.iload_n 2, 1) := by decide +kernel
theorem dX4_setNeeds_6 : decode cX4_setNeeds 6 = .ok (.ifCond .lt 10, 3) := by decide +kernel
theorem dX4_setNeeds_9 : decode cX4_setNeeds 9 = .ok (.iload_n 2, 1) := by decide +kernel
theorem dX4_setNeeds_10 : decode cX4_setNeeds 10 = .ok (.sipush 255, 3) := by decide +kernel
theorem dX4_setNeeds_13 : decode cX4_setNeeds 13 = .ok (.if_icmp .le 13, 3) := by decide +kernel
theorem dX4_setNeeds_16 : decode cX4_setNeeds 16 = .ok (.new 50, 3) := by decide +kernel
theorem dX4_setNeeds_19 : decode cX4_setNeeds 19 = .ok (.dup, 1) := by decide +kernel
theorem dX4_setNeeds_20 : decode cX4_setNeeds 20 = .ok (.ldc 52, 2) := by decide +kernel
theorem dX4_setNeeds_22 : decode cX4_setNeeds 22 = .ok (.invokespecial 54, 3) := by decide +kernel
theorem dX4_setNeeds_25 : decode cX4_setNeeds 25 = .ok (.athrow, 1) := by decide +kernel
theorem dX4_setNeeds_26 : decode cX4_setNeeds 26 = .ok (.iload_n 2, 1) := by decide +kernel
theorem dX4_setNeeds_27 : decode cX4_setNeeds 27 = .ok (.aload_n 0, 1) := by decide +kernel
theorem dX4_setNeeds_28 : decode cX4_setNeeds 28 = .ok (.getfield 9, 3) := by decide +kernel
theorem dX4_setNeeds_31 : decode cX4_setNeeds 31 = .ok (.sipush 255, 3) := by decide +kernel
theorem dX4_setNeeds_34 : decode cX4_setNeeds 34 = .ok (.invokestatic 57, 3) := by decide +kernel
theorem dX4_setNeeds_37 : decode cX4_setNeeds 37 = .ok (.iload_n 1, 1) := by decide +kernel
theorem dX4_setNeeds_38 : decode cX4_setNeeds 38 = .ok (.invokestatic 61, 3) := by decide +kernel
theorem dX4_setNeeds_41 : decode cX4_setNeeds 41 = .ok (.ifCond .eq 13, 3) := by decide +kernel
theorem dX4_setNeeds_44 : decode cX4_setNeeds 44 = .ok (.new 50, 3) := by decide +kernel
theorem dX4_setNeeds_47 : decode cX4_setNeeds 47 = .ok (.dup, 1) := by decide +kernel
theorem dX4_setNeeds_48 : decode cX4_setNeeds 48 = .ok (.ldc 65, 2) := by decide +kernel
theorem dX4_setNeeds_50 : decode cX4_setNeeds 50 = .ok (.invokespecial 54, 3) := by decide +kernel
theorem dX4_setNeeds_53 : decode cX4_setNeeds 53 = .ok (.athrow, 1) := by decide +kernel
theorem dX4_setNeeds_54 : decode cX4_setNeeds 54 = .ok (.aload_n 0, 1) := by decide +kernel
theorem dX4_setNeeds_55 : decode cX4_setNeeds 55 = .ok (.getfield 9, 3) := by decide +kernel
theorem dX4_setNeeds_58 : decode cX4_setNeeds 58 = .ok (.iload_n 1, 1) := by decide +kernel
theorem dX4_setNeeds_59 : decode cX4_setNeeds 59 = .ok (.iaload, 1) := by decide +kernel
theorem dX4_setNeeds_60 : decode cX4_setNeeds 60 = .ok (.istore_n 3, 1) := by decide +kernel
theorem dX4_setNeeds_61 : decode cX4_setNeeds 61 = .ok (.aload_n 0, 1) := by decide +kernel
theorem dX4_setNeeds_62 : decode cX4_setNeeds 62 = .ok (.getfield 9, 3) := by decide +kernel
theorem dX4_setNeeds_65 : decode cX4_setNeeds 65 = .ok (.iload_n 1, 1) := by decide +kernel
theorem dX4_setNeeds_66 : decode cX4_setNeeds 66 = .ok (.iload_n 2, 1) := by decide +kernel
theorem dX4_setNeeds_67 : decode cX4_setNeeds 67 = .ok (.iastore, 1) := by decide +kernel
theorem dX4_setNeeds_68 : decode cX4_setNeeds 68 = .ok (.iload_n 3, 1) := by decide +kernel
theorem dX4_setNeeds_69 : decode cX4_setNeeds 69 = .ok (.ireturn, 1) := by decide +kernel
set_option maxRecDepth 20000 in
theorem ggX4_addModel_X4_checkAuthor : GoodIn wsX4_addModel wsX4_checkAuthor := goodIn_ca (goodIn_r _ [14, 15, 16] (by decide +kernel) (by decide +kernel)) (goodIn_sub (fun _ h => List.mem_cons_of_mem _ (List.mem_append_right _ h)) (by decide +kernel))
set_option maxRecDepth 20000 in
theorem gX4_addModel_X4_checkAuthor : GoodIn wsX4_addModel (wsV RX4 67 RX4 yX4_checkAuthor wsX4_checkAuthor) := goodIn_app (goodIn_of _ (by decide +kernel)) ggX4_addModel_X4_checkAuthor
set_option maxRecDepth 20000 in
theorem ggX4_addModel_X2_init : GoodIn wsX4_addModel wsX2_init := goodIn_r _ [19, 20, 21, 22, 23, 24, 25, 26, 27, 28, 29, 30, 31, 32, 33, 34, 35, 36, 37, 38, 39, 40, 41, 42, 43, 44, 45, 46, 47, 48, 49, 50, 51, 52, 53, 54, 63, 64, 65, 66, 67, 68, 69, 70, 71, 72, 73, 74, 75] (by decide +kernel) (by decide +kernel)
set_option maxRecDepth 20000 in
theorem gX4_addModel_X2_init : GoodIn wsX4_addModel (wsX2_init) := ggX4_addModel_X2_init
theorem dX4_addModel_0 : decode cX4_addModel 0 = .ok (.aload_n 0, 1) := by decide +kernel
theorem dX4_addModel_1 : decode cX4_addModel 1 = .ok (.iload_n 1, 1) := by decide +kernel
theorem dX4_addModel_2 : decode cX4_addModel 2 = .ok (.invokevirtual 67, 3) := by decide +kernel
theorem dX4_addModel_5 : decode cX4_addModel 5 = .ok (.iload_n 2, 1) := by decide +kernel
theorem dX4_addModel_6 : decode cX4_addModel 6 = .ok (.iconst 2, 1) := by decide +kernel
theorem dX4_addModel_7 : decode cX4_addModel 7 = .ok (.if_icmp .lt 9, 3) := by decide +kernel
theorem dX4_addModel_10 : decode cX4_addModel 10 = .ok (.iload_n 2, 1) := by decide +kernel
theorem dX4_addModel_11 : decode cX4_addModel 11 = .ok (.bipush 32, 2) := by decide +kernel
theorem dX4_addModel_13 : decode cX4_addModel 13 = .ok (.if_icmp .le 13, 3) := by decide +kernel
theorem dX4_addModel_16 : decode cX4_addModel 16 = .ok (.new 50, 3) := by decide +kernel
theorem dX4_addModel_19 : decode cX4_addModel 19 = .ok (.dup, 1) := by decide +kernel
theorem dX4_addModel_20 : decode cX4_addModel 20 = .ok (.ldc 70, 2) := by decide +kernel
theorem dX4_addModel_22 : decode cX4_addModel 22 = .ok (.invokespecial 54, 3) := by decide +kernel
theorem dX4_addModel_25 : decode cX4_addModel 25 = .ok (.athrow, 1) := by decide +kernel
theorem dX4_addModel_26 : decode cX4_addModel 26 = .ok (.aload_n 0, 1) := by decide +kernel
theorem dX4_addModel_27 : decode cX4_addModel 27 = .ok (.getfield 25, 3) := by decide +kernel
theorem dX4_addModel_30 : decode cX4_addModel 30 = .ok (.bipush 8, 2) := by decide +kernel
theorem dX4_addModel_32 : decode cX4_addModel 32 = .ok (.if_icmp .lt 13, 3) := by decide +kernel
theorem dX4_addModel_35 : decode cX4_addModel 35 = .ok (.new 72, 3) := by decide +kernel
theorem dX4_addModel_38 : decode cX4_addModel 38 = .ok (.dup, 1) := by decide +kernel
theorem dX4_addModel_39 : decode cX4_addModel 39 = .ok (.ldc 74, 2) := by decide +kernel
theorem dX4_addModel_41 : decode cX4_addModel 41 = .ok (.invokespecial 76, 3) := by decide +kernel
theorem dX4_addModel_44 : decode cX4_addModel 44 = .ok (.athrow, 1) := by decide +kernel
theorem dX4_addModel_45 : decode cX4_addModel 45 = .ok (.aload_n 0, 1) := by decide +kernel
theorem dX4_addModel_46 : decode cX4_addModel 46 = .ok (.getfield 18, 3) := by decide +kernel
theorem dX4_addModel_49 : decode cX4_addModel 49 = .ok (.aload_n 0, 1) := by decide +kernel
theorem dX4_addModel_50 : decode cX4_addModel 50 = .ok (.getfield 25, 3) := by decide +kernel
theorem dX4_addModel_53 : decode cX4_addModel 53 = .ok (.new 16, 3) := by decide +kernel
theorem dX4_addModel_56 : decode cX4_addModel 56 = .ok (.dup, 1) := by decide +kernel
theorem dX4_addModel_57 : decode cX4_addModel 57 = .ok (.iload_n 1, 1) := by decide +kernel
theorem dX4_addModel_58 : decode cX4_addModel 58 = .ok (.iload_n 2, 1) := by decide +kernel
theorem dX4_addModel_59 : decode cX4_addModel 59 = .ok (.invokespecial 77, 3) := by decide +kernel
theorem dX4_addModel_62 : decode cX4_addModel 62 = .ok (.aastore, 1) := by decide +kernel
theorem dX4_addModel_63 : decode cX4_addModel 63 = .ok (.aload_n 0, 1) := by decide +kernel
theorem dX4_addModel_64 : decode cX4_addModel 64 = .ok (.dup, 1) := by decide +kernel
theorem dX4_addModel_65 : decode cX4_addModel 65 = .ok (.getfield 25, 3) := by decide +kernel
theorem dX4_addModel_68 : decode cX4_addModel 68 = .ok (.iconst 1, 1) := by decide +kernel
theorem dX4_addModel_69 : decode cX4_addModel 69 = .ok (.iadd, 1) := by decide +kernel
theorem dX4_addModel_70 : decode cX4_addModel 70 = .ok (.putfield 25, 3) := by decide +kernel
theorem dX4_addModel_73 : decode cX4_addModel 73 = .ok (.aload_n 0, 1) := by decide +kernel
theorem dX4_addModel_74 : decode cX4_addModel 74 = .ok (.getfield 25, 3) := by decide +kernel
theorem dX4_addModel_77 : decode cX4_addModel 77 = .ok (.iconst 1, 1) := by decide +kernel
theorem dX4_addModel_78 : decode cX4_addModel 78 = .ok (.isub, 1) := by decide +kernel
theorem dX4_addModel_79 : decode cX4_addModel 79 = .ok (.ireturn, 1) := by decide +kernel
set_option maxRecDepth 20000 in
theorem ggX4_fold_X4_modelAt : GoodIn wsX4_fold wsX4_modelAt := goodIn_ca (goodIn_r _ [13, 14, 15, 16, 17, 18, 19, 12, 20, 21, 102, 103, 104, 105, 106, 107, 108, 109] (by decide +kernel) (by decide +kernel)) (goodIn_sub (fun _ h => List.mem_cons_of_mem _ (List.mem_append_right _ h)) (by decide +kernel))
set_option maxRecDepth 20000 in
theorem gX4_fold_X4_modelAt : GoodIn wsX4_fold (wsV RX4 80 RX4 yX4_modelAt wsX4_modelAt) := goodIn_app (goodIn_of _ (by decide +kernel)) ggX4_fold_X4_modelAt
set_option maxRecDepth 20000 in
theorem ggX4_fold_X4_checkKind : GoodIn wsX4_fold wsX4_checkKind := goodIn_ca (goodIn_r _ [25, 14, 15] (by decide +kernel) (by decide +kernel)) (goodIn_sub (fun _ h => List.mem_cons_of_mem _ (List.mem_append_right _ h)) (by decide +kernel))
set_option maxRecDepth 20000 in
theorem gX4_fold_X4_checkKind : GoodIn wsX4_fold (wsV RX4 46 RX4 yX4_checkKind wsX4_checkKind) := goodIn_app (goodIn_of _ (by decide +kernel)) ggX4_fold_X4_checkKind
set_option maxRecDepth 20000 in
theorem ggX4_fold_X2_ownKinds : GoodIn wsX4_fold wsX2_ownKinds := goodIn_r _ [30, 31, 32, 89, 90, 91, 92, 93, 94, 95] (by decide +kernel) (by decide +kernel)
set_option maxRecDepth 20000 in
theorem gX4_fold_X2_ownKinds : GoodIn wsX4_fold (wsV RX4 100 RX2 yX2_ownKinds wsX2_ownKinds) := goodIn_app (goodIn_of _ (by decide +kernel)) ggX4_fold_X2_ownKinds
set_option maxRecDepth 20000 in
theorem ggX4_fold_X4_lacksAny : GoodIn wsX4_fold wsX4_lacksAny := goodIn_r _ [35] (by decide +kernel) (by decide +kernel)
set_option maxRecDepth 20000 in
theorem gX4_fold_X4_lacksAny : GoodIn wsX4_fold (va_wsS RX4 104 yX4_lacksAny wsX4_lacksAny) := goodIn_app (goodIn_of _ (by decide +kernel)) ggX4_fold_X4_lacksAny
set_option maxRecDepth 20000 in
theorem ggX4_fold_X2_addStep : GoodIn wsX4_fold wsX2_addStep := goodIn_r _ [39, 31, 32, 40, 41, 42, 43, 44, 45, 46, 47, 48, 49, 50, 51, 52, 53, 54, 55, 56, 57, 58, 59, 60, 61, 62, 63, 64, 65, 66, 67, 68, 69, 70, 71, 72, 73, 74, 75, 76, 77, 78, 79, 80, 81, 82, 83, 84, 85, 86, 87, 88, 89, 90, 91, 92, 93, 94, 95, 96, 97, 98, 99, 100, 101] (by decide +kernel) (by decide +kernel)
set_option maxRecDepth 20000 in
theorem gX4_fold_X2_addStep : GoodIn wsX4_fold (wsV RX4 109 RX2 yX2_addStep wsX2_addStep) := goodIn_app (goodIn_of _ (by decide +kernel)) ggX4_fold_X2_addStep
theorem dX4_fold_0 : decode cX4_fold 0 = .ok (.aload_n 0, 1) := by decide +kernel
theorem dX4_fold_1 : decode cX4_fold 1 = .ok (.iload_n 1, 1) := by decide +kernel
theorem dX4_fold_2 : decode cX4_fold 2 = .ok (.invokevirtual 80, 3) := by decide +kernel
theorem dX4_fold_5 : decode cX4_fold 5 = .ok (.astore 5, 2) := by decide +kernel
theorem dX4_fold_7 : decode cX4_fold 7 = .ok (.aload_n 0, 1) := by decide +kernel
theorem dX4_fold_8 : decode cX4_fold 8 = .ok (.iload_n 2, 1) := by decide +kernel
theorem dX4_fold_9 : decode cX4_fold 9 = .ok (.invokevirtual 46, 3) := by decide +kernel
theorem dX4_fold_12 : decode cX4_fold 12 = .ok (.iload_n 3, 1) := by decide +kernel
theorem dX4_fold_13 : decode cX4_fold 13 = .ok (.iconst 1, 1) := by decide +kernel
theorem dX4_fold_14 : decode cX4_fold 14 = .ok (.if_icmp .lt 17, 3) := by decide +kernel
theorem dX4_fold_17 : decode cX4_fold 17 = .ok (.iload_n 3, 1) := by decide +kernel
theorem dX4_fold_18 : decode cX4_fold 18 = .ok (.aload 5, 2) := by decide +kernel
theorem dX4_fold_20 : decode cX4_fold 20 = .ok (.getfield 84, 3) := by decide +kernel
theorem dX4_fold_23 : decode cX4_fold 23 = .ok (.getfield 88, 3) := by decide +kernel
theorem dX4_fold_26 : decode cX4_fold 26 = .ok (.iconst 1, 1) := by decide +kernel
theorem dX4_fold_27 : decode cX4_fold 27 = .ok (.isub, 1) := by decide +kernel
theorem dX4_fold_28 : decode cX4_fold 28 = .ok (.if_icmp .le 13, 3) := by decide +kernel
theorem dX4_fold_31 : decode cX4_fold 31 = .ok (.new 50, 3) := by decide +kernel
theorem dX4_fold_34 : decode cX4_fold 34 = .ok (.dup, 1) := by decide +kernel
theorem dX4_fold_35 : decode cX4_fold 35 = .ok (.ldc 93, 2) := by decide +kernel
theorem dX4_fold_37 : decode cX4_fold 37 = .ok (.invokespecial 54, 3) := by decide +kernel
theorem dX4_fold_40 : decode cX4_fold 40 = .ok (.athrow, 1) := by decide +kernel
theorem dX4_fold_41 : decode cX4_fold 41 = .ok (.aload 5, 2) := by decide +kernel
theorem dX4_fold_43 : decode cX4_fold 43 = .ok (.getfield 95, 3) := by decide +kernel
theorem dX4_fold_46 : decode cX4_fold 46 = .ok (.bipush 10, 2) := by decide +kernel
theorem dX4_fold_48 : decode cX4_fold 48 = .ok (.if_icmp .lt 13, 3) := by decide +kernel
theorem dX4_fold_51 : decode cX4_fold 51 = .ok (.new 72, 3) := by decide +kernel
theorem dX4_fold_54 : decode cX4_fold 54 = .ok (.dup, 1) := by decide +kernel
theorem dX4_fold_55 : decode cX4_fold 55 = .ok (.ldc 98, 2) := by decide +kernel
theorem dX4_fold_57 : decode cX4_fold 57 = .ok (.invokespecial 76, 3) := by decide +kernel
theorem dX4_fold_60 : decode cX4_fold 60 = .ok (.athrow, 1) := by decide +kernel
theorem dX4_fold_61 : decode cX4_fold 61 = .ok (.aload 5, 2) := by decide +kernel
theorem dX4_fold_63 : decode cX4_fold 63 = .ok (.invokevirtual 100, 3) := by decide +kernel
theorem dX4_fold_66 : decode cX4_fold 66 = .ok (.aload_n 0, 1) := by decide +kernel
theorem dX4_fold_67 : decode cX4_fold 67 = .ok (.getfield 9, 3) := by decide +kernel
theorem dX4_fold_70 : decode cX4_fold 70 = .ok (.iload_n 2, 1) := by decide +kernel
theorem dX4_fold_71 : decode cX4_fold 71 = .ok (.iaload, 1) := by decide +kernel
theorem dX4_fold_72 : decode cX4_fold 72 = .ok (.invokestatic 104, 3) := by decide +kernel
theorem dX4_fold_75 : decode cX4_fold 75 = .ok (.ifCond .eq 13, 3) := by decide +kernel
theorem dX4_fold_78 : decode cX4_fold 78 = .ok (.new 72, 3) := by decide +kernel
theorem dX4_fold_81 : decode cX4_fold 81 = .ok (.dup, 1) := by decide +kernel
theorem dX4_fold_82 : decode cX4_fold 82 = .ok (.ldc 107, 2) := by decide +kernel
theorem dX4_fold_84 : decode cX4_fold 84 = .ok (.invokespecial 76, 3) := by decide +kernel
theorem dX4_fold_87 : decode cX4_fold 87 = .ok (.athrow, 1) := by decide +kernel
theorem dX4_fold_88 : decode cX4_fold 88 = .ok (.aload 5, 2) := by decide +kernel
theorem dX4_fold_90 : decode cX4_fold 90 = .ok (.iload_n 2, 1) := by decide +kernel
theorem dX4_fold_91 : decode cX4_fold 91 = .ok (.iload_n 3, 1) := by decide +kernel
theorem dX4_fold_92 : decode cX4_fold 92 = .ok (.iload 4, 2) := by decide +kernel
theorem dX4_fold_94 : decode cX4_fold 94 = .ok (.invokevirtual 109, 3) := by decide +kernel
theorem dX4_fold_97 : decode cX4_fold 97 = .ok (.aload 5, 2) := by decide +kernel
theorem dX4_fold_99 : decode cX4_fold 99 = .ok (.getfield 84, 3) := by decide +kernel
theorem dX4_fold_102 : decode cX4_fold 102 = .ok (.getfield 88, 3) := by decide +kernel
theorem dX4_fold_105 : decode cX4_fold 105 = .ok (.ireturn, 1) := by decide +kernel
set_option maxRecDepth 20000 in
theorem ggX4_unfold_X4_modelAt : GoodIn wsX4_unfold wsX4_modelAt := goodIn_ca (goodIn_r _ [8, 9, 10, 11, 12, 13, 14, 7, 15, 16, 85, 86, 87, 88, 89, 90, 91, 92] (by decide +kernel) (by decide +kernel)) (goodIn_sub (fun _ h => List.mem_cons_of_mem _ (List.mem_append_right _ h)) (by decide +kernel))
set_option maxRecDepth 20000 in
theorem gX4_unfold_X4_modelAt : GoodIn wsX4_unfold (wsV RX4 80 RX4 yX4_modelAt wsX4_modelAt) := goodIn_app (goodIn_of _ (by decide +kernel)) ggX4_unfold_X4_modelAt
set_option maxRecDepth 20000 in
theorem ggX4_unfold_X2_removeLastStep : GoodIn wsX4_unfold wsX2_removeLastStep := goodIn_r _ [21, 22, 23, 24, 25, 26, 27, 28, 29, 30, 31, 32, 33, 34, 35, 36, 37, 38, 39, 40, 41, 42, 43, 44, 45, 46, 47, 48, 49, 50, 51, 52, 53, 54, 55, 56, 57, 58, 59, 60, 61, 62, 63, 64, 65, 66, 67, 68, 69, 70, 71, 72, 73, 74, 75, 76, 77, 78, 79, 80, 81, 82, 83, 84, 93, 94, 95, 96, 97, 98] (by decide +kernel) (by decide +kernel)
set_option maxRecDepth 20000 in
theorem gX4_unfold_X2_removeLastStep : GoodIn wsX4_unfold (wsV RX4 115 RX2 yX2_removeLastStep wsX2_removeLastStep) := goodIn_app (goodIn_of _ (by decide +kernel)) ggX4_unfold_X2_removeLastStep
theorem dX4_unfold_0 : decode cX4_unfold 0 = .ok (.aload_n 0, 1) := by decide +kernel
theorem dX4_unfold_1 : decode cX4_unfold 1 = .ok (.iload_n 1, 1) := by decide +kernel
theorem dX4_unfold_2 : decode cX4_unfold 2 = .ok (.invokevirtual 80, 3) := by decide +kernel
theorem dX4_unfold_5 : decode cX4_unfold 5 = .ok (.astore_n 2, 1) := by decide +kernel
theorem dX4_unfold_6 : decode cX4_unfold 6 = .ok (.aload_n 2, 1) := by decide +kernel
theorem dX4_unfold_7 : decode cX4_unfold 7 = .ok (.getfield 95, 3) := by decide +kernel
theorem dX4_unfold_10 : decode cX4_unfold 10 = .ok (.ifCond .ne 13, 3) := by decide +kernel
theorem dX4_unfold_13 : decode cX4_unfold 13 = .ok (.new 72, 3) := by decide +kernel
theorem dX4_unfold_16 : decode cX4_unfold 16 = .ok (.dup, 1) := by decide +kernel
theorem dX4_unfold_17 : decode cX4_unfold 17 = .ok (.ldc 113, 2) := by decide +kernel
theorem dX4_unfold_19 : decode cX4_unfold 19 = .ok (.invokespecial 76, 3) := by decide +kernel
theorem dX4_unfold_22 : decode cX4_unfold 22 = .ok (.athrow, 1) := by decide +kernel
theorem dX4_unfold_23 : decode cX4_unfold 23 = .ok (.aload_n 2, 1) := by decide +kernel
theorem dX4_unfold_24 : decode cX4_unfold 24 = .ok (.invokevirtual 115, 3) := by decide +kernel
theorem dX4_unfold_27 : decode cX4_unfold 27 = .ok (.ireturn, 1) := by decide +kernel
set_option maxRecDepth 20000 in
theorem ggX4_use_X4_checkModel : GoodIn wsX4_use wsX4_checkModel := goodIn_ca (goodIn_r _ [8, 9, 10, 11, 22, 23, 24, 25, 26, 27, 28, 29] (by decide +kernel) (by decide +kernel)) (goodIn_sub (fun _ h => List.mem_cons_of_mem _ (List.mem_append_right _ h)) (by decide +kernel))
set_option maxRecDepth 20000 in
theorem gX4_use_X4_checkModel : GoodIn wsX4_use (wsV RX4 118 RX4 yX4_checkModel wsX4_checkModel) := goodIn_app (goodIn_of _ (by decide +kernel)) ggX4_use_X4_checkModel
set_option maxRecDepth 20000 in
theorem ggX4_use_X4_modelsCountedFor : GoodIn wsX4_use wsX4_modelsCountedFor := goodIn_r _ [15, 3, 16, 17, 7, 18, 19, 20, 21, 22, 23, 24, 25, 26, 27, 28, 29] (by decide +kernel) (by decide +kernel)
set_option maxRecDepth 20000 in
theorem gX4_use_X4_modelsCountedFor : GoodIn wsX4_use (wsV RX4 121 RX4 yX4_modelsCountedFor wsX4_modelsCountedFor) := goodIn_app (goodIn_of _ (by decide +kernel)) ggX4_use_X4_modelsCountedFor
set_option maxRecDepth 20000 in
theorem ggX4_use_X4_holds : GoodIn wsX4_use wsX4_holds := goodIn_r _ [21] (by decide +kernel) (by decide +kernel)
set_option maxRecDepth 20000 in
theorem gX4_use_X4_holds : GoodIn wsX4_use (va_wsS RX4 61 yX4_holds wsX4_holds) := goodIn_app (goodIn_of _ (by decide +kernel)) ggX4_use_X4_holds
theorem dX4_use_0 : decode cX4_use 0 = .ok (.aload_n 0, 1) := by decide +kernel
theorem dX4_use_1 : decode cX4_use 1 = .ok (.iload_n 1, 1) := by decide +kernel
theorem dX4_use_2 : decode cX4_use 2 = .ok (.invokevirtual 118, 3) := by decide +kernel
theorem dX4_use_5 : decode cX4_use 5 = .ok (.aload_n 0, 1) := by decide +kernel
theorem dX4_use_6 : decode cX4_use 6 = .ok (.iload_n 2, 1) := by decide +kernel
theorem dX4_use_7 : decode cX4_use 7 = .ok (.invokevirtual 118, 3) := by decide +kernel
theorem dX4_use_10 : decode cX4_use 10 = .ok (.aload_n 0, 1) := by decide +kernel
theorem dX4_use_11 : decode cX4_use 11 = .ok (.iload_n 2, 1) := by decide +kernel
theorem dX4_use_12 : decode cX4_use 12 = .ok (.invokevirtual 121, 3) := by decide +kernel
theorem dX4_use_15 : decode cX4_use 15 = .ok (.iload_n 1, 1) := by decide +kernel
theorem dX4_use_16 : decode cX4_use 16 = .ok (.invokestatic 61, 3) := by decide +kernel
theorem dX4_use_19 : decode cX4_use 19 = .ok (.ifCond .eq 13, 3) := by decide +kernel
theorem dX4_use_22 : decode cX4_use 22 = .ok (.new 50, 3) := by decide +kernel
theorem dX4_use_25 : decode cX4_use 25 = .ok (.dup, 1) := by decide +kernel
theorem dX4_use_26 : decode cX4_use 26 = .ok (.ldc 125, 2) := by decide +kernel
theorem dX4_use_28 : decode cX4_use 28 = .ok (.invokespecial 54, 3) := by decide +kernel
theorem dX4_use_31 : decode cX4_use 31 = .ok (.athrow, 1) := by decide +kernel
theorem dX4_use_32 : decode cX4_use 32 = .ok (.aload_n 0, 1) := by decide +kernel
theorem dX4_use_33 : decode cX4_use 33 = .ok (.getfield 22, 3) := by decide +kernel
theorem dX4_use_36 : decode cX4_use 36 = .ok (.iload_n 1, 1) := by decide +kernel
theorem dX4_use_37 : decode cX4_use 37 = .ok (.iaload, 1) := by decide +kernel
theorem dX4_use_38 : decode cX4_use 38 = .ok (.iload_n 2, 1) := by decide +kernel
theorem dX4_use_39 : decode cX4_use 39 = .ok (.invokestatic 61, 3) := by decide +kernel
theorem dX4_use_42 : decode cX4_use 42 = .ok (.ifCond .ne 7, 3) := by decide +kernel
theorem dX4_use_45 : decode cX4_use 45 = .ok (.iconst 1, 1) := by decide +kernel
theorem dX4_use_46 : decode cX4_use 46 = .ok (.goto 4, 3) := by decide +kernel
theorem dX4_use_49 : decode cX4_use 49 = .ok (.iconst 0, 1) := by decide +kernel
theorem dX4_use_50 : decode cX4_use 50 = .ok (.istore_n 3, 1) := by decide +kernel
theorem dX4_use_51 : decode cX4_use 51 = .ok (.aload_n 0, 1) := by decide +kernel
theorem dX4_use_52 : decode cX4_use 52 = .ok (.getfield 22, 3) := by decide +kernel
theorem dX4_use_55 : decode cX4_use 55 = .ok (.iload_n 1, 1) := by decide +kernel
theorem dX4_use_56 : decode cX4_use 56 = .ok (.dup2, 1) := by decide +kernel
theorem dX4_use_57 : decode cX4_use 57 = .ok (.iaload, 1) := by decide +kernel
theorem dX4_use_58 : decode cX4_use 58 = .ok (.iconst 1, 1) := by decide +kernel
theorem dX4_use_59 : decode cX4_use 59 = .ok (.iload_n 2, 1) := by decide +kernel
theorem dX4_use_60 : decode cX4_use 60 = .ok (.ishl, 1) := by decide +kernel
theorem dX4_use_61 : decode cX4_use 61 = .ok (.ior, 1) := by decide +kernel
theorem dX4_use_62 : decode cX4_use 62 = .ok (.iastore, 1) := by decide +kernel
theorem dX4_use_63 : decode cX4_use 63 = .ok (.iload_n 3, 1) := by decide +kernel
theorem dX4_use_64 : decode cX4_use 64 = .ok (.ireturn, 1) := by decide +kernel
theorem dX4_setRoll_0 : decode cX4_setRoll 0 = .ok (.iload_n 1, 1) := by decide +kernel
theorem dX4_setRoll_1 : decode cX4_setRoll 1 = .ok (.ifCond .lt 10, 3) := by decide +kernel
theorem dX4_setRoll_4 : decode cX4_setRoll 4 = .ok (.iload_n 1, 1) := by decide +kernel
theorem dX4_setRoll_5 : decode cX4_setRoll 5 = .ok (.sipush 200, 3) := by decide +kernel
theorem dX4_setRoll_8 : decode cX4_setRoll 8 = .ok (.if_icmp .le 13, 3) := by decide +kernel
theorem dX4_setRoll_11 : decode cX4_setRoll 11 = .ok (.new 50, 3) := by decide +kernel
theorem dX4_setRoll_14 : decode cX4_setRoll 14 = .ok (.dup, 1) := by decide +kernel
theorem dX4_setRoll_15 : decode cX4_setRoll 15 = .ok (.ldc 70, 2) := by decide +kernel
theorem dX4_setRoll_17 : decode cX4_setRoll 17 = .ok (.invokespecial 54, 3) := by decide +kernel
theorem dX4_setRoll_20 : decode cX4_setRoll 20 = .ok (.athrow, 1) := by decide +kernel
theorem dX4_setRoll_21 : decode cX4_setRoll 21 = .ok (.iload_n 2, 1) := by decide +kernel
theorem dX4_setRoll_22 : decode cX4_setRoll 22 = .ok (.ifCond .lt 9, 3) := by decide +kernel
theorem dX4_setRoll_25 : decode cX4_setRoll 25 = .ok (.iload_n 2, 1) := by decide +kernel
theorem dX4_setRoll_26 : decode cX4_setRoll 26 = .ok (.ldc 127, 2) := by decide +kernel
theorem dX4_setRoll_28 : decode cX4_setRoll 28 = .ok (.if_icmp .le 13, 3) := by decide +kernel
theorem dX4_setRoll_31 : decode cX4_setRoll 31 = .ok (.new 50, 3) := by decide +kernel
theorem dX4_setRoll_34 : decode cX4_setRoll 34 = .ok (.dup, 1) := by decide +kernel
theorem dX4_setRoll_35 : decode cX4_setRoll 35 = .ok (.ldc 128, 2) := by decide +kernel
theorem dX4_setRoll_37 : decode cX4_setRoll 37 = .ok (.invokespecial 54, 3) := by decide +kernel
theorem dX4_setRoll_40 : decode cX4_setRoll 40 = .ok (.athrow, 1) := by decide +kernel
theorem dX4_setRoll_41 : decode cX4_setRoll 41 = .ok (.aload_n 0, 1) := by decide +kernel
theorem dX4_setRoll_42 : decode cX4_setRoll 42 = .ok (.getfield 42, 3) := by decide +kernel
theorem dX4_setRoll_45 : decode cX4_setRoll 45 = .ok (.getfield 130, 3) := by decide +kernel
theorem dX4_setRoll_48 : decode cX4_setRoll 48 = .ok (.istore_n 3, 1) := by decide +kernel
theorem dX4_setRoll_49 : decode cX4_setRoll 49 = .ok (.aload_n 0, 1) := by decide +kernel
theorem dX4_setRoll_50 : decode cX4_setRoll 50 = .ok (.getfield 42, 3) := by decide +kernel
theorem dX4_setRoll_53 : decode cX4_setRoll 53 = .ok (.iload_n 1, 1) := by decide +kernel
theorem dX4_setRoll_54 : decode cX4_setRoll 54 = .ok (.putfield 130, 3) := by decide +kernel
theorem dX4_setRoll_57 : decode cX4_setRoll 57 = .ok (.aload_n 0, 1) := by decide +kernel
theorem dX4_setRoll_58 : decode cX4_setRoll 58 = .ok (.getfield 42, 3) := by decide +kernel
theorem dX4_setRoll_61 : decode cX4_setRoll 61 = .ok (.iload_n 2, 1) := by decide +kernel
theorem dX4_setRoll_62 : decode cX4_setRoll 62 = .ok (.putfield 133, 3) := by decide +kernel
theorem dX4_setRoll_65 : decode cX4_setRoll 65 = .ok (.iload_n 3, 1) := by decide +kernel
theorem dX4_setRoll_66 : decode cX4_setRoll 66 = .ok (.ireturn, 1) := by decide +kernel
set_option maxRecDepth 20000 in
theorem ggX4_teach_X4_checkPupil : GoodIn wsX4_teach wsX4_checkPupil := goodIn_ca (goodIn_r _ [9, 10, 11] (by decide +kernel) (by decide +kernel)) (goodIn_sub (fun _ h => List.mem_cons_of_mem _ (List.mem_append_right _ h)) (by decide +kernel))
set_option maxRecDepth 20000 in
theorem gX4_teach_X4_checkPupil : GoodIn wsX4_teach (wsV RX4 136 RX4 yX4_checkPupil wsX4_checkPupil) := goodIn_app (goodIn_of _ (by decide +kernel)) ggX4_teach_X4_checkPupil
set_option maxRecDepth 20000 in
theorem ggX4_teach_X4_checkKind : GoodIn wsX4_teach wsX4_checkKind := goodIn_ca (goodIn_r _ [15, 10, 11] (by decide +kernel) (by decide +kernel)) (goodIn_sub (fun _ h => List.mem_cons_of_mem _ (List.mem_append_right _ h)) (by decide +kernel))
set_option maxRecDepth 20000 in
theorem gX4_teach_X4_checkKind : GoodIn wsX4_teach (wsV RX4 46 RX4 yX4_checkKind wsX4_checkKind) := goodIn_app (goodIn_of _ (by decide +kernel)) ggX4_teach_X4_checkKind
set_option maxRecDepth 20000 in
theorem ggX4_teach_X4_lacksAny : GoodIn wsX4_teach wsX4_lacksAny := goodIn_r _ [18] (by decide +kernel) (by decide +kernel)
set_option maxRecDepth 20000 in
theorem gX4_teach_X4_lacksAny : GoodIn wsX4_teach (va_wsS RX4 104 yX4_lacksAny wsX4_lacksAny) := goodIn_app (goodIn_of _ (by decide +kernel)) ggX4_teach_X4_lacksAny
set_option maxRecDepth 20000 in
theorem ggX4_teach_J6_bitCount_0f7a4 : GoodIn wsX4_teach wsJ6_bitCount_0f7a4 := goodIn_r _ [22, 23, 24, 25] (by decide +kernel) (by decide +kernel)
set_option maxRecDepth 20000 in
theorem gX4_teach_J6_bitCount_0f7a4 : GoodIn wsX4_teach (va_wsS RX4 141 yJ6_bitCount_0f7a4 wsJ6_bitCount_0f7a4) := goodIn_app (goodIn_of _ (by decide +kernel)) ggX4_teach_J6_bitCount_0f7a4
theorem dX4_teach_0 : decode cX4_teach 0 = .ok (.aload_n 0, 1) := by decide +kernel
theorem dX4_teach_1 : decode cX4_teach 1 = .ok (.iload_n 1, 1) := by decide +kernel
theorem dX4_teach_2 : decode cX4_teach 2 = .ok (.invokevirtual 136, 3) := by decide +kernel
theorem dX4_teach_5 : decode cX4_teach 5 = .ok (.aload_n 0, 1) := by decide +kernel
theorem dX4_teach_6 : decode cX4_teach 6 = .ok (.iload_n 2, 1) := by decide +kernel
theorem dX4_teach_7 : decode cX4_teach 7 = .ok (.invokevirtual 46, 3) := by decide +kernel
theorem dX4_teach_10 : decode cX4_teach 10 = .ok (.aload_n 0, 1) := by decide +kernel
theorem dX4_teach_11 : decode cX4_teach 11 = .ok (.getfield 13, 3) := by decide +kernel
theorem dX4_teach_14 : decode cX4_teach 14 = .ok (.iload_n 1, 1) := by decide +kernel
theorem dX4_teach_15 : decode cX4_teach 15 = .ok (.iaload, 1) := by decide +kernel
theorem dX4_teach_16 : decode cX4_teach 16 = .ok (.aload_n 0, 1) := by decide +kernel
theorem dX4_teach_17 : decode cX4_teach 17 = .ok (.getfield 9, 3) := by decide +kernel
theorem dX4_teach_20 : decode cX4_teach 20 = .ok (.iload_n 2, 1) := by decide +kernel
theorem dX4_teach_21 : decode cX4_teach 21 = .ok (.iaload, 1) := by decide +kernel
theorem dX4_teach_22 : decode cX4_teach 22 = .ok (.invokestatic 104, 3) := by decide +kernel
theorem dX4_teach_25 : decode cX4_teach 25 = .ok (.ifCond .eq 13, 3) := by decide +kernel
theorem dX4_teach_28 : decode cX4_teach 28 = .ok (.new 72, 3) := by decide +kernel
theorem dX4_teach_31 : decode cX4_teach 31 = .ok (.dup, 1) := by decide +kernel
theorem dX4_teach_32 : decode cX4_teach 32 = .ok (.ldc 139, 2) := by decide +kernel
theorem dX4_teach_34 : decode cX4_teach 34 = .ok (.invokespecial 76, 3) := by decide +kernel
theorem dX4_teach_37 : decode cX4_teach 37 = .ok (.athrow, 1) := by decide +kernel
theorem dX4_teach_38 : decode cX4_teach 38 = .ok (.aload_n 0, 1) := by decide +kernel
theorem dX4_teach_39 : decode cX4_teach 39 = .ok (.getfield 13, 3) := by decide +kernel
theorem dX4_teach_42 : decode cX4_teach 42 = .ok (.iload_n 1, 1) := by decide +kernel
theorem dX4_teach_43 : decode cX4_teach 43 = .ok (.dup2, 1) := by decide +kernel
theorem dX4_teach_44 : decode cX4_teach 44 = .ok (.iaload, 1) := by decide +kernel
theorem dX4_teach_45 : decode cX4_teach 45 = .ok (.iconst 1, 1) := by decide +kernel
theorem dX4_teach_46 : decode cX4_teach 46 = .ok (.iload_n 2, 1) := by decide +kernel
theorem dX4_teach_47 : decode cX4_teach 47 = .ok (.ishl, 1) := by decide +kernel
theorem dX4_teach_48 : decode cX4_teach 48 = .ok (.ior, 1) := by decide +kernel
theorem dX4_teach_49 : decode cX4_teach 49 = .ok (.iastore, 1) := by decide +kernel
theorem dX4_teach_50 : decode cX4_teach 50 = .ok (.aload_n 0, 1) := by decide +kernel
theorem dX4_teach_51 : decode cX4_teach 51 = .ok (.getfield 13, 3) := by decide +kernel
theorem dX4_teach_54 : decode cX4_teach 54 = .ok (.iload_n 1, 1) := by decide +kernel
theorem dX4_teach_55 : decode cX4_teach 55 = .ok (.iaload, 1) := by decide +kernel
theorem dX4_teach_56 : decode cX4_teach 56 = .ok (.invokestatic 141, 3) := by decide +kernel
theorem dX4_teach_59 : decode cX4_teach 59 = .ok (.ireturn, 1) := by decide +kernel
theorem dX4_models_0 : decode cX4_models 0 = .ok (.aload_n 0, 1) := by decide +kernel
theorem dX4_models_1 : decode cX4_models 1 = .ok (.getfield 25, 3) := by decide +kernel
theorem dX4_models_4 : decode cX4_models 4 = .ok (.ireturn, 1) := by decide +kernel
set_option maxRecDepth 20000 in
theorem ggX4_steps_X4_modelAt : GoodIn wsX4_steps wsX4_modelAt := goodIn_ca (goodIn_r _ [6, 7, 8, 9, 10, 11, 12, 5, 13, 14, 22, 23, 24, 25, 26, 27, 28, 29] (by decide +kernel) (by decide +kernel)) (goodIn_sub (fun _ h => List.mem_cons_of_mem _ (List.mem_append_right _ h)) (by decide +kernel))
set_option maxRecDepth 20000 in
theorem gX4_steps_X4_modelAt : GoodIn wsX4_steps (wsV RX4 80 RX4 yX4_modelAt wsX4_modelAt) := goodIn_app (goodIn_of _ (by decide +kernel)) ggX4_steps_X4_modelAt
theorem dX4_steps_0 : decode cX4_steps 0 = .ok (.aload_n 0, 1) := by decide +kernel
theorem dX4_steps_1 : decode cX4_steps 1 = .ok (.iload_n 1, 1) := by decide +kernel
theorem dX4_steps_2 : decode cX4_steps 2 = .ok (.invokevirtual 80, 3) := by decide +kernel
theorem dX4_steps_5 : decode cX4_steps 5 = .ok (.getfield 95, 3) := by decide +kernel
theorem dX4_steps_8 : decode cX4_steps 8 = .ok (.ireturn, 1) := by decide +kernel
set_option maxRecDepth 20000 in
theorem ggX4_places_X4_modelAt : GoodIn wsX4_places wsX4_modelAt := goodIn_ca (goodIn_r _ [7, 8, 9, 10, 11, 12, 13, 6, 14, 15, 29, 30, 31, 32, 33, 34, 35, 36] (by decide +kernel) (by decide +kernel)) (goodIn_sub (fun _ h => List.mem_cons_of_mem _ (List.mem_append_right _ h)) (by decide +kernel))
set_option maxRecDepth 20000 in
theorem gX4_places_X4_modelAt : GoodIn wsX4_places (wsV RX4 80 RX4 yX4_modelAt wsX4_modelAt) := goodIn_app (goodIn_of _ (by decide +kernel)) ggX4_places_X4_modelAt
theorem dX4_places_0 : decode cX4_places 0 = .ok (.aload_n 0, 1) := by decide +kernel
theorem dX4_places_1 : decode cX4_places 1 = .ok (.iload_n 1, 1) := by decide +kernel
theorem dX4_places_2 : decode cX4_places 2 = .ok (.invokevirtual 80, 3) := by decide +kernel
theorem dX4_places_5 : decode cX4_places 5 = .ok (.getfield 84, 3) := by decide +kernel
theorem dX4_places_8 : decode cX4_places 8 = .ok (.getfield 88, 3) := by decide +kernel
theorem dX4_places_11 : decode cX4_places 11 = .ok (.ireturn, 1) := by decide +kernel
set_option maxRecDepth 20000 in
theorem ggX4_layers_X4_modelAt : GoodIn wsX4_layers wsX4_modelAt := goodIn_ca (goodIn_r _ [6, 7, 8, 9, 10, 11, 12, 5, 13, 14, 41, 42, 43, 44, 45, 46, 47, 48] (by decide +kernel) (by decide +kernel)) (goodIn_sub (fun _ h => List.mem_cons_of_mem _ (List.mem_append_right _ h)) (by decide +kernel))
set_option maxRecDepth 20000 in
theorem gX4_layers_X4_modelAt : GoodIn wsX4_layers (wsV RX4 80 RX4 yX4_modelAt wsX4_modelAt) := goodIn_app (goodIn_of _ (by decide +kernel)) ggX4_layers_X4_modelAt
set_option maxRecDepth 20000 in
theorem ggX4_layers_X3_greatestHeight : GoodIn wsX4_layers wsX3_greatestHeight := goodIn_r _ [19, 20, 21, 22, 23, 24, 25, 26, 27, 18, 28, 29, 30, 31, 32, 33, 49, 50, 51, 52, 53, 54] (by decide +kernel) (by decide +kernel)
set_option maxRecDepth 20000 in
theorem gX4_layers_X3_greatestHeight : GoodIn wsX4_layers (wsV RX4 146 RX3 yX3_greatestHeight wsX3_greatestHeight) := goodIn_app (goodIn_of _ (by decide +kernel)) ggX4_layers_X3_greatestHeight
theorem dX4_layers_0 : decode cX4_layers 0 = .ok (.aload_n 0, 1) := by decide +kernel
theorem dX4_layers_1 : decode cX4_layers 1 = .ok (.iload_n 1, 1) := by decide +kernel
theorem dX4_layers_2 : decode cX4_layers 2 = .ok (.invokevirtual 80, 3) := by decide +kernel
theorem dX4_layers_5 : decode cX4_layers 5 = .ok (.getfield 84, 3) := by decide +kernel
theorem dX4_layers_8 : decode cX4_layers 8 = .ok (.invokevirtual 146, 3) := by decide +kernel
theorem dX4_layers_11 : decode cX4_layers 11 = .ok (.ireturn, 1) := by decide +kernel
set_option maxRecDepth 20000 in
theorem ggX4_cellAt_X4_modelAt : GoodIn wsX4_cellAt wsX4_modelAt := goodIn_ca (goodIn_r _ [9, 1, 2, 10, 11, 12, 13, 8, 14, 15, 46, 47, 48, 49, 50, 51, 52, 53] (by decide +kernel) (by decide +kernel)) (goodIn_sub (fun _ h => List.mem_cons_of_mem _ (List.mem_append_right _ h)) (by decide +kernel))
set_option maxRecDepth 20000 in
theorem gX4_cellAt_X4_modelAt : GoodIn wsX4_cellAt (wsV RX4 80 RX4 yX4_modelAt wsX4_modelAt) := goodIn_app (goodIn_of _ (by decide +kernel)) ggX4_cellAt_X4_modelAt
set_option maxRecDepth 20000 in
theorem ggX4_cellAt_X3_heightAt : GoodIn wsX4_cellAt wsX3_heightAt := goodIn_r _ [20, 21, 22, 23, 24, 19, 25, 26, 40, 41, 42, 43, 44, 45] (by decide +kernel) (by decide +kernel)
set_option maxRecDepth 20000 in
theorem gX4_cellAt_X3_heightAt : GoodIn wsX4_cellAt (wsV RX4 154 RX3 yX3_heightAt wsX3_heightAt) := goodIn_app (goodIn_of _ (by decide +kernel)) ggX4_cellAt_X3_heightAt
set_option maxRecDepth 20000 in
theorem ggX4_cellAt_X3_cellIn : GoodIn wsX4_cellAt wsX3_cellIn := goodIn_r _ [30, 31, 21, 32, 17, 18, 19, 20, 22, 23, 24, 25, 26, 40, 41, 42, 43, 44, 45] (by decide +kernel) (by decide +kernel)
set_option maxRecDepth 20000 in
theorem gX4_cellAt_X3_cellIn : GoodIn wsX4_cellAt (wsV RX4 159 RX3 yX3_cellIn wsX3_cellIn) := goodIn_app (goodIn_of _ (by decide +kernel)) ggX4_cellAt_X3_cellIn
theorem dX4_cellAt_0 : decode cX4_cellAt 0 = .ok (.aload_n 0, 1) := by decide +kernel
theorem dX4_cellAt_1 : decode cX4_cellAt 1 = .ok (.iload_n 1, 1) := by decide +kernel
theorem dX4_cellAt_2 : decode cX4_cellAt 2 = .ok (.invokevirtual 80, 3) := by decide +kernel
theorem dX4_cellAt_5 : decode cX4_cellAt 5 = .ok (.getfield 84, 3) := by decide +kernel
theorem dX4_cellAt_8 : decode cX4_cellAt 8 = .ok (.astore 4, 2) := by decide +kernel
theorem dX4_cellAt_10 : decode cX4_cellAt 10 = .ok (.iload_n 2, 1) := by decide +kernel
theorem dX4_cellAt_11 : decode cX4_cellAt 11 = .ok (.ifCond .lt 12, 3) := by decide +kernel
theorem dX4_cellAt_14 : decode cX4_cellAt 14 = .ok (.iload_n 2, 1) := by decide +kernel
theorem dX4_cellAt_15 : decode cX4_cellAt 15 = .ok (.aload 4, 2) := by decide +kernel
theorem dX4_cellAt_17 : decode cX4_cellAt 17 = .ok (.getfield 88, 3) := by decide +kernel
theorem dX4_cellAt_20 : decode cX4_cellAt 20 = .ok (.if_icmp .lt 13, 3) := by decide +kernel
theorem dX4_cellAt_23 : decode cX4_cellAt 23 = .ok (.new 149, 3) := by decide +kernel
theorem dX4_cellAt_26 : decode cX4_cellAt 26 = .ok (.dup, 1) := by decide +kernel
theorem dX4_cellAt_27 : decode cX4_cellAt 27 = .ok (.ldc 151, 2) := by decide +kernel
theorem dX4_cellAt_29 : decode cX4_cellAt 29 = .ok (.invokespecial 153, 3) := by decide +kernel
theorem dX4_cellAt_32 : decode cX4_cellAt 32 = .ok (.athrow, 1) := by decide +kernel
theorem dX4_cellAt_33 : decode cX4_cellAt 33 = .ok (.iload_n 3, 1) := by decide +kernel
theorem dX4_cellAt_34 : decode cX4_cellAt 34 = .ok (.ifCond .lt 13, 3) := by decide +kernel
theorem dX4_cellAt_37 : decode cX4_cellAt 37 = .ok (.iload_n 3, 1) := by decide +kernel
theorem dX4_cellAt_38 : decode cX4_cellAt 38 = .ok (.aload 4, 2) := by decide +kernel
theorem dX4_cellAt_40 : decode cX4_cellAt 40 = .ok (.iload_n 2, 1) := by decide +kernel
theorem dX4_cellAt_41 : decode cX4_cellAt 41 = .ok (.invokevirtual 154, 3) := by decide +kernel
theorem dX4_cellAt_44 : decode cX4_cellAt 44 = .ok (.if_icmp .lt 13, 3) := by decide +kernel
theorem dX4_cellAt_47 : decode cX4_cellAt 47 = .ok (.new 149, 3) := by decide +kernel
theorem dX4_cellAt_50 : decode cX4_cellAt 50 = .ok (.dup, 1) := by decide +kernel
theorem dX4_cellAt_51 : decode cX4_cellAt 51 = .ok (.ldc 157, 2) := by decide +kernel
theorem dX4_cellAt_53 : decode cX4_cellAt 53 = .ok (.invokespecial 153, 3) := by decide +kernel
theorem dX4_cellAt_56 : decode cX4_cellAt 56 = .ok (.athrow, 1) := by decide +kernel
theorem dX4_cellAt_57 : decode cX4_cellAt 57 = .ok (.aload 4, 2) := by decide +kernel
theorem dX4_cellAt_59 : decode cX4_cellAt 59 = .ok (.iload_n 2, 1) := by decide +kernel
theorem dX4_cellAt_60 : decode cX4_cellAt 60 = .ok (.iload_n 3, 1) := by decide +kernel
theorem dX4_cellAt_61 : decode cX4_cellAt 61 = .ok (.invokevirtual 159, 3) := by decide +kernel
theorem dX4_cellAt_64 : decode cX4_cellAt 64 = .ok (.ireturn, 1) := by decide +kernel
set_option maxRecDepth 20000 in
theorem ggX4_placeOf_X4_modelAt : GoodIn wsX4_placeOf wsX4_modelAt := goodIn_ca (goodIn_r _ [7, 8, 9, 10, 11, 12, 13, 6, 14, 15, 44, 45, 46, 47, 48, 49, 50, 51] (by decide +kernel) (by decide +kernel)) (goodIn_sub (fun _ h => List.mem_cons_of_mem _ (List.mem_append_right _ h)) (by decide +kernel))
set_option maxRecDepth 20000 in
theorem gX4_placeOf_X4_modelAt : GoodIn wsX4_placeOf (wsV RX4 80 RX4 yX4_modelAt wsX4_modelAt) := goodIn_app (goodIn_of _ (by decide +kernel)) ggX4_placeOf_X4_modelAt
set_option maxRecDepth 20000 in
theorem ggX4_placeOf_X4_checkCell : GoodIn wsX4_placeOf wsX4_checkCell := goodIn_ca (goodIn_r _ [19, 8, 9, 20, 55, 56, 57, 58, 59, 60, 61] (by decide +kernel) (by decide +kernel)) (goodIn_sub (fun _ h => List.mem_cons_of_mem _ (List.mem_append_right _ h)) (by decide +kernel))
set_option maxRecDepth 20000 in
theorem gX4_placeOf_X4_checkCell : GoodIn wsX4_placeOf (wsV RX4 163 RX4 yX4_checkCell wsX4_checkCell) := goodIn_app (goodIn_of _ (by decide +kernel)) ggX4_placeOf_X4_checkCell
set_option maxRecDepth 20000 in
theorem ggX4_placeOf_X0_follow : GoodIn wsX4_placeOf wsX0_follow := goodIn_r _ [25, 26, 27, 28, 29, 30, 31, 32, 33, 34, 35, 24, 36, 37, 38, 39, 40, 41, 42, 43, 52, 53, 54, 55, 56, 57, 58, 59, 60, 61] (by decide +kernel) (by decide +kernel)
set_option maxRecDepth 20000 in
theorem gX4_placeOf_X0_follow : GoodIn wsX4_placeOf (wsV RX4 167 RX0 yX0_follow wsX0_follow) := goodIn_app (goodIn_of _ (by decide +kernel)) ggX4_placeOf_X0_follow
theorem dX4_placeOf_0 : decode cX4_placeOf 0 = .ok (.aload_n 0, 1) := by decide +kernel
theorem dX4_placeOf_1 : decode cX4_placeOf 1 = .ok (.iload_n 1, 1) := by decide +kernel
theorem dX4_placeOf_2 : decode cX4_placeOf 2 = .ok (.invokevirtual 80, 3) := by decide +kernel
theorem dX4_placeOf_5 : decode cX4_placeOf 5 = .ok (.astore_n 3, 1) := by decide +kernel
theorem dX4_placeOf_6 : decode cX4_placeOf 6 = .ok (.aload_n 0, 1) := by decide +kernel
theorem dX4_placeOf_7 : decode cX4_placeOf 7 = .ok (.aload_n 3, 1) := by decide +kernel
theorem dX4_placeOf_8 : decode cX4_placeOf 8 = .ok (.iload_n 2, 1) := by decide +kernel
theorem dX4_placeOf_9 : decode cX4_placeOf 9 = .ok (.invokevirtual 163, 3) := by decide +kernel
theorem dX4_placeOf_12 : decode cX4_placeOf 12 = .ok (.aload_n 0, 1) := by decide +kernel
theorem dX4_placeOf_13 : decode cX4_placeOf 13 = .ok (.getfield 32, 3) := by decide +kernel
theorem dX4_placeOf_16 : decode cX4_placeOf 16 = .ok (.aload_n 3, 1) := by decide +kernel
theorem dX4_placeOf_17 : decode cX4_placeOf 17 = .ok (.iload_n 2, 1) := by decide +kernel
theorem dX4_placeOf_18 : decode cX4_placeOf 18 = .ok (.invokevirtual 167, 3) := by decide +kernel
theorem dX4_placeOf_21 : decode cX4_placeOf 21 = .ok (.aload_n 0, 1) := by decide +kernel
theorem dX4_placeOf_22 : decode cX4_placeOf 22 = .ok (.getfield 32, 3) := by decide +kernel
theorem dX4_placeOf_25 : decode cX4_placeOf 25 = .ok (.getfield 170, 3) := by decide +kernel
theorem dX4_placeOf_28 : decode cX4_placeOf 28 = .ok (.ireturn, 1) := by decide +kernel
set_option maxRecDepth 20000 in
theorem ggX4_isTurned_X4_modelAt : GoodIn wsX4_isTurned wsX4_modelAt := goodIn_ca (goodIn_r _ [7, 8, 9, 10, 11, 12, 13, 6, 14, 15, 44, 45, 46, 47, 48, 49, 50, 51] (by decide +kernel) (by decide +kernel)) (goodIn_sub (fun _ h => List.mem_cons_of_mem _ (List.mem_append_right _ h)) (by decide +kernel))
set_option maxRecDepth 20000 in
theorem gX4_isTurned_X4_modelAt : GoodIn wsX4_isTurned (wsV RX4 80 RX4 yX4_modelAt wsX4_modelAt) := goodIn_app (goodIn_of _ (by decide +kernel)) ggX4_isTurned_X4_modelAt
set_option maxRecDepth 20000 in
theorem ggX4_isTurned_X4_checkCell : GoodIn wsX4_isTurned wsX4_checkCell := goodIn_ca (goodIn_r _ [19, 8, 9, 20, 55, 56, 57, 58, 59, 60, 61] (by decide +kernel) (by decide +kernel)) (goodIn_sub (fun _ h => List.mem_cons_of_mem _ (List.mem_append_right _ h)) (by decide +kernel))
set_option maxRecDepth 20000 in
theorem gX4_isTurned_X4_checkCell : GoodIn wsX4_isTurned (wsV RX4 163 RX4 yX4_checkCell wsX4_checkCell) := goodIn_app (goodIn_of _ (by decide +kernel)) ggX4_isTurned_X4_checkCell
set_option maxRecDepth 20000 in
theorem ggX4_isTurned_X0_follow : GoodIn wsX4_isTurned wsX0_follow := goodIn_r _ [25, 26, 27, 28, 29, 30, 31, 32, 33, 34, 35, 24, 36, 37, 38, 39, 40, 41, 42, 43, 52, 53, 54, 55, 56, 57, 58, 59, 60, 61] (by decide +kernel) (by decide +kernel)
set_option maxRecDepth 20000 in
theorem gX4_isTurned_X0_follow : GoodIn wsX4_isTurned (wsV RX4 167 RX0 yX0_follow wsX0_follow) := goodIn_app (goodIn_of _ (by decide +kernel)) ggX4_isTurned_X0_follow
theorem dX4_isTurned_0 : decode cX4_isTurned 0 = .ok (.aload_n 0, 1) := by decide +kernel
theorem dX4_isTurned_1 : decode cX4_isTurned 1 = .ok (.iload_n 1, 1) := by decide +kernel
theorem dX4_isTurned_2 : decode cX4_isTurned 2 = .ok (.invokevirtual 80, 3) := by decide +kernel
theorem dX4_isTurned_5 : decode cX4_isTurned 5 = .ok (.astore_n 3, 1) := by decide +kernel
theorem dX4_isTurned_6 : decode cX4_isTurned 6 = .ok (.aload_n 0, 1) := by decide +kernel
theorem dX4_isTurned_7 : decode cX4_isTurned 7 = .ok (.aload_n 3, 1) := by decide +kernel
theorem dX4_isTurned_8 : decode cX4_isTurned 8 = .ok (.iload_n 2, 1) := by decide +kernel
theorem dX4_isTurned_9 : decode cX4_isTurned 9 = .ok (.invokevirtual 163, 3) := by decide +kernel
theorem dX4_isTurned_12 : decode cX4_isTurned 12 = .ok (.aload_n 0, 1) := by decide +kernel
theorem dX4_isTurned_13 : decode cX4_isTurned 13 = .ok (.getfield 32, 3) := by decide +kernel
theorem dX4_isTurned_16 : decode cX4_isTurned 16 = .ok (.aload_n 3, 1) := by decide +kernel
theorem dX4_isTurned_17 : decode cX4_isTurned 17 = .ok (.iload_n 2, 1) := by decide +kernel
theorem dX4_isTurned_18 : decode cX4_isTurned 18 = .ok (.invokevirtual 167, 3) := by decide +kernel
theorem dX4_isTurned_21 : decode cX4_isTurned 21 = .ok (.aload_n 0, 1) := by decide +kernel
theorem dX4_isTurned_22 : decode cX4_isTurned 22 = .ok (.getfield 32, 3) := by decide +kernel
theorem dX4_isTurned_25 : decode cX4_isTurned 25 = .ok (.getfield 173, 3) := by decide +kernel
theorem dX4_isTurned_28 : decode cX4_isTurned 28 = .ok (.ireturn, 1) := by decide +kernel
set_option maxRecDepth 20000 in
theorem ggX4_layersByFollowing_X4_modelAt : GoodIn wsX4_layersByFollowing wsX4_modelAt := goodIn_ca (goodIn_r _ [13, 14, 15, 16, 17, 18, 19, 12, 20, 21, 42, 43, 44, 45, 46, 47, 48, 49] (by decide +kernel) (by decide +kernel)) (goodIn_sub (fun _ h => List.mem_cons_of_mem _ (List.mem_append_right _ h)) (by decide +kernel))
set_option maxRecDepth 20000 in
theorem gX4_layersByFollowing_X4_modelAt : GoodIn wsX4_layersByFollowing (wsV RX4 80 RX4 yX4_modelAt wsX4_modelAt) := goodIn_app (goodIn_of _ (by decide +kernel)) ggX4_layersByFollowing_X4_modelAt
set_option maxRecDepth 20000 in
theorem ggX4_layersByFollowing_X0_follow : GoodIn wsX4_layersByFollowing wsX0_follow := goodIn_r _ [26, 27, 28, 29, 30, 31, 32, 33, 34, 35, 36, 25, 37, 38, 39, 7, 40, 41, 6, 8, 57, 58, 59, 50, 51, 52, 53, 54, 55, 56] (by decide +kernel) (by decide +kernel)
set_option maxRecDepth 20000 in
theorem gX4_layersByFollowing_X0_follow : GoodIn wsX4_layersByFollowing (wsV RX4 167 RX0 yX0_follow wsX0_follow) := goodIn_app (goodIn_of _ (by decide +kernel)) ggX4_layersByFollowing_X0_follow
theorem dX4_layersByFollowing_0 : decode cX4_layersByFollowing 0 = .ok (.aload_n 0, 1) := by decide +kernel
theorem dX4_layersByFollowing_1 : decode cX4_layersByFollowing 1 = .ok (.iload_n 1, 1) := by decide +kernel
theorem dX4_layersByFollowing_2 : decode cX4_layersByFollowing 2 = .ok (.invokevirtual 80, 3) := by decide +kernel
theorem dX4_layersByFollowing_5 : decode cX4_layersByFollowing 5 = .ok (.astore_n 2, 1) := by decide +kernel
theorem dX4_layersByFollowing_6 : decode cX4_layersByFollowing 6 = .ok (.iconst 0, 1) := by decide +kernel
theorem dX4_layersByFollowing_7 : decode cX4_layersByFollowing 7 = .ok (.istore_n 3, 1) := by decide +kernel
theorem dX4_layersByFollowing_8 : decode cX4_layersByFollowing 8 = .ok (.iload_n 3, 1) := by decide +kernel
theorem dX4_layersByFollowing_9 : decode cX4_layersByFollowing 9 = .ok (.aload_n 0, 1) := by decide +kernel
theorem dX4_layersByFollowing_10 : decode cX4_layersByFollowing 10 = .ok (.getfield 36, 3) := by decide +kernel
theorem dX4_layersByFollowing_13 : decode cX4_layersByFollowing 13 = .ok (.arraylength, 1) := by decide +kernel
theorem dX4_layersByFollowing_14 : decode cX4_layersByFollowing 14 = .ok (.if_icmp .ge 16, 3) := by decide +kernel
theorem dX4_layersByFollowing_17 : decode cX4_layersByFollowing 17 = .ok (.aload_n 0, 1) := by decide +kernel
theorem dX4_layersByFollowing_18 : decode cX4_layersByFollowing 18 = .ok (.getfield 36, 3) := by decide +kernel
theorem dX4_layersByFollowing_21 : decode cX4_layersByFollowing 21 = .ok (.iload_n 3, 1) := by decide +kernel
theorem dX4_layersByFollowing_22 : decode cX4_layersByFollowing 22 = .ok (.iconst 0, 1) := by decide +kernel
theorem dX4_layersByFollowing_23 : decode cX4_layersByFollowing 23 = .ok (.iastore, 1) := by decide +kernel
theorem dX4_layersByFollowing_24 : decode cX4_layersByFollowing 24 = .ok (.iinc 3 1, 3) := by decide +kernel
theorem dX4_layersByFollowing_27 : decode cX4_layersByFollowing 27 = .ok (.goto (-19), 3) := by decide +kernel
theorem dX4_layersByFollowing_30 : decode cX4_layersByFollowing 30 = .ok (.iconst 0, 1) := by decide +kernel
theorem dX4_layersByFollowing_31 : decode cX4_layersByFollowing 31 = .ok (.istore_n 3, 1) := by decide +kernel
theorem dX4_layersByFollowing_32 : decode cX4_layersByFollowing 32 = .ok (.iconst 0, 1) := by decide +kernel
theorem dX4_layersByFollowing_33 : decode cX4_layersByFollowing 33 = .ok (.istore 4, 2) := by decide +kernel
theorem dX4_layersByFollowing_35 : decode cX4_layersByFollowing 35 = .ok (.iload 4, 2) := by decide +kernel
theorem dX4_layersByFollowing_37 : decode cX4_layersByFollowing 37 = .ok (.aload_n 2, 1) := by decide +kernel
theorem dX4_layersByFollowing_38 : decode cX4_layersByFollowing 38 = .ok (.getfield 177, 3) := by decide +kernel
theorem dX4_layersByFollowing_41 : decode cX4_layersByFollowing 41 = .ok (.if_icmp .ge 66, 3) := by decide +kernel
theorem dX4_layersByFollowing_44 : decode cX4_layersByFollowing 44 = .ok (.aload_n 0, 1) := by decide +kernel
theorem dX4_layersByFollowing_45 : decode cX4_layersByFollowing 45 = .ok (.getfield 32, 3) := by decide +kernel
theorem dX4_layersByFollowing_48 : decode cX4_layersByFollowing 48 = .ok (.aload_n 2, 1) := by decide +kernel
theorem dX4_layersByFollowing_49 : decode cX4_layersByFollowing 49 = .ok (.iload 4, 2) := by decide +kernel
theorem dX4_layersByFollowing_51 : decode cX4_layersByFollowing 51 = .ok (.invokevirtual 167, 3) := by decide +kernel
theorem dX4_layersByFollowing_54 : decode cX4_layersByFollowing 54 = .ok (.aload_n 0, 1) := by decide +kernel
theorem dX4_layersByFollowing_55 : decode cX4_layersByFollowing 55 = .ok (.getfield 32, 3) := by decide +kernel
theorem dX4_layersByFollowing_58 : decode cX4_layersByFollowing 58 = .ok (.getfield 170, 3) := by decide +kernel
theorem dX4_layersByFollowing_61 : decode cX4_layersByFollowing 61 = .ok (.istore 5, 2) := by decide +kernel
theorem dX4_layersByFollowing_63 : decode cX4_layersByFollowing 63 = .ok (.iload 5, 2) := by decide +kernel
theorem dX4_layersByFollowing_65 : decode cX4_layersByFollowing 65 = .ok (.ifCond .lt 36, 3) := by decide +kernel
theorem dX4_layersByFollowing_68 : decode cX4_layersByFollowing 68 = .ok (.iload 5, 2) := by decide +kernel
theorem dX4_layersByFollowing_70 : decode cX4_layersByFollowing 70 = .ok (.aload_n 0, 1) := by decide +kernel
theorem dX4_layersByFollowing_71 : decode cX4_layersByFollowing 71 = .ok (.getfield 36, 3) := by decide +kernel
theorem dX4_layersByFollowing_74 : decode cX4_layersByFollowing 74 = .ok (.arraylength, 1) := by decide +kernel
theorem dX4_layersByFollowing_75 : decode cX4_layersByFollowing 75 = .ok (.if_icmp .ge 26, 3) := by decide +kernel
theorem dX4_layersByFollowing_78 : decode cX4_layersByFollowing 78 = .ok (.aload_n 0, 1) := by decide +kernel
theorem dX4_layersByFollowing_79 : decode cX4_layersByFollowing 79 = .ok (.getfield 36, 3) := by decide +kernel
theorem dX4_layersByFollowing_82 : decode cX4_layersByFollowing 82 = .ok (.iload 5, 2) := by decide +kernel
theorem dX4_layersByFollowing_84 : decode cX4_layersByFollowing 84 = .ok (.dup2, 1) := by decide +kernel
theorem dX4_layersByFollowing_85 : decode cX4_layersByFollowing 85 = .ok (.iaload, 1) := by decide +kernel
theorem dX4_layersByFollowing_86 : decode cX4_layersByFollowing 86 = .ok (.iconst 1, 1) := by decide +kernel
theorem dX4_layersByFollowing_87 : decode cX4_layersByFollowing 87 = .ok (.iadd, 1) := by decide +kernel
theorem dX4_layersByFollowing_88 : decode cX4_layersByFollowing 88 = .ok (.iastore, 1) := by decide +kernel
theorem dX4_layersByFollowing_89 : decode cX4_layersByFollowing 89 = .ok (.iload_n 3, 1) := by decide +kernel
theorem dX4_layersByFollowing_90 : decode cX4_layersByFollowing 90 = .ok (.aload_n 0, 1) := by decide +kernel
theorem dX4_layersByFollowing_91 : decode cX4_layersByFollowing 91 = .ok (.getfield 36, 3) := by decide +kernel
theorem dX4_layersByFollowing_94 : decode cX4_layersByFollowing 94 = .ok (.iload 5, 2) := by decide +kernel
theorem dX4_layersByFollowing_96 : decode cX4_layersByFollowing 96 = .ok (.iaload, 1) := by decide +kernel
theorem dX4_layersByFollowing_97 : decode cX4_layersByFollowing 97 = .ok (.invokestatic 180, 3) := by decide +kernel
theorem dX4_layersByFollowing_100 : decode cX4_layersByFollowing 100 = .ok (.istore_n 3, 1) := by decide +kernel
theorem dX4_layersByFollowing_101 : decode cX4_layersByFollowing 101 = .ok (.iinc 4 1, 3) := by decide +kernel
theorem dX4_layersByFollowing_104 : decode cX4_layersByFollowing 104 = .ok (.goto (-69), 3) := by decide +kernel
theorem dX4_layersByFollowing_107 : decode cX4_layersByFollowing 107 = .ok (.iload_n 3, 1) := by decide +kernel
theorem dX4_layersByFollowing_108 : decode cX4_layersByFollowing 108 = .ok (.ireturn, 1) := by decide +kernel
set_option maxRecDepth 20000 in
theorem ggX4_bears_X4_modelAt : GoodIn wsX4_bears wsX4_modelAt := goodIn_ca (goodIn_r _ [12, 13, 14, 15, 16, 17, 18, 11, 19, 20, 44, 45, 46, 47, 48, 49, 50, 51] (by decide +kernel) (by decide +kernel)) (goodIn_sub (fun _ h => List.mem_cons_of_mem _ (List.mem_append_right _ h)) (by decide +kernel))
set_option maxRecDepth 20000 in
theorem gX4_bears_X4_modelAt : GoodIn wsX4_bears (wsV RX4 80 RX4 yX4_modelAt wsX4_modelAt) := goodIn_app (goodIn_of _ (by decide +kernel)) ggX4_bears_X4_modelAt
set_option maxRecDepth 20000 in
theorem ggX4_bears_X3_greatestHeight : GoodIn wsX4_bears wsX3_greatestHeight := goodIn_r _ [25, 26, 27, 4, 5, 6, 28, 29, 30, 24, 31, 32, 33, 34, 35, 36, 52, 53, 54, 55, 56, 57] (by decide +kernel) (by decide +kernel)
set_option maxRecDepth 20000 in
theorem gX4_bears_X3_greatestHeight : GoodIn wsX4_bears (wsV RX4 146 RX3 yX3_greatestHeight wsX3_greatestHeight) := goodIn_app (goodIn_of _ (by decide +kernel)) ggX4_bears_X3_greatestHeight
theorem dX4_bears_0 : decode cX4_bears 0 = .ok (.aload_n 0, 1) := by decide +kernel
theorem dX4_bears_1 : decode cX4_bears 1 = .ok (.iload_n 1, 1) := by decide +kernel
theorem dX4_bears_2 : decode cX4_bears 2 = .ok (.invokevirtual 80, 3) := by decide +kernel
theorem dX4_bears_5 : decode cX4_bears 5 = .ok (.astore_n 3, 1) := by decide +kernel
theorem dX4_bears_6 : decode cX4_bears 6 = .ok (.iload_n 2, 1) := by decide +kernel
theorem dX4_bears_7 : decode cX4_bears 7 = .ok (.ifCond .lt 9, 3) := by decide +kernel
theorem dX4_bears_10 : decode cX4_bears 10 = .ok (.iload_n 2, 1) := by decide +kernel
theorem dX4_bears_11 : decode cX4_bears 11 = .ok (.bipush 20, 2) := by decide +kernel
theorem dX4_bears_13 : decode cX4_bears 13 = .ok (.if_icmp .le 13, 3) := by decide +kernel
theorem dX4_bears_16 : decode cX4_bears 16 = .ok (.new 50, 3) := by decide +kernel
theorem dX4_bears_19 : decode cX4_bears 19 = .ok (.dup, 1) := by decide +kernel
theorem dX4_bears_20 : decode cX4_bears 20 = .ok (.ldc 185, 2) := by decide +kernel
theorem dX4_bears_22 : decode cX4_bears 22 = .ok (.invokespecial 54, 3) := by decide +kernel
theorem dX4_bears_25 : decode cX4_bears 25 = .ok (.athrow, 1) := by decide +kernel
theorem dX4_bears_26 : decode cX4_bears 26 = .ok (.iconst 1, 1) := by decide +kernel
theorem dX4_bears_27 : decode cX4_bears 27 = .ok (.bipush 40, 2) := by decide +kernel
theorem dX4_bears_29 : decode cX4_bears 29 = .ok (.iconst 2, 1) := by decide +kernel
theorem dX4_bears_30 : decode cX4_bears 30 = .ok (.iload_n 2, 1) := by decide +kernel
theorem dX4_bears_31 : decode cX4_bears 31 = .ok (.imul, 1) := by decide +kernel
theorem dX4_bears_32 : decode cX4_bears 32 = .ok (.isub, 1) := by decide +kernel
theorem dX4_bears_33 : decode cX4_bears 33 = .ok (.invokestatic 180, 3) := by decide +kernel
theorem dX4_bears_36 : decode cX4_bears 36 = .ok (.istore 4, 2) := by decide +kernel
theorem dX4_bears_38 : decode cX4_bears 38 = .ok (.aload_n 3, 1) := by decide +kernel
theorem dX4_bears_39 : decode cX4_bears 39 = .ok (.getfield 84, 3) := by decide +kernel
theorem dX4_bears_42 : decode cX4_bears 42 = .ok (.invokevirtual 146, 3) := by decide +kernel
theorem dX4_bears_45 : decode cX4_bears 45 = .ok (.iload 4, 2) := by decide +kernel
theorem dX4_bears_47 : decode cX4_bears 47 = .ok (.if_icmp .gt 7, 3) := by decide +kernel
theorem dX4_bears_50 : decode cX4_bears 50 = .ok (.iconst 1, 1) := by decide +kernel
theorem dX4_bears_51 : decode cX4_bears 51 = .ok (.goto 4, 3) := by decide +kernel
theorem dX4_bears_54 : decode cX4_bears 54 = .ok (.iconst 0, 1) := by decide +kernel
theorem dX4_bears_55 : decode cX4_bears 55 = .ok (.ireturn, 1) := by decide +kernel
set_option maxRecDepth 20000 in
theorem ggX4_kindsOf_X4_checkModel : GoodIn wsX4_kindsOf wsX4_checkModel := goodIn_ca (goodIn_r _ [5, 6, 7, 8, 36, 37, 38, 39, 40, 41, 42, 43] (by decide +kernel) (by decide +kernel)) (goodIn_sub (fun _ h => List.mem_cons_of_mem _ (List.mem_append_right _ h)) (by decide +kernel))
set_option maxRecDepth 20000 in
theorem gX4_kindsOf_X4_checkModel : GoodIn wsX4_kindsOf (wsV RX4 118 RX4 yX4_checkModel wsX4_checkModel) := goodIn_app (goodIn_of _ (by decide +kernel)) ggX4_kindsOf_X4_checkModel
set_option maxRecDepth 20000 in
theorem ggX4_kindsOf_X4_kindsCountedFor : GoodIn wsX4_kindsOf wsX4_kindsCountedFor := goodIn_ca (goodIn_r _ [12, 8, 13, 14, 15, 4, 16, 17, 18, 19, 20, 21, 22, 23, 24, 25, 26, 27, 6, 7, 28, 1, 2, 3, 5, 29, 30, 31, 32, 33, 34, 35, 36, 37, 38, 39, 40, 41, 42, 43, 44, 45, 46, 47, 48, 49, 50] (by decide +kernel) (by decide +kernel)) (goodIn_sub (fun _ h => List.mem_cons_of_mem _ (List.mem_append_right _ h)) (by decide +kernel))
set_option maxRecDepth 20000 in
theorem gX4_kindsOf_X4_kindsCountedFor : GoodIn wsX4_kindsOf (wsV RX4 187 RX4 yX4_kindsCountedFor wsX4_kindsCountedFor) := goodIn_app (goodIn_of _ (by decide +kernel)) ggX4_kindsOf_X4_kindsCountedFor
theorem dX4_kindsOf_0 : decode cX4_kindsOf 0 = .ok (.aload_n 0, 1) := by decide +kernel
theorem dX4_kindsOf_1 : decode cX4_kindsOf 1 = .ok (.iload_n 1, 1) := by decide +kernel
theorem dX4_kindsOf_2 : decode cX4_kindsOf 2 = .ok (.invokevirtual 118, 3) := by decide +kernel
theorem dX4_kindsOf_5 : decode cX4_kindsOf 5 = .ok (.aload_n 0, 1) := by decide +kernel
theorem dX4_kindsOf_6 : decode cX4_kindsOf 6 = .ok (.iload_n 1, 1) := by decide +kernel
theorem dX4_kindsOf_7 : decode cX4_kindsOf 7 = .ok (.invokevirtual 187, 3) := by decide +kernel
theorem dX4_kindsOf_10 : decode cX4_kindsOf 10 = .ok (.ireturn, 1) := by decide +kernel
set_option maxRecDepth 20000 in
theorem ggX4_mayFold_X4_checkPupil : GoodIn wsX4_mayFold wsX4_checkPupil := goodIn_ca (goodIn_r _ [6, 7, 8] (by decide +kernel) (by decide +kernel)) (goodIn_sub (fun _ h => List.mem_cons_of_mem _ (List.mem_append_right _ h)) (by decide +kernel))
set_option maxRecDepth 20000 in
theorem gX4_mayFold_X4_checkPupil : GoodIn wsX4_mayFold (wsV RX4 136 RX4 yX4_checkPupil wsX4_checkPupil) := goodIn_app (goodIn_of _ (by decide +kernel)) ggX4_mayFold_X4_checkPupil
set_option maxRecDepth 20000 in
theorem ggX4_mayFold_X4_checkModel : GoodIn wsX4_mayFold wsX4_checkModel := goodIn_ca (goodIn_r _ [12, 7, 8, 13, 44, 45, 46, 47, 48, 49, 50, 51] (by decide +kernel) (by decide +kernel)) (goodIn_sub (fun _ h => List.mem_cons_of_mem _ (List.mem_append_right _ h)) (by decide +kernel))
set_option maxRecDepth 20000 in
theorem gX4_mayFold_X4_checkModel : GoodIn wsX4_mayFold (wsV RX4 118 RX4 yX4_checkModel wsX4_checkModel) := goodIn_app (goodIn_of _ (by decide +kernel)) ggX4_mayFold_X4_checkModel
set_option maxRecDepth 20000 in
theorem ggX4_mayFold_X4_kindsCountedFor : GoodIn wsX4_mayFold wsX4_kindsCountedFor := goodIn_ca (goodIn_r _ [17, 13, 18, 19, 20, 5, 21, 22, 23, 24, 25, 26, 27, 28, 29, 30, 31, 32, 7, 8, 33, 9, 10, 11, 12, 34, 35, 36, 37, 38, 39, 40, 44, 45, 46, 47, 48, 49, 50, 51, 52, 53, 54, 55, 56, 57, 58] (by decide +kernel) (by decide +kernel)) (goodIn_sub (fun _ h => List.mem_cons_of_mem _ (List.mem_append_right _ h)) (by decide +kernel))
set_option maxRecDepth 20000 in
theorem gX4_mayFold_X4_kindsCountedFor : GoodIn wsX4_mayFold (wsV RX4 187 RX4 yX4_kindsCountedFor wsX4_kindsCountedFor) := goodIn_app (goodIn_of _ (by decide +kernel)) ggX4_mayFold_X4_kindsCountedFor
set_option maxRecDepth 20000 in
theorem ggX4_mayFold_X4_lacksAny : GoodIn wsX4_mayFold wsX4_lacksAny := goodIn_r _ [43] (by decide +kernel) (by decide +kernel)
set_option maxRecDepth 20000 in
theorem gX4_mayFold_X4_lacksAny : GoodIn wsX4_mayFold (va_wsS RX4 104 yX4_lacksAny wsX4_lacksAny) := goodIn_app (goodIn_of _ (by decide +kernel)) ggX4_mayFold_X4_lacksAny
theorem dX4_mayFold_0 : decode cX4_mayFold 0 = .ok (.aload_n 0, 1) := by decide +kernel
theorem dX4_mayFold_1 : decode cX4_mayFold 1 = .ok (.iload_n 1, 1) := by decide +kernel
theorem dX4_mayFold_2 : decode cX4_mayFold 2 = .ok (.invokevirtual 136, 3) := by decide +kernel
theorem dX4_mayFold_5 : decode cX4_mayFold 5 = .ok (.aload_n 0, 1) := by decide +kernel
theorem dX4_mayFold_6 : decode cX4_mayFold 6 = .ok (.iload_n 2, 1) := by decide +kernel
theorem dX4_mayFold_7 : decode cX4_mayFold 7 = .ok (.invokevirtual 118, 3) := by decide +kernel
theorem dX4_mayFold_10 : decode cX4_mayFold 10 = .ok (.aload_n 0, 1) := by decide +kernel
theorem dX4_mayFold_11 : decode cX4_mayFold 11 = .ok (.getfield 13, 3) := by decide +kernel
theorem dX4_mayFold_14 : decode cX4_mayFold 14 = .ok (.iload_n 1, 1) := by decide +kernel
theorem dX4_mayFold_15 : decode cX4_mayFold 15 = .ok (.iaload, 1) := by decide +kernel
theorem dX4_mayFold_16 : decode cX4_mayFold 16 = .ok (.aload_n 0, 1) := by decide +kernel
theorem dX4_mayFold_17 : decode cX4_mayFold 17 = .ok (.iload_n 2, 1) := by decide +kernel
theorem dX4_mayFold_18 : decode cX4_mayFold 18 = .ok (.invokevirtual 187, 3) := by decide +kernel
theorem dX4_mayFold_21 : decode cX4_mayFold 21 = .ok (.invokestatic 104, 3) := by decide +kernel
theorem dX4_mayFold_24 : decode cX4_mayFold 24 = .ok (.ifCond .ne 7, 3) := by decide +kernel
theorem dX4_mayFold_27 : decode cX4_mayFold 27 = .ok (.iconst 1, 1) := by decide +kernel
theorem dX4_mayFold_28 : decode cX4_mayFold 28 = .ok (.goto 4, 3) := by decide +kernel
theorem dX4_mayFold_31 : decode cX4_mayFold 31 = .ok (.iconst 0, 1) := by decide +kernel
theorem dX4_mayFold_32 : decode cX4_mayFold 32 = .ok (.ireturn, 1) := by decide +kernel
set_option maxRecDepth 20000 in
theorem ggX4_lessons_X4_checkPupil : GoodIn wsX4_lessons wsX4_checkPupil := goodIn_ca (goodIn_r _ [7, 8, 9] (by decide +kernel) (by decide +kernel)) (goodIn_sub (fun _ h => List.mem_cons_of_mem _ (List.mem_append_right _ h)) (by decide +kernel))
set_option maxRecDepth 20000 in
theorem gX4_lessons_X4_checkPupil : GoodIn wsX4_lessons (wsV RX4 136 RX4 yX4_checkPupil wsX4_checkPupil) := goodIn_app (goodIn_of _ (by decide +kernel)) ggX4_lessons_X4_checkPupil
set_option maxRecDepth 20000 in
theorem ggX4_lessons_X4_checkModel : GoodIn wsX4_lessons wsX4_checkModel := goodIn_ca (goodIn_r _ [13, 8, 9, 14, 49, 50, 51, 52, 53, 54, 55, 56] (by decide +kernel) (by decide +kernel)) (goodIn_sub (fun _ h => List.mem_cons_of_mem _ (List.mem_append_right _ h)) (by decide +kernel))
set_option maxRecDepth 20000 in
theorem gX4_lessons_X4_checkModel : GoodIn wsX4_lessons (wsV RX4 118 RX4 yX4_checkModel wsX4_checkModel) := goodIn_app (goodIn_of _ (by decide +kernel)) ggX4_lessons_X4_checkModel
set_option maxRecDepth 20000 in
theorem ggX4_lessons_X4_kindsCountedFor : GoodIn wsX4_lessons wsX4_kindsCountedFor := goodIn_ca (goodIn_r _ [18, 14, 19, 20, 21, 6, 22, 23, 24, 25, 26, 27, 28, 29, 30, 31, 32, 33, 8, 9, 34, 10, 11, 12, 13, 35, 36, 37, 38, 39, 40, 41, 49, 50, 51, 52, 53, 54, 55, 56, 57, 58, 59, 60, 61, 62, 63] (by decide +kernel) (by decide +kernel)) (goodIn_sub (fun _ h => List.mem_cons_of_mem _ (List.mem_append_right _ h)) (by decide +kernel))
set_option maxRecDepth 20000 in
theorem gX4_lessons_X4_kindsCountedFor : GoodIn wsX4_lessons (wsV RX4 187 RX4 yX4_kindsCountedFor wsX4_kindsCountedFor) := goodIn_app (goodIn_of _ (by decide +kernel)) ggX4_lessons_X4_kindsCountedFor
set_option maxRecDepth 20000 in
theorem ggX4_lessons_X4_reached : GoodIn wsX4_lessons wsX4_reached := goodIn_r _ [26, 27, 28, 6, 29] (by decide +kernel) (by decide +kernel)
set_option maxRecDepth 20000 in
theorem gX4_lessons_X4_reached : GoodIn wsX4_lessons (va_wsS RX4 57 yX4_reached wsX4_reached) := goodIn_app (goodIn_of _ (by decide +kernel)) ggX4_lessons_X4_reached
set_option maxRecDepth 20000 in
theorem ggX4_lessons_J6_bitCount_0f7a4 : GoodIn wsX4_lessons wsJ6_bitCount_0f7a4 := goodIn_r _ [45, 46, 47, 48] (by decide +kernel) (by decide +kernel)
set_option maxRecDepth 20000 in
theorem gX4_lessons_J6_bitCount_0f7a4 : GoodIn wsX4_lessons (va_wsS RX4 141 yJ6_bitCount_0f7a4 wsJ6_bitCount_0f7a4) := goodIn_app (goodIn_of _ (by decide +kernel)) ggX4_lessons_J6_bitCount_0f7a4
theorem dX4_lessons_0 : decode cX4_lessons 0 = .ok (.aload_n 0, 1) := by decide +kernel
theorem dX4_lessons_1 : decode cX4_lessons 1 = .ok (.iload_n 1, 1) := by decide +kernel
theorem dX4_lessons_2 : decode cX4_lessons 2 = .ok (.invokevirtual 136, 3) := by decide +kernel
theorem dX4_lessons_5 : decode cX4_lessons 5 = .ok (.aload_n 0, 1) := by decide +kernel
theorem dX4_lessons_6 : decode cX4_lessons 6 = .ok (.iload_n 2, 1) := by decide +kernel
theorem dX4_lessons_7 : decode cX4_lessons 7 = .ok (.invokevirtual 118, 3) := by decide +kernel
theorem dX4_lessons_10 : decode cX4_lessons 10 = .ok (.sipush 255, 3) := by decide +kernel
theorem dX4_lessons_13 : decode cX4_lessons 13 = .ok (.aload_n 0, 1) := by decide +kernel
theorem dX4_lessons_14 : decode cX4_lessons 14 = .ok (.getfield 13, 3) := by decide +kernel
theorem dX4_lessons_17 : decode cX4_lessons 17 = .ok (.iload_n 1, 1) := by decide +kernel
theorem dX4_lessons_18 : decode cX4_lessons 18 = .ok (.iaload, 1) := by decide +kernel
theorem dX4_lessons_19 : decode cX4_lessons 19 = .ok (.iconst (-1), 1) := by decide +kernel
theorem dX4_lessons_20 : decode cX4_lessons 20 = .ok (.ixor, 1) := by decide +kernel
theorem dX4_lessons_21 : decode cX4_lessons 21 = .ok (.iand, 1) := by decide +kernel
theorem dX4_lessons_22 : decode cX4_lessons 22 = .ok (.istore_n 3, 1) := by decide +kernel
theorem dX4_lessons_23 : decode cX4_lessons 23 = .ok (.aload_n 0, 1) := by decide +kernel
theorem dX4_lessons_24 : decode cX4_lessons 24 = .ok (.iload_n 2, 1) := by decide +kernel
theorem dX4_lessons_25 : decode cX4_lessons 25 = .ok (.invokevirtual 187, 3) := by decide +kernel
theorem dX4_lessons_28 : decode cX4_lessons 28 = .ok (.aload_n 0, 1) := by decide +kernel
theorem dX4_lessons_29 : decode cX4_lessons 29 = .ok (.getfield 9, 3) := by decide +kernel
theorem dX4_lessons_32 : decode cX4_lessons 32 = .ok (.iload_n 3, 1) := by decide +kernel
theorem dX4_lessons_33 : decode cX4_lessons 33 = .ok (.invokestatic 57, 3) := by decide +kernel
theorem dX4_lessons_36 : decode cX4_lessons 36 = .ok (.invokestatic 141, 3) := by decide +kernel
theorem dX4_lessons_39 : decode cX4_lessons 39 = .ok (.ireturn, 1) := by decide +kernel
set_option maxRecDepth 20000 in
theorem ggX4_credit_X4_checkAuthor : GoodIn wsX4_credit wsX4_checkAuthor := goodIn_ca (goodIn_r _ [6, 7, 8] (by decide +kernel) (by decide +kernel)) (goodIn_sub (fun _ h => List.mem_cons_of_mem _ (List.mem_append_right _ h)) (by decide +kernel))
set_option maxRecDepth 20000 in
theorem gX4_credit_X4_checkAuthor : GoodIn wsX4_credit (wsV RX4 67 RX4 yX4_checkAuthor wsX4_checkAuthor) := goodIn_app (goodIn_of _ (by decide +kernel)) ggX4_credit_X4_checkAuthor
set_option maxRecDepth 20000 in
theorem ggX4_credit_X4_modelsOf : GoodIn wsX4_credit wsX4_modelsOf := goodIn_ca (goodIn_r _ [12, 1, 13, 14, 15, 16, 5, 17, 7, 8, 18, 19, 20, 21, 22, 34, 35, 36, 37, 38, 39, 40, 41, 42, 43, 44, 45, 46, 47, 48] (by decide +kernel) (by decide +kernel)) (goodIn_sub (fun _ h => List.mem_cons_of_mem _ (List.mem_append_right _ h)) (by decide +kernel))
set_option maxRecDepth 20000 in
theorem gX4_credit_X4_modelsOf : GoodIn wsX4_credit (wsV RX4 190 RX4 yX4_modelsOf wsX4_modelsOf) := goodIn_app (goodIn_of _ (by decide +kernel)) ggX4_credit_X4_modelsOf
set_option maxRecDepth 20000 in
theorem ggX4_credit_X4_holds : GoodIn wsX4_credit wsX4_holds := goodIn_r _ [25] (by decide +kernel) (by decide +kernel)
set_option maxRecDepth 20000 in
theorem gX4_credit_X4_holds : GoodIn wsX4_credit (va_wsS RX4 61 yX4_holds wsX4_holds) := goodIn_app (goodIn_of _ (by decide +kernel)) ggX4_credit_X4_holds
set_option maxRecDepth 20000 in
theorem ggX4_credit_X4_modelsCountedFor : GoodIn wsX4_credit wsX4_modelsCountedFor := goodIn_r _ [29, 30, 31, 32, 5, 33, 23, 24, 25, 34, 35, 36, 37, 38, 39, 40, 41] (by decide +kernel) (by decide +kernel)
set_option maxRecDepth 20000 in
theorem gX4_credit_X4_modelsCountedFor : GoodIn wsX4_credit (wsV RX4 121 RX4 yX4_modelsCountedFor wsX4_modelsCountedFor) := goodIn_app (goodIn_of _ (by decide +kernel)) ggX4_credit_X4_modelsCountedFor
theorem dX4_credit_0 : decode cX4_credit 0 = .ok (.aload_n 0, 1) := by decide +kernel
theorem dX4_credit_1 : decode cX4_credit 1 = .ok (.iload_n 1, 1) := by decide +kernel
theorem dX4_credit_2 : decode cX4_credit 2 = .ok (.invokevirtual 67, 3) := by decide +kernel
theorem dX4_credit_5 : decode cX4_credit 5 = .ok (.aload_n 0, 1) := by decide +kernel
theorem dX4_credit_6 : decode cX4_credit 6 = .ok (.iload_n 1, 1) := by decide +kernel
theorem dX4_credit_7 : decode cX4_credit 7 = .ok (.invokevirtual 190, 3) := by decide +kernel
theorem dX4_credit_10 : decode cX4_credit 10 = .ok (.istore_n 2, 1) := by decide +kernel
theorem dX4_credit_11 : decode cX4_credit 11 = .ok (.iconst 0, 1) := by decide +kernel
theorem dX4_credit_12 : decode cX4_credit 12 = .ok (.istore_n 3, 1) := by decide +kernel
theorem dX4_credit_13 : decode cX4_credit 13 = .ok (.iconst 0, 1) := by decide +kernel
theorem dX4_credit_14 : decode cX4_credit 14 = .ok (.istore 4, 2) := by decide +kernel
theorem dX4_credit_16 : decode cX4_credit 16 = .ok (.iload 4, 2) := by decide +kernel
theorem dX4_credit_18 : decode cX4_credit 18 = .ok (.aload_n 0, 1) := by decide +kernel
theorem dX4_credit_19 : decode cX4_credit 19 = .ok (.getfield 25, 3) := by decide +kernel
theorem dX4_credit_22 : decode cX4_credit 22 = .ok (.if_icmp .ge 32, 3) := by decide +kernel
theorem dX4_credit_25 : decode cX4_credit 25 = .ok (.iload_n 2, 1) := by decide +kernel
theorem dX4_credit_26 : decode cX4_credit 26 = .ok (.iload 4, 2) := by decide +kernel
theorem dX4_credit_28 : decode cX4_credit 28 = .ok (.invokestatic 61, 3) := by decide +kernel
theorem dX4_credit_31 : decode cX4_credit 31 = .ok (.ifCond .ne 17, 3) := by decide +kernel
theorem dX4_credit_34 : decode cX4_credit 34 = .ok (.aload_n 0, 1) := by decide +kernel
theorem dX4_credit_35 : decode cX4_credit 35 = .ok (.iload 4, 2) := by decide +kernel
theorem dX4_credit_37 : decode cX4_credit 37 = .ok (.invokevirtual 121, 3) := by decide +kernel
theorem dX4_credit_40 : decode cX4_credit 40 = .ok (.iload_n 2, 1) := by decide +kernel
theorem dX4_credit_41 : decode cX4_credit 41 = .ok (.iand, 1) := by decide +kernel
theorem dX4_credit_42 : decode cX4_credit 42 = .ok (.ifCond .eq 6, 3) := by decide +kernel
theorem dX4_credit_45 : decode cX4_credit 45 = .ok (.iinc 3 1, 3) := by decide +kernel
theorem dX4_credit_48 : decode cX4_credit 48 = .ok (.iinc 4 1, 3) := by decide +kernel
theorem dX4_credit_51 : decode cX4_credit 51 = .ok (.goto (-35), 3) := by decide +kernel
theorem dX4_credit_54 : decode cX4_credit 54 = .ok (.iload_n 3, 1) := by decide +kernel
theorem dX4_credit_55 : decode cX4_credit 55 = .ok (.ireturn, 1) := by decide +kernel
set_option maxRecDepth 20000 in
theorem ggX4_fewestPieces_X1_fewestForRoll : GoodIn wsX4_fewestPieces wsX1_fewestForRoll := goodIn_r _ [6, 7, 8, 9, 10, 11, 5, 12, 13, 14, 15, 16, 17, 18, 19, 20, 21, 22, 23, 24, 33, 34, 35, 36] (by decide +kernel) (by decide +kernel)
set_option maxRecDepth 20000 in
theorem gX4_fewestPieces_X1_fewestForRoll : GoodIn wsX4_fewestPieces (wsV RX4 193 RX1 yX1_fewestForRoll wsX1_fewestForRoll) := goodIn_app (goodIn_of _ (by decide +kernel)) ggX4_fewestPieces_X1_fewestForRoll
theorem dX4_fewestPieces_0 : decode cX4_fewestPieces 0 = .ok (.aload_n 0, 1) := by decide +kernel
theorem dX4_fewestPieces_1 : decode cX4_fewestPieces 1 = .ok (.getfield 42, 3) := by decide +kernel
theorem dX4_fewestPieces_4 : decode cX4_fewestPieces 4 = .ok (.invokevirtual 193, 3) := by decide +kernel
theorem dX4_fewestPieces_7 : decode cX4_fewestPieces 7 = .ok (.ireturn, 1) := by decide +kernel
set_option maxRecDepth 20000 in
theorem ggX4_ways_X1_waysForRoll : GoodIn wsX4_ways wsX1_waysForRoll := goodIn_r _ [6, 7, 8, 9, 10, 11, 5, 12, 13, 14, 15, 16, 17, 18, 19, 20, 21, 30, 31, 32, 33] (by decide +kernel) (by decide +kernel)
set_option maxRecDepth 20000 in
theorem gX4_ways_X1_waysForRoll : GoodIn wsX4_ways (wsV RX4 196 RX1 yX1_waysForRoll wsX1_waysForRoll) := goodIn_app (goodIn_of _ (by decide +kernel)) ggX4_ways_X1_waysForRoll
theorem dX4_ways_0 : decode cX4_ways 0 = .ok (.aload_n 0, 1) := by decide +kernel
theorem dX4_ways_1 : decode cX4_ways 1 = .ok (.getfield 42, 3) := by decide +kernel
theorem dX4_ways_4 : decode cX4_ways 4 = .ok (.invokevirtual 196, 3) := by decide +kernel
theorem dX4_ways_7 : decode cX4_ways 7 = .ok (.ireturn, 1) := by decide +kernel
set_option maxRecDepth 20000 in
theorem ggX4_leastRest_X1_restOfRoll : GoodIn wsX4_leastRest wsX1_restOfRoll := goodIn_r _ [6, 7, 8, 9, 10, 11, 5, 12, 13, 14, 15, 16, 17, 18, 19, 20, 21, 22, 23, 24, 33, 34, 35, 36] (by decide +kernel) (by decide +kernel)
set_option maxRecDepth 20000 in
theorem gX4_leastRest_X1_restOfRoll : GoodIn wsX4_leastRest (wsV RX4 199 RX1 yX1_restOfRoll wsX1_restOfRoll) := goodIn_app (goodIn_of _ (by decide +kernel)) ggX4_leastRest_X1_restOfRoll
theorem dX4_leastRest_0 : decode cX4_leastRest 0 = .ok (.aload_n 0, 1) := by decide +kernel
theorem dX4_leastRest_1 : decode cX4_leastRest 1 = .ok (.getfield 42, 3) := by decide +kernel
theorem dX4_leastRest_4 : decode cX4_leastRest 4 = .ok (.invokevirtual 199, 3) := by decide +kernel
theorem dX4_leastRest_7 : decode cX4_leastRest 7 = .ok (.ireturn, 1) := by decide +kernel
theorem dX4_checkKind_0 : decode cX4_checkKind 0 = .ok (.iload_n 1, 1) := by decide +kernel
theorem dX4_checkKind_1 : decode cX4_checkKind 1 = .ok (.ifCond .lt 9, 3) := by decide +kernel
theorem dX4_checkKind_4 : decode cX4_checkKind 4 = .ok (.iload_n 1, 1) := by decide +kernel
theorem dX4_checkKind_5 : decode cX4_checkKind 5 = .ok (.bipush 8, 2) := by decide +kernel
theorem dX4_checkKind_7 : decode cX4_checkKind 7 = .ok (.if_icmp .lt 13, 3) := by decide +kernel
theorem dX4_checkKind_10 : decode cX4_checkKind 10 = .ok (.new 149, 3) := by decide +kernel
theorem dX4_checkKind_13 : decode cX4_checkKind 13 = .ok (.dup, 1) := by decide +kernel
theorem dX4_checkKind_14 : decode cX4_checkKind 14 = .ok (.ldc 202, 2) := by decide +kernel
theorem dX4_checkKind_16 : decode cX4_checkKind 16 = .ok (.invokespecial 153, 3) := by decide +kernel
theorem dX4_checkKind_19 : decode cX4_checkKind 19 = .ok (.athrow, 1) := by decide +kernel
theorem dX4_checkKind_20 : decode cX4_checkKind 20 = .ok (.return_, 1) := by decide +kernel
theorem dX4_checkAuthor_0 : decode cX4_checkAuthor 0 = .ok (.iload_n 1, 1) := by decide +kernel
theorem dX4_checkAuthor_1 : decode cX4_checkAuthor 1 = .ok (.ifCond .lt 9, 3) := by decide +kernel
theorem dX4_checkAuthor_4 : decode cX4_checkAuthor 4 = .ok (.iload_n 1, 1) := by decide +kernel
theorem dX4_checkAuthor_5 : decode cX4_checkAuthor 5 = .ok (.bipush 10, 2) := by decide +kernel
theorem dX4_checkAuthor_7 : decode cX4_checkAuthor 7 = .ok (.if_icmp .lt 13, 3) := by decide +kernel
theorem dX4_checkAuthor_10 : decode cX4_checkAuthor 10 = .ok (.new 149, 3) := by decide +kernel
theorem dX4_checkAuthor_13 : decode cX4_checkAuthor 13 = .ok (.dup, 1) := by decide +kernel
theorem dX4_checkAuthor_14 : decode cX4_checkAuthor 14 = .ok (.ldc 204, 2) := by decide +kernel
theorem dX4_checkAuthor_16 : decode cX4_checkAuthor 16 = .ok (.invokespecial 153, 3) := by decide +kernel
theorem dX4_checkAuthor_19 : decode cX4_checkAuthor 19 = .ok (.athrow, 1) := by decide +kernel
theorem dX4_checkAuthor_20 : decode cX4_checkAuthor 20 = .ok (.return_, 1) := by decide +kernel
theorem dX4_checkPupil_0 : decode cX4_checkPupil 0 = .ok (.iload_n 1, 1) := by decide +kernel
theorem dX4_checkPupil_1 : decode cX4_checkPupil 1 = .ok (.ifCond .lt 9, 3) := by decide +kernel
theorem dX4_checkPupil_4 : decode cX4_checkPupil 4 = .ok (.iload_n 1, 1) := by decide +kernel
theorem dX4_checkPupil_5 : decode cX4_checkPupil 5 = .ok (.bipush 6, 2) := by decide +kernel
theorem dX4_checkPupil_7 : decode cX4_checkPupil 7 = .ok (.if_icmp .lt 13, 3) := by decide +kernel
theorem dX4_checkPupil_10 : decode cX4_checkPupil 10 = .ok (.new 149, 3) := by decide +kernel
theorem dX4_checkPupil_13 : decode cX4_checkPupil 13 = .ok (.dup, 1) := by decide +kernel
theorem dX4_checkPupil_14 : decode cX4_checkPupil 14 = .ok (.ldc 206, 2) := by decide +kernel
theorem dX4_checkPupil_16 : decode cX4_checkPupil 16 = .ok (.invokespecial 153, 3) := by decide +kernel
theorem dX4_checkPupil_19 : decode cX4_checkPupil 19 = .ok (.athrow, 1) := by decide +kernel
theorem dX4_checkPupil_20 : decode cX4_checkPupil 20 = .ok (.return_, 1) := by decide +kernel
theorem dX4_checkModel_0 : decode cX4_checkModel 0 = .ok (.iload_n 1, 1) := by decide +kernel
theorem dX4_checkModel_1 : decode cX4_checkModel 1 = .ok (.ifCond .lt 11, 3) := by decide +kernel
theorem dX4_checkModel_4 : decode cX4_checkModel 4 = .ok (.iload_n 1, 1) := by decide +kernel
theorem dX4_checkModel_5 : decode cX4_checkModel 5 = .ok (.aload_n 0, 1) := by decide +kernel
theorem dX4_checkModel_6 : decode cX4_checkModel 6 = .ok (.getfield 25, 3) := by decide +kernel
theorem dX4_checkModel_9 : decode cX4_checkModel 9 = .ok (.if_icmp .lt 13, 3) := by decide +kernel
theorem dX4_checkModel_12 : decode cX4_checkModel 12 = .ok (.new 149, 3) := by decide +kernel
theorem dX4_checkModel_15 : decode cX4_checkModel 15 = .ok (.dup, 1) := by decide +kernel
theorem dX4_checkModel_16 : decode cX4_checkModel 16 = .ok (.ldc 208, 2) := by decide +kernel
theorem dX4_checkModel_18 : decode cX4_checkModel 18 = .ok (.invokespecial 153, 3) := by decide +kernel
theorem dX4_checkModel_21 : decode cX4_checkModel 21 = .ok (.athrow, 1) := by decide +kernel
theorem dX4_checkModel_22 : decode cX4_checkModel 22 = .ok (.return_, 1) := by decide +kernel
theorem dX4_checkCell_0 : decode cX4_checkCell 0 = .ok (.iload_n 2, 1) := by decide +kernel
theorem dX4_checkCell_1 : decode cX4_checkCell 1 = .ok (.ifCond .lt 11, 3) := by decide +kernel
theorem dX4_checkCell_4 : decode cX4_checkCell 4 = .ok (.iload_n 2, 1) := by decide +kernel
theorem dX4_checkCell_5 : decode cX4_checkCell 5 = .ok (.aload_n 1, 1) := by decide +kernel
theorem dX4_checkCell_6 : decode cX4_checkCell 6 = .ok (.getfield 177, 3) := by decide +kernel
theorem dX4_checkCell_9 : decode cX4_checkCell 9 = .ok (.if_icmp .lt 13, 3) := by decide +kernel
theorem dX4_checkCell_12 : decode cX4_checkCell 12 = .ok (.new 149, 3) := by decide +kernel
theorem dX4_checkCell_15 : decode cX4_checkCell 15 = .ok (.dup, 1) := by decide +kernel
theorem dX4_checkCell_16 : decode cX4_checkCell 16 = .ok (.ldc 210, 2) := by decide +kernel
theorem dX4_checkCell_18 : decode cX4_checkCell 18 = .ok (.invokespecial 153, 3) := by decide +kernel
theorem dX4_checkCell_21 : decode cX4_checkCell 21 = .ok (.athrow, 1) := by decide +kernel
theorem dX4_checkCell_22 : decode cX4_checkCell 22 = .ok (.return_, 1) := by decide +kernel
set_option maxRecDepth 20000 in
theorem ggX4_modelAt_X4_checkModel : GoodIn wsX4_modelAt wsX4_checkModel := goodIn_ca (goodIn_r _ [8, 1, 2, 9, 10, 11, 12, 13, 14, 15, 16, 17] (by decide +kernel) (by decide +kernel)) (goodIn_sub (fun _ h => List.mem_cons_of_mem _ (List.mem_append_right _ h)) (by decide +kernel))
set_option maxRecDepth 20000 in
theorem gX4_modelAt_X4_checkModel : GoodIn wsX4_modelAt (wsV RX4 118 RX4 yX4_checkModel wsX4_checkModel) := goodIn_app (goodIn_of _ (by decide +kernel)) ggX4_modelAt_X4_checkModel
theorem dX4_modelAt_0 : decode cX4_modelAt 0 = .ok (.aload_n 0, 1) := by decide +kernel
theorem dX4_modelAt_1 : decode cX4_modelAt 1 = .ok (.iload_n 1, 1) := by decide +kernel
theorem dX4_modelAt_2 : decode cX4_modelAt 2 = .ok (.invokevirtual 118, 3) := by decide +kernel
theorem dX4_modelAt_5 : decode cX4_modelAt 5 = .ok (.aload_n 0, 1) := by decide +kernel
theorem dX4_modelAt_6 : decode cX4_modelAt 6 = .ok (.getfield 18, 3) := by decide +kernel
theorem dX4_modelAt_9 : decode cX4_modelAt 9 = .ok (.iload_n 1, 1) := by decide +kernel
theorem dX4_modelAt_10 : decode cX4_modelAt 10 = .ok (.aaload, 1) := by decide +kernel
theorem dX4_modelAt_11 : decode cX4_modelAt 11 = .ok (.astore_n 2, 1) := by decide +kernel
theorem dX4_modelAt_12 : decode cX4_modelAt 12 = .ok (.aload_n 2, 1) := by decide +kernel
theorem dX4_modelAt_13 : decode cX4_modelAt 13 = .ok (.ifnonnull 13, 3) := by decide +kernel
theorem dX4_modelAt_16 : decode cX4_modelAt 16 = .ok (.new 149, 3) := by decide +kernel
theorem dX4_modelAt_19 : decode cX4_modelAt 19 = .ok (.dup, 1) := by decide +kernel
theorem dX4_modelAt_20 : decode cX4_modelAt 20 = .ok (.ldc 208, 2) := by decide +kernel
theorem dX4_modelAt_22 : decode cX4_modelAt 22 = .ok (.invokespecial 153, 3) := by decide +kernel
theorem dX4_modelAt_25 : decode cX4_modelAt 25 = .ok (.athrow, 1) := by decide +kernel
theorem dX4_modelAt_26 : decode cX4_modelAt 26 = .ok (.aload_n 2, 1) := by decide +kernel
theorem dX4_modelAt_27 : decode cX4_modelAt 27 = .ok (.areturn, 1) := by decide +kernel
set_option maxRecDepth 20000 in
theorem ggX4_modelsOf_X4_modelAt : GoodIn wsX4_modelsOf wsX4_modelAt := goodIn_ca (goodIn_r _ [7, 8, 9, 10, 11, 12, 13, 6, 14, 1, 15, 16, 17, 18, 19, 20, 21, 22] (by decide +kernel) (by decide +kernel)) (goodIn_sub (fun _ h => List.mem_cons_of_mem _ (List.mem_append_right _ h)) (by decide +kernel))
set_option maxRecDepth 20000 in
theorem gX4_modelsOf_X4_modelAt : GoodIn wsX4_modelsOf (wsV RX4 80 RX4 yX4_modelAt wsX4_modelAt) := goodIn_app (goodIn_of _ (by decide +kernel)) ggX4_modelsOf_X4_modelAt
theorem dX4_modelsOf_0 : decode cX4_modelsOf 0 = .ok (.iconst 0, 1) := by decide +kernel
theorem dX4_modelsOf_1 : decode cX4_modelsOf 1 = .ok (.istore_n 2, 1) := by decide +kernel
theorem dX4_modelsOf_2 : decode cX4_modelsOf 2 = .ok (.iconst 0, 1) := by decide +kernel
theorem dX4_modelsOf_3 : decode cX4_modelsOf 3 = .ok (.istore_n 3, 1) := by decide +kernel
theorem dX4_modelsOf_4 : decode cX4_modelsOf 4 = .ok (.iload_n 3, 1) := by decide +kernel
theorem dX4_modelsOf_5 : decode cX4_modelsOf 5 = .ok (.aload_n 0, 1) := by decide +kernel
theorem dX4_modelsOf_6 : decode cX4_modelsOf 6 = .ok (.getfield 25, 3) := by decide +kernel
theorem dX4_modelsOf_9 : decode cX4_modelsOf 9 = .ok (.if_icmp .ge 27, 3) := by decide +kernel
theorem dX4_modelsOf_12 : decode cX4_modelsOf 12 = .ok (.aload_n 0, 1) := by decide +kernel
theorem dX4_modelsOf_13 : decode cX4_modelsOf 13 = .ok (.iload_n 3, 1) := by decide +kernel
theorem dX4_modelsOf_14 : decode cX4_modelsOf 14 = .ok (.invokevirtual 80, 3) := by decide +kernel
theorem dX4_modelsOf_17 : decode cX4_modelsOf 17 = .ok (.getfield 212, 3) := by decide +kernel
theorem dX4_modelsOf_20 : decode cX4_modelsOf 20 = .ok (.iload_n 1, 1) := by decide +kernel
theorem dX4_modelsOf_21 : decode cX4_modelsOf 21 = .ok (.if_icmp .ne 9, 3) := by decide +kernel
theorem dX4_modelsOf_24 : decode cX4_modelsOf 24 = .ok (.iload_n 2, 1) := by decide +kernel
theorem dX4_modelsOf_25 : decode cX4_modelsOf 25 = .ok (.iconst 1, 1) := by decide +kernel
theorem dX4_modelsOf_26 : decode cX4_modelsOf 26 = .ok (.iload_n 3, 1) := by decide +kernel
theorem dX4_modelsOf_27 : decode cX4_modelsOf 27 = .ok (.ishl, 1) := by decide +kernel
theorem dX4_modelsOf_28 : decode cX4_modelsOf 28 = .ok (.ior, 1) := by decide +kernel
theorem dX4_modelsOf_29 : decode cX4_modelsOf 29 = .ok (.istore_n 2, 1) := by decide +kernel
theorem dX4_modelsOf_30 : decode cX4_modelsOf 30 = .ok (.iinc 3 1, 3) := by decide +kernel
theorem dX4_modelsOf_33 : decode cX4_modelsOf 33 = .ok (.goto (-29), 3) := by decide +kernel
theorem dX4_modelsOf_36 : decode cX4_modelsOf 36 = .ok (.iload_n 2, 1) := by decide +kernel
theorem dX4_modelsOf_37 : decode cX4_modelsOf 37 = .ok (.ireturn, 1) := by decide +kernel
set_option maxRecDepth 20000 in
theorem ggX4_modelsCountedFor_X4_reached : GoodIn wsX4_modelsCountedFor wsX4_reached := goodIn_r _ [5, 6, 7, 4, 8] (by decide +kernel) (by decide +kernel)
set_option maxRecDepth 20000 in
theorem gX4_modelsCountedFor_X4_reached : GoodIn wsX4_modelsCountedFor (va_wsS RX4 57 yX4_reached wsX4_reached) := goodIn_app (goodIn_of _ (by decide +kernel)) ggX4_modelsCountedFor_X4_reached
theorem dX4_modelsCountedFor_0 : decode cX4_modelsCountedFor 0 = .ok (.iconst 1, 1) := by decide +kernel
theorem dX4_modelsCountedFor_1 : decode cX4_modelsCountedFor 1 = .ok (.iload_n 1, 1) := by decide +kernel
theorem dX4_modelsCountedFor_2 : decode cX4_modelsCountedFor 2 = .ok (.ishl, 1) := by decide +kernel
theorem dX4_modelsCountedFor_3 : decode cX4_modelsCountedFor 3 = .ok (.aload_n 0, 1) := by decide +kernel
theorem dX4_modelsCountedFor_4 : decode cX4_modelsCountedFor 4 = .ok (.getfield 22, 3) := by decide +kernel
theorem dX4_modelsCountedFor_7 : decode cX4_modelsCountedFor 7 = .ok (.iconst (-1), 1) := by decide +kernel
theorem dX4_modelsCountedFor_8 : decode cX4_modelsCountedFor 8 = .ok (.invokestatic 57, 3) := by decide +kernel
theorem dX4_modelsCountedFor_11 : decode cX4_modelsCountedFor 11 = .ok (.ireturn, 1) := by decide +kernel
set_option maxRecDepth 20000 in
theorem ggX4_kindsCountedFor_X4_modelsCountedFor : GoodIn wsX4_kindsCountedFor wsX4_modelsCountedFor := goodIn_r _ [6, 7, 8, 9, 5, 10, 11, 12, 13, 32, 33, 34, 35, 36, 37, 38, 39] (by decide +kernel) (by decide +kernel)
set_option maxRecDepth 20000 in
theorem gX4_kindsCountedFor_X4_modelsCountedFor : GoodIn wsX4_kindsCountedFor (wsV RX4 121 RX4 yX4_modelsCountedFor wsX4_modelsCountedFor) := goodIn_app (goodIn_of _ (by decide +kernel)) ggX4_kindsCountedFor_X4_modelsCountedFor
set_option maxRecDepth 20000 in
theorem ggX4_kindsCountedFor_X4_holds : GoodIn wsX4_kindsCountedFor wsX4_holds := goodIn_r _ [13] (by decide +kernel) (by decide +kernel)
set_option maxRecDepth 20000 in
theorem gX4_kindsCountedFor_X4_holds : GoodIn wsX4_kindsCountedFor (va_wsS RX4 61 yX4_holds wsX4_holds) := goodIn_app (goodIn_of _ (by decide +kernel)) ggX4_kindsCountedFor_X4_holds
set_option maxRecDepth 20000 in
theorem ggX4_kindsCountedFor_X4_modelAt : GoodIn wsX4_kindsCountedFor wsX4_modelAt := goodIn_ca (goodIn_r _ [17, 18, 19, 20, 21, 22, 23, 5, 24, 1, 32, 33, 34, 35, 36, 37, 38, 39] (by decide +kernel) (by decide +kernel)) (goodIn_sub (fun _ h => List.mem_cons_of_mem _ (List.mem_append_right _ h)) (by decide +kernel))
set_option maxRecDepth 20000 in
theorem gX4_kindsCountedFor_X4_modelAt : GoodIn wsX4_kindsCountedFor (wsV RX4 80 RX4 yX4_modelAt wsX4_modelAt) := goodIn_app (goodIn_of _ (by decide +kernel)) ggX4_kindsCountedFor_X4_modelAt
set_option maxRecDepth 20000 in
theorem ggX4_kindsCountedFor_X2_ownKinds : GoodIn wsX4_kindsCountedFor wsX2_ownKinds := goodIn_r _ [29, 30, 31, 40, 41, 42, 43, 44, 45, 46] (by decide +kernel) (by decide +kernel)
set_option maxRecDepth 20000 in
theorem gX4_kindsCountedFor_X2_ownKinds : GoodIn wsX4_kindsCountedFor (wsV RX4 100 RX2 yX2_ownKinds wsX2_ownKinds) := goodIn_app (goodIn_of _ (by decide +kernel)) ggX4_kindsCountedFor_X2_ownKinds
theorem dX4_kindsCountedFor_0 : decode cX4_kindsCountedFor 0 = .ok (.aload_n 0, 1) := by decide +kernel
theorem dX4_kindsCountedFor_1 : decode cX4_kindsCountedFor 1 = .ok (.iload_n 1, 1) := by decide +kernel
theorem dX4_kindsCountedFor_2 : decode cX4_kindsCountedFor 2 = .ok (.invokevirtual 121, 3) := by decide +kernel
theorem dX4_kindsCountedFor_5 : decode cX4_kindsCountedFor 5 = .ok (.istore_n 2, 1) := by decide +kernel
theorem dX4_kindsCountedFor_6 : decode cX4_kindsCountedFor 6 = .ok (.iconst 0, 1) := by decide +kernel
theorem dX4_kindsCountedFor_7 : decode cX4_kindsCountedFor 7 = .ok (.istore_n 3, 1) := by decide +kernel
theorem dX4_kindsCountedFor_8 : decode cX4_kindsCountedFor 8 = .ok (.iconst 0, 1) := by decide +kernel
theorem dX4_kindsCountedFor_9 : decode cX4_kindsCountedFor 9 = .ok (.istore 4, 2) := by decide +kernel
theorem dX4_kindsCountedFor_11 : decode cX4_kindsCountedFor 11 = .ok (.iload 4, 2) := by decide +kernel
theorem dX4_kindsCountedFor_13 : decode cX4_kindsCountedFor 13 = .ok (.aload_n 0, 1) := by decide +kernel
theorem dX4_kindsCountedFor_14 : decode cX4_kindsCountedFor 14 = .ok (.getfield 25, 3) := by decide +kernel
theorem dX4_kindsCountedFor_17 : decode cX4_kindsCountedFor 17 = .ok (.if_icmp .ge 30, 3) := by decide +kernel
theorem dX4_kindsCountedFor_20 : decode cX4_kindsCountedFor 20 = .ok (.iload_n 2, 1) := by decide +kernel
theorem dX4_kindsCountedFor_21 : decode cX4_kindsCountedFor 21 = .ok (.iload 4, 2) := by decide +kernel
theorem dX4_kindsCountedFor_23 : decode cX4_kindsCountedFor 23 = .ok (.invokestatic 61, 3) := by decide +kernel
theorem dX4_kindsCountedFor_26 : decode cX4_kindsCountedFor 26 = .ok (.ifCond .eq 15, 3) := by decide +kernel
theorem dX4_kindsCountedFor_29 : decode cX4_kindsCountedFor 29 = .ok (.iload_n 3, 1) := by decide +kernel
theorem dX4_kindsCountedFor_30 : decode cX4_kindsCountedFor 30 = .ok (.aload_n 0, 1) := by decide +kernel
theorem dX4_kindsCountedFor_31 : decode cX4_kindsCountedFor 31 = .ok (.iload 4, 2) := by decide +kernel
theorem dX4_kindsCountedFor_33 : decode cX4_kindsCountedFor 33 = .ok (.invokevirtual 80, 3) := by decide +kernel
theorem dX4_kindsCountedFor_36 : decode cX4_kindsCountedFor 36 = .ok (.invokevirtual 100, 3) := by decide +kernel
theorem dX4_kindsCountedFor_39 : decode cX4_kindsCountedFor 39 = .ok (.ior, 1) := by decide +kernel
theorem dX4_kindsCountedFor_40 : decode cX4_kindsCountedFor 40 = .ok (.istore_n 3, 1) := by decide +kernel
theorem dX4_kindsCountedFor_41 : decode cX4_kindsCountedFor 41 = .ok (.iinc 4 1, 3) := by decide +kernel
theorem dX4_kindsCountedFor_44 : decode cX4_kindsCountedFor 44 = .ok (.goto (-33), 3) := by decide +kernel
theorem dX4_kindsCountedFor_47 : decode cX4_kindsCountedFor 47 = .ok (.iload_n 3, 1) := by decide +kernel
theorem dX4_kindsCountedFor_48 : decode cX4_kindsCountedFor 48 = .ok (.ireturn, 1) := by decide +kernel
theorem dX4_holds_0 : decode cX4_holds 0 = .ok (.iload_n 0, 1) := by decide +kernel
theorem dX4_holds_1 : decode cX4_holds 1 = .ok (.iload_n 1, 1) := by decide +kernel
theorem dX4_holds_2 : decode cX4_holds 2 = .ok (.ishr, 1) := by decide +kernel
theorem dX4_holds_3 : decode cX4_holds 3 = .ok (.iconst 1, 1) := by decide +kernel
theorem dX4_holds_4 : decode cX4_holds 4 = .ok (.iand, 1) := by decide +kernel
theorem dX4_holds_5 : decode cX4_holds 5 = .ok (.ifCond .eq 7, 3) := by decide +kernel
theorem dX4_holds_8 : decode cX4_holds 8 = .ok (.iconst 1, 1) := by decide +kernel
theorem dX4_holds_9 : decode cX4_holds 9 = .ok (.goto 4, 3) := by decide +kernel
theorem dX4_holds_12 : decode cX4_holds 12 = .ok (.iconst 0, 1) := by decide +kernel
theorem dX4_holds_13 : decode cX4_holds 13 = .ok (.ireturn, 1) := by decide +kernel
theorem dX4_lacksAny_0 : decode cX4_lacksAny 0 = .ok (.iload_n 1, 1) := by decide +kernel
theorem dX4_lacksAny_1 : decode cX4_lacksAny 1 = .ok (.iload_n 0, 1) := by decide +kernel
theorem dX4_lacksAny_2 : decode cX4_lacksAny 2 = .ok (.iconst (-1), 1) := by decide +kernel
theorem dX4_lacksAny_3 : decode cX4_lacksAny 3 = .ok (.ixor, 1) := by decide +kernel
theorem dX4_lacksAny_4 : decode cX4_lacksAny 4 = .ok (.iand, 1) := by decide +kernel
theorem dX4_lacksAny_5 : decode cX4_lacksAny 5 = .ok (.ifCond .eq 7, 3) := by decide +kernel
theorem dX4_lacksAny_8 : decode cX4_lacksAny 8 = .ok (.iconst 1, 1) := by decide +kernel
theorem dX4_lacksAny_9 : decode cX4_lacksAny 9 = .ok (.goto 4, 3) := by decide +kernel
theorem dX4_lacksAny_12 : decode cX4_lacksAny 12 = .ok (.iconst 0, 1) := by decide +kernel
theorem dX4_lacksAny_13 : decode cX4_lacksAny 13 = .ok (.ireturn, 1) := by decide +kernel
set_option maxRecDepth 20000 in
theorem ggX4_reached_X4_holds : GoodIn wsX4_reached wsX4_holds := goodIn_r _ [4] (by decide +kernel) (by decide +kernel)
set_option maxRecDepth 20000 in
theorem gX4_reached_X4_holds : GoodIn wsX4_reached (va_wsS RX4 61 yX4_holds wsX4_holds) := goodIn_app (goodIn_of _ (by decide +kernel)) ggX4_reached_X4_holds
theorem dX4_reached_0 : decode cX4_reached 0 = .ok (.iload_n 0, 1) := by decide +kernel
theorem dX4_reached_1 : decode cX4_reached 1 = .ok (.iload_n 2, 1) := by decide +kernel
theorem dX4_reached_2 : decode cX4_reached 2 = .ok (.iand, 1) := by decide +kernel
theorem dX4_reached_3 : decode cX4_reached 3 = .ok (.istore_n 3, 1) := by decide +kernel
theorem dX4_reached_4 : decode cX4_reached 4 = .ok (.iconst 0, 1) := by decide +kernel
theorem dX4_reached_5 : decode cX4_reached 5 = .ok (.istore 4, 2) := by decide +kernel
theorem dX4_reached_7 : decode cX4_reached 7 = .ok (.iload 4, 2) := by decide +kernel
theorem dX4_reached_9 : decode cX4_reached 9 = .ok (.aload_n 1, 1) := by decide +kernel
theorem dX4_reached_10 : decode cX4_reached 10 = .ok (.arraylength, 1) := by decide +kernel
theorem dX4_reached_11 : decode cX4_reached 11 = .ok (.if_icmp .ge 43, 3) := by decide +kernel
theorem dX4_reached_14 : decode cX4_reached 14 = .ok (.iconst 0, 1) := by decide +kernel
theorem dX4_reached_15 : decode cX4_reached 15 = .ok (.istore 5, 2) := by decide +kernel
theorem dX4_reached_17 : decode cX4_reached 17 = .ok (.iload 5, 2) := by decide +kernel
theorem dX4_reached_19 : decode cX4_reached 19 = .ok (.aload_n 1, 1) := by decide +kernel
theorem dX4_reached_20 : decode cX4_reached 20 = .ok (.arraylength, 1) := by decide +kernel
theorem dX4_reached_21 : decode cX4_reached 21 = .ok (.if_icmp .ge 27, 3) := by decide +kernel
theorem dX4_reached_24 : decode cX4_reached 24 = .ok (.iload_n 3, 1) := by decide +kernel
theorem dX4_reached_25 : decode cX4_reached 25 = .ok (.iload 5, 2) := by decide +kernel
theorem dX4_reached_27 : decode cX4_reached 27 = .ok (.invokestatic 61, 3) := by decide +kernel
theorem dX4_reached_30 : decode cX4_reached 30 = .ok (.ifCond .eq 12, 3) := by decide +kernel
theorem dX4_reached_33 : decode cX4_reached 33 = .ok (.iload_n 3, 1) := by decide +kernel
theorem dX4_reached_34 : decode cX4_reached 34 = .ok (.aload_n 1, 1) := by decide +kernel
theorem dX4_reached_35 : decode cX4_reached 35 = .ok (.iload 5, 2) := by decide +kernel
theorem dX4_reached_37 : decode cX4_reached 37 = .ok (.iaload, 1) := by decide +kernel
theorem dX4_reached_38 : decode cX4_reached 38 = .ok (.iload_n 2, 1) := by decide +kernel
theorem dX4_reached_39 : decode cX4_reached 39 = .ok (.iand, 1) := by decide +kernel
theorem dX4_reached_40 : decode cX4_reached 40 = .ok (.ior, 1) := by decide +kernel
theorem dX4_reached_41 : decode cX4_reached 41 = .ok (.istore_n 3, 1) := by decide +kernel
theorem dX4_reached_42 : decode cX4_reached 42 = .ok (.iinc 5 1, 3) := by decide +kernel
theorem dX4_reached_45 : decode cX4_reached 45 = .ok (.goto (-28), 3) := by decide +kernel
theorem dX4_reached_48 : decode cX4_reached 48 = .ok (.iinc 4 1, 3) := by decide +kernel
theorem dX4_reached_51 : decode cX4_reached 51 = .ok (.goto (-44), 3) := by decide +kernel
theorem dX4_reached_54 : decode cX4_reached 54 = .ok (.iload_n 3, 1) := by decide +kernel
theorem dX4_reached_55 : decode cX4_reached 55 = .ok (.ireturn, 1) := by decide +kernel
theorem dX5_init_0 : decode cX5_init 0 = .ok (.aload_n 0, 1) := by decide +kernel
theorem dX5_init_1 : decode cX5_init 1 = .ok (.invokespecial 1, 3) := by decide +kernel
theorem dX5_init_4 : decode cX5_init 4 = .ok (.aload_n 0, 1) := by decide +kernel
theorem dX5_init_5 : decode cX5_init 5 = .ok (.bipush 8, 2) := by decide +kernel
theorem dX5_init_7 : decode cX5_init 7 = .ok (.newarray .int, 2) := by decide +kernel
theorem dX5_init_9 : decode cX5_init 9 = .ok (.putfield 7, 3) := by decide +kernel
theorem dX5_init_12 : decode cX5_init 12 = .ok (.aload_n 0, 1) := by decide +kernel
theorem dX5_init_13 : decode cX5_init 13 = .ok (.bipush 8, 2) := by decide +kernel
theorem dX5_init_15 : decode cX5_init 15 = .ok (.newarray .int, 2) := by decide +kernel
theorem dX5_init_17 : decode cX5_init 17 = .ok (.putfield 13, 3) := by decide +kernel
theorem dX5_init_20 : decode cX5_init 20 = .ok (.aload_n 0, 1) := by decide +kernel
theorem dX5_init_21 : decode cX5_init 21 = .ok (.bipush 8, 2) := by decide +kernel
theorem dX5_init_23 : decode cX5_init 23 = .ok (.newarray .int, 2) := by decide +kernel
theorem dX5_init_25 : decode cX5_init 25 = .ok (.putfield 16, 3) := by decide +kernel
theorem dX5_init_28 : decode cX5_init 28 = .ok (.aload_n 0, 1) := by decide +kernel
theorem dX5_init_29 : decode cX5_init 29 = .ok (.bipush 8, 2) := by decide +kernel
theorem dX5_init_31 : decode cX5_init 31 = .ok (.newarray .int, 2) := by decide +kernel
theorem dX5_init_33 : decode cX5_init 33 = .ok (.putfield 19, 3) := by decide +kernel
theorem dX5_init_36 : decode cX5_init 36 = .ok (.aload_n 0, 1) := by decide +kernel
theorem dX5_init_37 : decode cX5_init 37 = .ok (.bipush 8, 2) := by decide +kernel
theorem dX5_init_39 : decode cX5_init 39 = .ok (.newarray .int, 2) := by decide +kernel
theorem dX5_init_41 : decode cX5_init 41 = .ok (.putfield 22, 3) := by decide +kernel
theorem dX5_init_44 : decode cX5_init 44 = .ok (.aload_n 0, 1) := by decide +kernel
theorem dX5_init_45 : decode cX5_init 45 = .ok (.bipush 80, 2) := by decide +kernel
theorem dX5_init_47 : decode cX5_init 47 = .ok (.newarray .int, 2) := by decide +kernel
theorem dX5_init_49 : decode cX5_init 49 = .ok (.putfield 25, 3) := by decide +kernel
theorem dX5_init_52 : decode cX5_init 52 = .ok (.aload_n 0, 1) := by decide +kernel
theorem dX5_init_53 : decode cX5_init 53 = .ok (.bipush 80, 2) := by decide +kernel
theorem dX5_init_55 : decode cX5_init 55 = .ok (.newarray .int, 2) := by decide +kernel
theorem dX5_init_57 : decode cX5_init 57 = .ok (.putfield 28, 3) := by decide +kernel
theorem dX5_init_60 : decode cX5_init 60 = .ok (.aload_n 0, 1) := by decide +kernel
theorem dX5_init_61 : decode cX5_init 61 = .ok (.bipush 80, 2) := by decide +kernel
theorem dX5_init_63 : decode cX5_init 63 = .ok (.newarray .int, 2) := by decide +kernel
theorem dX5_init_65 : decode cX5_init 65 = .ok (.putfield 31, 3) := by decide +kernel
theorem dX5_init_68 : decode cX5_init 68 = .ok (.aload_n 0, 1) := by decide +kernel
theorem dX5_init_69 : decode cX5_init 69 = .ok (.bipush 6, 2) := by decide +kernel
theorem dX5_init_71 : decode cX5_init 71 = .ok (.newarray .int, 2) := by decide +kernel
theorem dX5_init_73 : decode cX5_init 73 = .ok (.putfield 34, 3) := by decide +kernel
theorem dX5_init_76 : decode cX5_init 76 = .ok (.aload_n 0, 1) := by decide +kernel
theorem dX5_init_77 : decode cX5_init 77 = .ok (.bipush 32, 2) := by decide +kernel
theorem dX5_init_79 : decode cX5_init 79 = .ok (.newarray .int, 2) := by decide +kernel
theorem dX5_init_81 : decode cX5_init 81 = .ok (.putfield 37, 3) := by decide +kernel
theorem dX5_init_84 : decode cX5_init 84 = .ok (.aload_n 0, 1) := by decide +kernel
theorem dX5_init_85 : decode cX5_init 85 = .ok (.bipush 32, 2) := by decide +kernel
theorem dX5_init_87 : decode cX5_init 87 = .ok (.newarray .int, 2) := by decide +kernel
theorem dX5_init_89 : decode cX5_init 89 = .ok (.putfield 40, 3) := by decide +kernel
theorem dX5_init_92 : decode cX5_init 92 = .ok (.aload_n 0, 1) := by decide +kernel
theorem dX5_init_93 : decode cX5_init 93 = .ok (.bipush 32, 2) := by decide +kernel
theorem dX5_init_95 : decode cX5_init 95 = .ok (.newarray .int, 2) := by decide +kernel
theorem dX5_init_97 : decode cX5_init 97 = .ok (.putfield 43, 3) := by decide +kernel
theorem dX5_init_100 : decode cX5_init 100 = .ok (.aload_n 0, 1) := by decide +kernel
theorem dX5_init_101 : decode cX5_init 101 = .ok (.bipush 32, 2) := by decide +kernel
theorem dX5_init_103 : decode cX5_init 103 = .ok (.newarray .int, 2) := by decide +kernel
theorem dX5_init_105 : decode cX5_init 105 = .ok (.putfield 46, 3) := by decide +kernel
theorem dX5_init_108 : decode cX5_init 108 = .ok (.aload_n 0, 1) := by decide +kernel
theorem dX5_init_109 : decode cX5_init 109 = .ok (.sipush 201, 3) := by decide +kernel
theorem dX5_init_112 : decode cX5_init 112 = .ok (.newarray .int, 2) := by decide +kernel
theorem dX5_init_114 : decode cX5_init 114 = .ok (.putfield 49, 3) := by decide +kernel
theorem dX5_init_117 : decode cX5_init 117 = .ok (.return_, 1) := by decide +kernel
theorem dX5_thrown_0 : decode cX5_thrown 0 = .ok (.aload_n 0, 1) := by decide +kernel
theorem dX5_thrown_1 : decode cX5_thrown 1 = .ok (.getfield 52, 3) := by decide +kernel
theorem dX5_thrown_4 : decode cX5_thrown 4 = .ok (.ireturn, 1) := by decide +kernel
theorem dX5_fails_0 : decode cX5_fails 0 = .ok (.aload_n 0, 1) := by decide +kernel
theorem dX5_fails_1 : decode cX5_fails 1 = .ok (.iload_n 1, 1) := by decide +kernel
theorem dX5_fails_2 : decode cX5_fails 2 = .ok (.putfield 52, 3) := by decide +kernel
theorem dX5_fails_5 : decode cX5_fails 5 = .ok (.iconst 0, 1) := by decide +kernel
theorem dX5_fails_6 : decode cX5_fails 6 = .ok (.ireturn, 1) := by decide +kernel
theorem dX5_in_0 : decode cX5_in 0 = .ok (.iload_n 0, 1) := by decide +kernel
theorem dX5_in_1 : decode cX5_in 1 = .ok (.iload_n 1, 1) := by decide +kernel
theorem dX5_in_2 : decode cX5_in 2 = .ok (.if_icmp .lt 12, 3) := by decide +kernel
theorem dX5_in_5 : decode cX5_in 5 = .ok (.iload_n 0, 1) := by decide +kernel
theorem dX5_in_6 : decode cX5_in 6 = .ok (.iload_n 2, 1) := by decide +kernel
theorem dX5_in_7 : decode cX5_in 7 = .ok (.if_icmp .gt 7, 3) := by decide +kernel
theorem dX5_in_10 : decode cX5_in 10 = .ok (.iconst 1, 1) := by decide +kernel
theorem dX5_in_11 : decode cX5_in 11 = .ok (.goto 4, 3) := by decide +kernel
theorem dX5_in_14 : decode cX5_in 14 = .ok (.iconst 0, 1) := by decide +kernel
theorem dX5_in_15 : decode cX5_in 15 = .ok (.ireturn, 1) := by decide +kernel
set_option maxRecDepth 20000 in
theorem ggX5_isModel_X5_in : GoodIn wsX5_isModel wsX5_in := goodIn_r _ [6] (by decide +kernel) (by decide +kernel)
set_option maxRecDepth 20000 in
theorem gX5_isModel_X5_in : GoodIn wsX5_isModel (va_wsS RX5 59 yX5_in wsX5_in) := goodIn_app (goodIn_of _ (by decide +kernel)) ggX5_isModel_X5_in
theorem dX5_isModel_0 : decode cX5_isModel 0 = .ok (.aload_n 0, 1) := by decide +kernel
theorem dX5_isModel_1 : decode cX5_isModel 1 = .ok (.iload_n 1, 1) := by decide +kernel
theorem dX5_isModel_2 : decode cX5_isModel 2 = .ok (.iconst 0, 1) := by decide +kernel
theorem dX5_isModel_3 : decode cX5_isModel 3 = .ok (.aload_n 0, 1) := by decide +kernel
theorem dX5_isModel_4 : decode cX5_isModel 4 = .ok (.getfield 56, 3) := by decide +kernel
theorem dX5_isModel_7 : decode cX5_isModel 7 = .ok (.iconst 1, 1) := by decide +kernel
theorem dX5_isModel_8 : decode cX5_isModel 8 = .ok (.isub, 1) := by decide +kernel
theorem dX5_isModel_9 : decode cX5_isModel 9 = .ok (.invokestatic 59, 3) := by decide +kernel
theorem dX5_isModel_12 : decode cX5_isModel 12 = .ok (.ifCond .eq 7, 3) := by decide +kernel
theorem dX5_isModel_15 : decode cX5_isModel 15 = .ok (.iconst 0, 1) := by decide +kernel
theorem dX5_isModel_16 : decode cX5_isModel 16 = .ok (.goto 4, 3) := by decide +kernel
theorem dX5_isModel_19 : decode cX5_isModel 19 = .ok (.iconst 1, 1) := by decide +kernel
theorem dX5_isModel_20 : decode cX5_isModel 20 = .ok (.putfield 52, 3) := by decide +kernel
theorem dX5_isModel_23 : decode cX5_isModel 23 = .ok (.aload_n 0, 1) := by decide +kernel
theorem dX5_isModel_24 : decode cX5_isModel 24 = .ok (.getfield 52, 3) := by decide +kernel
theorem dX5_isModel_27 : decode cX5_isModel 27 = .ok (.ifCond .ne 7, 3) := by decide +kernel
theorem dX5_isModel_30 : decode cX5_isModel 30 = .ok (.iconst 1, 1) := by decide +kernel
theorem dX5_isModel_31 : decode cX5_isModel 31 = .ok (.goto 4, 3) := by decide +kernel
theorem dX5_isModel_34 : decode cX5_isModel 34 = .ok (.iconst 0, 1) := by decide +kernel
theorem dX5_isModel_35 : decode cX5_isModel 35 = .ok (.ireturn, 1) := by decide +kernel
theorem dX5_closed_0 : decode cX5_closed 0 = .ok (.iload_n 1, 1) := by decide +kernel
theorem dX5_closed_1 : decode cX5_closed 1 = .ok (.istore_n 2, 1) := by decide +kernel
theorem dX5_closed_2 : decode cX5_closed 2 = .ok (.iconst 0, 1) := by decide +kernel
theorem dX5_closed_3 : decode cX5_closed 3 = .ok (.istore_n 3, 1) := by decide +kernel
theorem dX5_closed_4 : decode cX5_closed 4 = .ok (.iload_n 3, 1) := by decide +kernel
theorem dX5_closed_5 : decode cX5_closed 5 = .ok (.bipush 8, 2) := by decide +kernel
theorem dX5_closed_7 : decode cX5_closed 7 = .ok (.if_icmp .ge 49, 3) := by decide +kernel
theorem dX5_closed_10 : decode cX5_closed 10 = .ok (.iconst 0, 1) := by decide +kernel
theorem dX5_closed_11 : decode cX5_closed 11 = .ok (.istore 4, 2) := by decide +kernel
theorem dX5_closed_13 : decode cX5_closed 13 = .ok (.iload 4, 2) := by decide +kernel
theorem dX5_closed_15 : decode cX5_closed 15 = .ok (.bipush 8, 2) := by decide +kernel
theorem dX5_closed_17 : decode cX5_closed 17 = .ok (.if_icmp .ge 33, 3) := by decide +kernel
theorem dX5_closed_20 : decode cX5_closed 20 = .ok (.iload_n 2, 1) := by decide +kernel
theorem dX5_closed_21 : decode cX5_closed 21 = .ok (.iload_n 2, 1) := by decide +kernel
theorem dX5_closed_22 : decode cX5_closed 22 = .ok (.iload 4, 2) := by decide +kernel
theorem dX5_closed_24 : decode cX5_closed 24 = .ok (.ishr, 1) := by decide +kernel
theorem dX5_closed_25 : decode cX5_closed 25 = .ok (.iconst 1, 1) := by decide +kernel
theorem dX5_closed_26 : decode cX5_closed 26 = .ok (.iand, 1) := by decide +kernel
theorem dX5_closed_27 : decode cX5_closed 27 = .ok (.iconst 1, 1) := by decide +kernel
theorem dX5_closed_28 : decode cX5_closed 28 = .ok (.if_icmp .ne 13, 3) := by decide +kernel
theorem dX5_closed_31 : decode cX5_closed 31 = .ok (.aload_n 0, 1) := by decide +kernel
theorem dX5_closed_32 : decode cX5_closed 32 = .ok (.getfield 7, 3) := by decide +kernel
theorem dX5_closed_35 : decode cX5_closed 35 = .ok (.iload 4, 2) := by decide +kernel
theorem dX5_closed_37 : decode cX5_closed 37 = .ok (.iaload, 1) := by decide +kernel
theorem dX5_closed_38 : decode cX5_closed 38 = .ok (.goto 4, 3) := by decide +kernel
theorem dX5_closed_41 : decode cX5_closed 41 = .ok (.iconst 0, 1) := by decide +kernel
theorem dX5_closed_42 : decode cX5_closed 42 = .ok (.ior, 1) := by decide +kernel
theorem dX5_closed_43 : decode cX5_closed 43 = .ok (.istore_n 2, 1) := by decide +kernel
theorem dX5_closed_44 : decode cX5_closed 44 = .ok (.iinc 4 1, 3) := by decide +kernel
theorem dX5_closed_47 : decode cX5_closed 47 = .ok (.goto (-34), 3) := by decide +kernel
theorem dX5_closed_50 : decode cX5_closed 50 = .ok (.iinc 3 1, 3) := by decide +kernel
theorem dX5_closed_53 : decode cX5_closed 53 = .ok (.goto (-49), 3) := by decide +kernel
theorem dX5_closed_56 : decode cX5_closed 56 = .ok (.iload_n 2, 1) := by decide +kernel
theorem dX5_closed_57 : decode cX5_closed 57 = .ok (.ireturn, 1) := by decide +kernel
set_option maxRecDepth 20000 in
theorem ggX5_setNeeds_X5_in : GoodIn wsX5_setNeeds wsX5_in := goodIn_r _ [6] (by decide +kernel) (by decide +kernel)
set_option maxRecDepth 20000 in
theorem gX5_setNeeds_X5_in : GoodIn wsX5_setNeeds (va_wsS RX5 59 yX5_in wsX5_in) := goodIn_app (goodIn_of _ (by decide +kernel)) ggX5_setNeeds_X5_in
set_option maxRecDepth 20000 in
theorem ggX5_setNeeds_X5_closed : GoodIn wsX5_setNeeds wsX5_closed := goodIn_r _ [10, 2, 15, 16, 17, 18, 19, 20, 21, 22, 23, 24, 25, 26, 27, 28, 29, 30, 31, 32, 33, 34] (by decide +kernel) (by decide +kernel)
set_option maxRecDepth 20000 in
theorem gX5_setNeeds_X5_closed : GoodIn wsX5_setNeeds (wsV RX5 63 RX5 yX5_closed wsX5_closed) := goodIn_app (goodIn_of _ (by decide +kernel)) ggX5_setNeeds_X5_closed
set_option maxRecDepth 20000 in
theorem ggX5_setNeeds_X5_fails : GoodIn wsX5_setNeeds wsX5_fails := goodIn_r _ [14, 1, 15, 16, 17, 18, 19, 20, 21, 22, 23, 24, 25, 26, 27, 28, 29, 30, 31, 32, 33, 34] (by decide +kernel) (by decide +kernel)
set_option maxRecDepth 20000 in
theorem gX5_setNeeds_X5_fails : GoodIn wsX5_setNeeds (wsV RX5 67 RX5 yX5_fails wsX5_fails) := goodIn_app (goodIn_of _ (by decide +kernel)) ggX5_setNeeds_X5_fails
theorem dX5_setNeeds_0 : decode cX5_setNeeds 0 = .ok (.aload_n 0, 1) := by decide +kernel
theorem dX5_setNeeds_1 : decode cX5_setNeeds 1 = .ok (.iload_n 1, 1) := by decide +kernel
theorem dX5_setNeeds_2 : decode cX5_setNeeds 2 = .ok (.iconst 0, 1) := by decide +kernel
theorem dX5_setNeeds_3 : decode cX5_setNeeds 3 = .ok (.bipush 7, 2) := by decide +kernel
theorem dX5_setNeeds_5 : decode cX5_setNeeds 5 = .ok (.invokestatic 59, 3) := by decide +kernel
theorem dX5_setNeeds_8 : decode cX5_setNeeds 8 = .ok (.ifCond .ne 7, 3) := by decide +kernel
theorem dX5_setNeeds_11 : decode cX5_setNeeds 11 = .ok (.iconst 1, 1) := by decide +kernel
theorem dX5_setNeeds_12 : decode cX5_setNeeds 12 = .ok (.goto 19, 3) := by decide +kernel
theorem dX5_setNeeds_15 : decode cX5_setNeeds 15 = .ok (.iload_n 2, 1) := by decide +kernel
theorem dX5_setNeeds_16 : decode cX5_setNeeds 16 = .ok (.iconst 0, 1) := by decide +kernel
theorem dX5_setNeeds_17 : decode cX5_setNeeds 17 = .ok (.sipush 255, 3) := by decide +kernel
theorem dX5_setNeeds_20 : decode cX5_setNeeds 20 = .ok (.invokestatic 59, 3) := by decide +kernel
theorem dX5_setNeeds_23 : decode cX5_setNeeds 23 = .ok (.ifCond .ne 7, 3) := by decide +kernel
theorem dX5_setNeeds_26 : decode cX5_setNeeds 26 = .ok (.iconst 2, 1) := by decide +kernel
theorem dX5_setNeeds_27 : decode cX5_setNeeds 27 = .ok (.goto 4, 3) := by decide +kernel
theorem dX5_setNeeds_30 : decode cX5_setNeeds 30 = .ok (.iconst 0, 1) := by decide +kernel
theorem dX5_setNeeds_31 : decode cX5_setNeeds 31 = .ok (.putfield 52, 3) := by decide +kernel
theorem dX5_setNeeds_34 : decode cX5_setNeeds 34 = .ok (.aload_n 0, 1) := by decide +kernel
theorem dX5_setNeeds_35 : decode cX5_setNeeds 35 = .ok (.getfield 52, 3) := by decide +kernel
theorem dX5_setNeeds_38 : decode cX5_setNeeds 38 = .ok (.ifCond .le 5, 3) := by decide +kernel
theorem dX5_setNeeds_41 : decode cX5_setNeeds 41 = .ok (.iconst 0, 1) := by decide +kernel
theorem dX5_setNeeds_42 : decode cX5_setNeeds 42 = .ok (.ireturn, 1) := by decide +kernel
theorem dX5_setNeeds_43 : decode cX5_setNeeds 43 = .ok (.aload_n 0, 1) := by decide +kernel
theorem dX5_setNeeds_44 : decode cX5_setNeeds 44 = .ok (.getfield 7, 3) := by decide +kernel
theorem dX5_setNeeds_47 : decode cX5_setNeeds 47 = .ok (.iload_n 1, 1) := by decide +kernel
theorem dX5_setNeeds_48 : decode cX5_setNeeds 48 = .ok (.iaload, 1) := by decide +kernel
theorem dX5_setNeeds_49 : decode cX5_setNeeds 49 = .ok (.istore_n 3, 1) := by decide +kernel
theorem dX5_setNeeds_50 : decode cX5_setNeeds 50 = .ok (.aload_n 0, 1) := by decide +kernel
theorem dX5_setNeeds_51 : decode cX5_setNeeds 51 = .ok (.getfield 7, 3) := by decide +kernel
theorem dX5_setNeeds_54 : decode cX5_setNeeds 54 = .ok (.iload_n 1, 1) := by decide +kernel
theorem dX5_setNeeds_55 : decode cX5_setNeeds 55 = .ok (.iload_n 2, 1) := by decide +kernel
theorem dX5_setNeeds_56 : decode cX5_setNeeds 56 = .ok (.iastore, 1) := by decide +kernel
theorem dX5_setNeeds_57 : decode cX5_setNeeds 57 = .ok (.aload_n 0, 1) := by decide +kernel
theorem dX5_setNeeds_58 : decode cX5_setNeeds 58 = .ok (.iload_n 2, 1) := by decide +kernel
theorem dX5_setNeeds_59 : decode cX5_setNeeds 59 = .ok (.invokevirtual 63, 3) := by decide +kernel
theorem dX5_setNeeds_62 : decode cX5_setNeeds 62 = .ok (.iload_n 1, 1) := by decide +kernel
theorem dX5_setNeeds_63 : decode cX5_setNeeds 63 = .ok (.ishr, 1) := by decide +kernel
theorem dX5_setNeeds_64 : decode cX5_setNeeds 64 = .ok (.iconst 1, 1) := by decide +kernel
theorem dX5_setNeeds_65 : decode cX5_setNeeds 65 = .ok (.iand, 1) := by decide +kernel
theorem dX5_setNeeds_66 : decode cX5_setNeeds 66 = .ok (.iconst 1, 1) := by decide +kernel
theorem dX5_setNeeds_67 : decode cX5_setNeeds 67 = .ok (.if_icmp .ne 16, 3) := by decide +kernel
theorem dX5_setNeeds_70 : decode cX5_setNeeds 70 = .ok (.aload_n 0, 1) := by decide +kernel
theorem dX5_setNeeds_71 : decode cX5_setNeeds 71 = .ok (.getfield 7, 3) := by decide +kernel
theorem dX5_setNeeds_74 : decode cX5_setNeeds 74 = .ok (.iload_n 1, 1) := by decide +kernel
theorem dX5_setNeeds_75 : decode cX5_setNeeds 75 = .ok (.iload_n 3, 1) := by decide +kernel
theorem dX5_setNeeds_76 : decode cX5_setNeeds 76 = .ok (.iastore, 1) := by decide +kernel
theorem dX5_setNeeds_77 : decode cX5_setNeeds 77 = .ok (.aload_n 0, 1) := by decide +kernel
theorem dX5_setNeeds_78 : decode cX5_setNeeds 78 = .ok (.iconst 2, 1) := by decide +kernel
theorem dX5_setNeeds_79 : decode cX5_setNeeds 79 = .ok (.invokevirtual 67, 3) := by decide +kernel
theorem dX5_setNeeds_82 : decode cX5_setNeeds 82 = .ok (.ireturn, 1) := by decide +kernel
theorem dX5_setNeeds_83 : decode cX5_setNeeds 83 = .ok (.iload_n 3, 1) := by decide +kernel
theorem dX5_setNeeds_84 : decode cX5_setNeeds 84 = .ok (.ireturn, 1) := by decide +kernel
set_option maxRecDepth 20000 in
theorem ggX5_addModel_X5_in : GoodIn wsX5_addModel wsX5_in := goodIn_r _ [8] (by decide +kernel) (by decide +kernel)
set_option maxRecDepth 20000 in
theorem gX5_addModel_X5_in : GoodIn wsX5_addModel (va_wsS RX5 59 yX5_in wsX5_in) := goodIn_app (goodIn_of _ (by decide +kernel)) ggX5_addModel_X5_in
theorem dX5_addModel_0 : decode cX5_addModel 0 = .ok (.aload_n 0, 1) := by decide +kernel
theorem dX5_addModel_1 : decode cX5_addModel 1 = .ok (.iload_n 1, 1) := by decide +kernel
theorem dX5_addModel_2 : decode cX5_addModel 2 = .ok (.iconst 0, 1) := by decide +kernel
theorem dX5_addModel_3 : decode cX5_addModel 3 = .ok (.bipush 9, 2) := by decide +kernel
theorem dX5_addModel_5 : decode cX5_addModel 5 = .ok (.invokestatic 59, 3) := by decide +kernel
theorem dX5_addModel_8 : decode cX5_addModel 8 = .ok (.ifCond .ne 7, 3) := by decide +kernel
theorem dX5_addModel_11 : decode cX5_addModel 11 = .ok (.iconst 1, 1) := by decide +kernel
theorem dX5_addModel_12 : decode cX5_addModel 12 = .ok (.goto 31, 3) := by decide +kernel
theorem dX5_addModel_15 : decode cX5_addModel 15 = .ok (.iload_n 2, 1) := by decide +kernel
theorem dX5_addModel_16 : decode cX5_addModel 16 = .ok (.iconst 2, 1) := by decide +kernel
theorem dX5_addModel_17 : decode cX5_addModel 17 = .ok (.bipush 32, 2) := by decide +kernel
theorem dX5_addModel_19 : decode cX5_addModel 19 = .ok (.invokestatic 59, 3) := by decide +kernel
theorem dX5_addModel_22 : decode cX5_addModel 22 = .ok (.ifCond .ne 7, 3) := by decide +kernel
theorem dX5_addModel_25 : decode cX5_addModel 25 = .ok (.iconst 2, 1) := by decide +kernel
theorem dX5_addModel_26 : decode cX5_addModel 26 = .ok (.goto 17, 3) := by decide +kernel
theorem dX5_addModel_29 : decode cX5_addModel 29 = .ok (.aload_n 0, 1) := by decide +kernel
theorem dX5_addModel_30 : decode cX5_addModel 30 = .ok (.getfield 56, 3) := by decide +kernel
theorem dX5_addModel_33 : decode cX5_addModel 33 = .ok (.bipush 8, 2) := by decide +kernel
theorem dX5_addModel_35 : decode cX5_addModel 35 = .ok (.if_icmp .ne 7, 3) := by decide +kernel
theorem dX5_addModel_38 : decode cX5_addModel 38 = .ok (.iconst 3, 1) := by decide +kernel
theorem dX5_addModel_39 : decode cX5_addModel 39 = .ok (.goto 4, 3) := by decide +kernel
theorem dX5_addModel_42 : decode cX5_addModel 42 = .ok (.iconst 0, 1) := by decide +kernel
theorem dX5_addModel_43 : decode cX5_addModel 43 = .ok (.putfield 52, 3) := by decide +kernel
theorem dX5_addModel_46 : decode cX5_addModel 46 = .ok (.aload_n 0, 1) := by decide +kernel
theorem dX5_addModel_47 : decode cX5_addModel 47 = .ok (.getfield 52, 3) := by decide +kernel
theorem dX5_addModel_50 : decode cX5_addModel 50 = .ok (.ifCond .le 5, 3) := by decide +kernel
theorem dX5_addModel_53 : decode cX5_addModel 53 = .ok (.iconst 0, 1) := by decide +kernel
theorem dX5_addModel_54 : decode cX5_addModel 54 = .ok (.ireturn, 1) := by decide +kernel
theorem dX5_addModel_55 : decode cX5_addModel 55 = .ok (.aload_n 0, 1) := by decide +kernel
theorem dX5_addModel_56 : decode cX5_addModel 56 = .ok (.getfield 13, 3) := by decide +kernel
theorem dX5_addModel_59 : decode cX5_addModel 59 = .ok (.aload_n 0, 1) := by decide +kernel
theorem dX5_addModel_60 : decode cX5_addModel 60 = .ok (.getfield 56, 3) := by decide +kernel
theorem dX5_addModel_63 : decode cX5_addModel 63 = .ok (.iload_n 1, 1) := by decide +kernel
theorem dX5_addModel_64 : decode cX5_addModel 64 = .ok (.iastore, 1) := by decide +kernel
theorem dX5_addModel_65 : decode cX5_addModel 65 = .ok (.aload_n 0, 1) := by decide +kernel
theorem dX5_addModel_66 : decode cX5_addModel 66 = .ok (.getfield 16, 3) := by decide +kernel
theorem dX5_addModel_69 : decode cX5_addModel 69 = .ok (.aload_n 0, 1) := by decide +kernel
theorem dX5_addModel_70 : decode cX5_addModel 70 = .ok (.getfield 56, 3) := by decide +kernel
theorem dX5_addModel_73 : decode cX5_addModel 73 = .ok (.iload_n 2, 1) := by decide +kernel
theorem dX5_addModel_74 : decode cX5_addModel 74 = .ok (.iastore, 1) := by decide +kernel
theorem dX5_addModel_75 : decode cX5_addModel 75 = .ok (.aload_n 0, 1) := by decide +kernel
theorem dX5_addModel_76 : decode cX5_addModel 76 = .ok (.dup, 1) := by decide +kernel
theorem dX5_addModel_77 : decode cX5_addModel 77 = .ok (.getfield 56, 3) := by decide +kernel
theorem dX5_addModel_80 : decode cX5_addModel 80 = .ok (.iconst 1, 1) := by decide +kernel
theorem dX5_addModel_81 : decode cX5_addModel 81 = .ok (.iadd, 1) := by decide +kernel
theorem dX5_addModel_82 : decode cX5_addModel 82 = .ok (.putfield 56, 3) := by decide +kernel
theorem dX5_addModel_85 : decode cX5_addModel 85 = .ok (.aload_n 0, 1) := by decide +kernel
theorem dX5_addModel_86 : decode cX5_addModel 86 = .ok (.getfield 56, 3) := by decide +kernel
theorem dX5_addModel_89 : decode cX5_addModel 89 = .ok (.iconst 1, 1) := by decide +kernel
theorem dX5_addModel_90 : decode cX5_addModel 90 = .ok (.isub, 1) := by decide +kernel
theorem dX5_addModel_91 : decode cX5_addModel 91 = .ok (.ireturn, 1) := by decide +kernel
theorem dX5_counts_0 : decode cX5_counts 0 = .ok (.iconst 0, 1) := by decide +kernel
theorem dX5_counts_1 : decode cX5_counts 1 = .ok (.istore_n 2, 1) := by decide +kernel
theorem dX5_counts_2 : decode cX5_counts 2 = .ok (.iload_n 2, 1) := by decide +kernel
theorem dX5_counts_3 : decode cX5_counts 3 = .ok (.bipush 32, 2) := by decide +kernel
theorem dX5_counts_5 : decode cX5_counts 5 = .ok (.if_icmp .ge 16, 3) := by decide +kernel
theorem dX5_counts_8 : decode cX5_counts 8 = .ok (.aload_n 0, 1) := by decide +kernel
theorem dX5_counts_9 : decode cX5_counts 9 = .ok (.getfield 46, 3) := by decide +kernel
theorem dX5_counts_12 : decode cX5_counts 12 = .ok (.iload_n 2, 1) := by decide +kernel
theorem dX5_counts_13 : decode cX5_counts 13 = .ok (.iconst 0, 1) := by decide +kernel
theorem dX5_counts_14 : decode cX5_counts 14 = .ok (.iastore, 1) := by decide +kernel
theorem dX5_counts_15 : decode cX5_counts 15 = .ok (.iinc 2 1, 3) := by decide +kernel
theorem dX5_counts_18 : decode cX5_counts 18 = .ok (.goto (-16), 3) := by decide +kernel
theorem dX5_counts_21 : decode cX5_counts 21 = .ok (.iconst 0, 1) := by decide +kernel
theorem dX5_counts_22 : decode cX5_counts 22 = .ok (.istore_n 2, 1) := by decide +kernel
theorem dX5_counts_23 : decode cX5_counts 23 = .ok (.iload_n 2, 1) := by decide +kernel
theorem dX5_counts_24 : decode cX5_counts 24 = .ok (.iload_n 1, 1) := by decide +kernel
theorem dX5_counts_25 : decode cX5_counts 25 = .ok (.if_icmp .ge 64, 3) := by decide +kernel
theorem dX5_counts_28 : decode cX5_counts 28 = .ok (.aload_n 0, 1) := by decide +kernel
theorem dX5_counts_29 : decode cX5_counts 29 = .ok (.getfield 46, 3) := by decide +kernel
theorem dX5_counts_32 : decode cX5_counts 32 = .ok (.aload_n 0, 1) := by decide +kernel
theorem dX5_counts_33 : decode cX5_counts 33 = .ok (.getfield 37, 3) := by decide +kernel
theorem dX5_counts_36 : decode cX5_counts 36 = .ok (.iload_n 2, 1) := by decide +kernel
theorem dX5_counts_37 : decode cX5_counts 37 = .ok (.iaload, 1) := by decide +kernel
theorem dX5_counts_38 : decode cX5_counts 38 = .ok (.dup2, 1) := by decide +kernel
theorem dX5_counts_39 : decode cX5_counts 39 = .ok (.iaload, 1) := by decide +kernel
theorem dX5_counts_40 : decode cX5_counts 40 = .ok (.iconst 1, 1) := by decide +kernel
theorem dX5_counts_41 : decode cX5_counts 41 = .ok (.iadd, 1) := by decide +kernel
theorem dX5_counts_42 : decode cX5_counts 42 = .ok (.iastore, 1) := by decide +kernel
theorem dX5_counts_43 : decode cX5_counts 43 = .ok (.aload_n 0, 1) := by decide +kernel
theorem dX5_counts_44 : decode cX5_counts 44 = .ok (.aload_n 0, 1) := by decide +kernel
theorem dX5_counts_45 : decode cX5_counts 45 = .ok (.getfield 46, 3) := by decide +kernel
theorem dX5_counts_48 : decode cX5_counts 48 = .ok (.aload_n 0, 1) := by decide +kernel
theorem dX5_counts_49 : decode cX5_counts 49 = .ok (.getfield 37, 3) := by decide +kernel
theorem dX5_counts_52 : decode cX5_counts 52 = .ok (.iload_n 2, 1) := by decide +kernel
theorem dX5_counts_53 : decode cX5_counts 53 = .ok (.iaload, 1) := by decide +kernel
theorem dX5_counts_54 : decode cX5_counts 54 = .ok (.iaload, 1) := by decide +kernel
theorem dX5_counts_55 : decode cX5_counts 55 = .ok (.aload_n 0, 1) := by decide +kernel
theorem dX5_counts_56 : decode cX5_counts 56 = .ok (.getfield 70, 3) := by decide +kernel
theorem dX5_counts_59 : decode cX5_counts 59 = .ok (.if_icmp .le 17, 3) := by decide +kernel
theorem dX5_counts_62 : decode cX5_counts 62 = .ok (.aload_n 0, 1) := by decide +kernel
theorem dX5_counts_63 : decode cX5_counts 63 = .ok (.getfield 46, 3) := by decide +kernel
theorem dX5_counts_66 : decode cX5_counts 66 = .ok (.aload_n 0, 1) := by decide +kernel
theorem dX5_counts_67 : decode cX5_counts 67 = .ok (.getfield 37, 3) := by decide +kernel
theorem dX5_counts_70 : decode cX5_counts 70 = .ok (.iload_n 2, 1) := by decide +kernel
theorem dX5_counts_71 : decode cX5_counts 71 = .ok (.iaload, 1) := by decide +kernel
theorem dX5_counts_72 : decode cX5_counts 72 = .ok (.iaload, 1) := by decide +kernel
theorem dX5_counts_73 : decode cX5_counts 73 = .ok (.goto 7, 3) := by decide +kernel
theorem dX5_counts_76 : decode cX5_counts 76 = .ok (.aload_n 0, 1) := by decide +kernel
theorem dX5_counts_77 : decode cX5_counts 77 = .ok (.getfield 70, 3) := by decide +kernel
theorem dX5_counts_80 : decode cX5_counts 80 = .ok (.putfield 70, 3) := by decide +kernel
theorem dX5_counts_83 : decode cX5_counts 83 = .ok (.iinc 2 1, 3) := by decide +kernel
theorem dX5_counts_86 : decode cX5_counts 86 = .ok (.goto (-63), 3) := by decide +kernel
theorem dX5_counts_89 : decode cX5_counts 89 = .ok (.return_, 1) := by decide +kernel
set_option maxRecDepth 20000 in
theorem ggX5_makes_X5_counts : GoodIn wsX5_makes wsX5_counts := goodIn_r _ [10, 3, 2, 11, 12, 13, 14, 15, 16, 17, 18, 19, 20, 21, 22, 23, 24, 25, 26, 27, 28, 29, 30, 31] (by decide +kernel) (by decide +kernel)
set_option maxRecDepth 20000 in
theorem gX5_makes_X5_counts : GoodIn wsX5_makes (wsV RX5 76 RX5 yX5_counts wsX5_counts) := goodIn_app (goodIn_of _ (by decide +kernel)) ggX5_makes_X5_counts
theorem dX5_makes_0 : decode cX5_makes 0 = .ok (.iload_n 3, 1) := by decide +kernel
theorem dX5_makes_1 : decode cX5_makes 1 = .ok (.ifCond .eq 7, 3) := by decide +kernel
theorem dX5_makes_4 : decode cX5_makes 4 = .ok (.iload_n 2, 1) := by decide +kernel
theorem dX5_makes_5 : decode cX5_makes 5 = .ok (.goto 26, 3) := by decide +kernel
theorem dX5_makes_8 : decode cX5_makes 8 = .ok (.iconst 2, 1) := by decide +kernel
theorem dX5_makes_9 : decode cX5_makes 9 = .ok (.iload_n 2, 1) := by decide +kernel
theorem dX5_makes_10 : decode cX5_makes 10 = .ok (.imul, 1) := by decide +kernel
theorem dX5_makes_11 : decode cX5_makes 11 = .ok (.aload_n 0, 1) := by decide +kernel
theorem dX5_makes_12 : decode cX5_makes 12 = .ok (.getfield 73, 3) := by decide +kernel
theorem dX5_makes_15 : decode cX5_makes 15 = .ok (.isub, 1) := by decide +kernel
theorem dX5_makes_16 : decode cX5_makes 16 = .ok (.ifCond .ge 14, 3) := by decide +kernel
theorem dX5_makes_19 : decode cX5_makes 19 = .ok (.iconst 2, 1) := by decide +kernel
theorem dX5_makes_20 : decode cX5_makes 20 = .ok (.iload_n 2, 1) := by decide +kernel
theorem dX5_makes_21 : decode cX5_makes 21 = .ok (.imul, 1) := by decide +kernel
theorem dX5_makes_22 : decode cX5_makes 22 = .ok (.aload_n 0, 1) := by decide +kernel
theorem dX5_makes_23 : decode cX5_makes 23 = .ok (.getfield 73, 3) := by decide +kernel
theorem dX5_makes_26 : decode cX5_makes 26 = .ok (.isub, 1) := by decide +kernel
theorem dX5_makes_27 : decode cX5_makes 27 = .ok (.goto 4, 3) := by decide +kernel
theorem dX5_makes_30 : decode cX5_makes 30 = .ok (.iconst 0, 1) := by decide +kernel
theorem dX5_makes_31 : decode cX5_makes 31 = .ok (.istore 4, 2) := by decide +kernel
theorem dX5_makes_33 : decode cX5_makes 33 = .ok (.iconst 0, 1) := by decide +kernel
theorem dX5_makes_34 : decode cX5_makes 34 = .ok (.istore 5, 2) := by decide +kernel
theorem dX5_makes_36 : decode cX5_makes 36 = .ok (.iload 5, 2) := by decide +kernel
theorem dX5_makes_38 : decode cX5_makes 38 = .ok (.iload_n 1, 1) := by decide +kernel
theorem dX5_makes_39 : decode cX5_makes 39 = .ok (.if_icmp .ge 156, 3) := by decide +kernel
theorem dX5_makes_42 : decode cX5_makes 42 = .ok (.aload_n 0, 1) := by decide +kernel
theorem dX5_makes_43 : decode cX5_makes 43 = .ok (.getfield 37, 3) := by decide +kernel
theorem dX5_makes_46 : decode cX5_makes 46 = .ok (.iload 5, 2) := by decide +kernel
theorem dX5_makes_48 : decode cX5_makes 48 = .ok (.iaload, 1) := by decide +kernel
theorem dX5_makes_49 : decode cX5_makes 49 = .ok (.istore 6, 2) := by decide +kernel
theorem dX5_makes_51 : decode cX5_makes 51 = .ok (.iload_n 3, 1) := by decide +kernel
theorem dX5_makes_52 : decode cX5_makes 52 = .ok (.ifCond .eq 17, 3) := by decide +kernel
theorem dX5_makes_55 : decode cX5_makes 55 = .ok (.iload 6, 2) := by decide +kernel
theorem dX5_makes_57 : decode cX5_makes 57 = .ok (.iload_n 2, 1) := by decide +kernel
theorem dX5_makes_58 : decode cX5_makes 58 = .ok (.if_icmp .ge 7, 3) := by decide +kernel
theorem dX5_makes_61 : decode cX5_makes 61 = .ok (.iconst 1, 1) := by decide +kernel
theorem dX5_makes_62 : decode cX5_makes 62 = .ok (.goto 18, 3) := by decide +kernel
theorem dX5_makes_65 : decode cX5_makes 65 = .ok (.iconst 0, 1) := by decide +kernel
theorem dX5_makes_66 : decode cX5_makes 66 = .ok (.goto 14, 3) := by decide +kernel
theorem dX5_makes_69 : decode cX5_makes 69 = .ok (.iload 6, 2) := by decide +kernel
theorem dX5_makes_71 : decode cX5_makes 71 = .ok (.iload_n 2, 1) := by decide +kernel
theorem dX5_makes_72 : decode cX5_makes 72 = .ok (.if_icmp .lt 7, 3) := by decide +kernel
theorem dX5_makes_75 : decode cX5_makes 75 = .ok (.iconst 1, 1) := by decide +kernel
theorem dX5_makes_76 : decode cX5_makes 76 = .ok (.goto 4, 3) := by decide +kernel
theorem dX5_makes_79 : decode cX5_makes 79 = .ok (.iconst 0, 1) := by decide +kernel
theorem dX5_makes_80 : decode cX5_makes 80 = .ok (.istore 7, 2) := by decide +kernel
theorem dX5_makes_82 : decode cX5_makes 82 = .ok (.iload 7, 2) := by decide +kernel
theorem dX5_makes_84 : decode cX5_makes 84 = .ok (.ifCond .eq 14, 3) := by decide +kernel
theorem dX5_makes_87 : decode cX5_makes 87 = .ok (.iconst 2, 1) := by decide +kernel
theorem dX5_makes_88 : decode cX5_makes 88 = .ok (.iload_n 2, 1) := by decide +kernel
theorem dX5_makes_89 : decode cX5_makes 89 = .ok (.imul, 1) := by decide +kernel
theorem dX5_makes_90 : decode cX5_makes 90 = .ok (.iconst 1, 1) := by decide +kernel
theorem dX5_makes_91 : decode cX5_makes 91 = .ok (.isub, 1) := by decide +kernel
theorem dX5_makes_92 : decode cX5_makes 92 = .ok (.iload 6, 2) := by decide +kernel
theorem dX5_makes_94 : decode cX5_makes 94 = .ok (.isub, 1) := by decide +kernel
theorem dX5_makes_95 : decode cX5_makes 95 = .ok (.goto 5, 3) := by decide +kernel
theorem dX5_makes_98 : decode cX5_makes 98 = .ok (.iload 6, 2) := by decide +kernel
theorem dX5_makes_100 : decode cX5_makes 100 = .ok (.istore 8, 2) := by decide +kernel
theorem dX5_makes_102 : decode cX5_makes 102 = .ok (.iload 7, 2) := by decide +kernel
theorem dX5_makes_104 : decode cX5_makes 104 = .ok (.ifCond .eq 73, 3) := by decide +kernel
theorem dX5_makes_107 : decode cX5_makes 107 = .ok (.iload 8, 2) := by decide +kernel
theorem dX5_makes_109 : decode cX5_makes 109 = .ok (.ifCond .lt 22, 3) := by decide +kernel
theorem dX5_makes_112 : decode cX5_makes 112 = .ok (.iload 8, 2) := by decide +kernel
theorem dX5_makes_114 : decode cX5_makes 114 = .ok (.aload_n 0, 1) := by decide +kernel
theorem dX5_makes_115 : decode cX5_makes 115 = .ok (.getfield 73, 3) := by decide +kernel
theorem dX5_makes_118 : decode cX5_makes 118 = .ok (.if_icmp .ge 13, 3) := by decide +kernel
theorem dX5_makes_121 : decode cX5_makes 121 = .ok (.aload_n 0, 1) := by decide +kernel
theorem dX5_makes_122 : decode cX5_makes 122 = .ok (.getfield 46, 3) := by decide +kernel
theorem dX5_makes_125 : decode cX5_makes 125 = .ok (.iload 8, 2) := by decide +kernel
theorem dX5_makes_127 : decode cX5_makes 127 = .ok (.iaload, 1) := by decide +kernel
theorem dX5_makes_128 : decode cX5_makes 128 = .ok (.goto 4, 3) := by decide +kernel
theorem dX5_makes_131 : decode cX5_makes 131 = .ok (.iconst 0, 1) := by decide +kernel
theorem dX5_makes_132 : decode cX5_makes 132 = .ok (.istore 9, 2) := by decide +kernel
theorem dX5_makes_134 : decode cX5_makes 134 = .ok (.aload_n 0, 1) := by decide +kernel
theorem dX5_makes_135 : decode cX5_makes 135 = .ok (.getfield 40, 3) := by decide +kernel
theorem dX5_makes_138 : decode cX5_makes 138 = .ok (.iload 5, 2) := by decide +kernel
theorem dX5_makes_140 : decode cX5_makes 140 = .ok (.iload 9, 2) := by decide +kernel
theorem dX5_makes_142 : decode cX5_makes 142 = .ok (.aload_n 0, 1) := by decide +kernel
theorem dX5_makes_143 : decode cX5_makes 143 = .ok (.getfield 46, 3) := by decide +kernel
theorem dX5_makes_146 : decode cX5_makes 146 = .ok (.iload 6, 2) := by decide +kernel
theorem dX5_makes_148 : decode cX5_makes 148 = .ok (.iaload, 1) := by decide +kernel
theorem dX5_makes_149 : decode cX5_makes 149 = .ok (.iadd, 1) := by decide +kernel
theorem dX5_makes_150 : decode cX5_makes 150 = .ok (.iconst 1, 1) := by decide +kernel
theorem dX5_makes_151 : decode cX5_makes 151 = .ok (.isub, 1) := by decide +kernel
theorem dX5_makes_152 : decode cX5_makes 152 = .ok (.aload_n 0, 1) := by decide +kernel
theorem dX5_makes_153 : decode cX5_makes 153 = .ok (.getfield 40, 3) := by decide +kernel
theorem dX5_makes_156 : decode cX5_makes 156 = .ok (.iload 5, 2) := by decide +kernel
theorem dX5_makes_158 : decode cX5_makes 158 = .ok (.iaload, 1) := by decide +kernel
theorem dX5_makes_159 : decode cX5_makes 159 = .ok (.isub, 1) := by decide +kernel
theorem dX5_makes_160 : decode cX5_makes 160 = .ok (.iastore, 1) := by decide +kernel
theorem dX5_makes_161 : decode cX5_makes 161 = .ok (.aload_n 0, 1) := by decide +kernel
theorem dX5_makes_162 : decode cX5_makes 162 = .ok (.getfield 43, 3) := by decide +kernel
theorem dX5_makes_165 : decode cX5_makes 165 = .ok (.iload 5, 2) := by decide +kernel
theorem dX5_makes_167 : decode cX5_makes 167 = .ok (.iconst 1, 1) := by decide +kernel
theorem dX5_makes_168 : decode cX5_makes 168 = .ok (.aload_n 0, 1) := by decide +kernel
theorem dX5_makes_169 : decode cX5_makes 169 = .ok (.getfield 43, 3) := by decide +kernel
theorem dX5_makes_172 : decode cX5_makes 172 = .ok (.iload 5, 2) := by decide +kernel
theorem dX5_makes_174 : decode cX5_makes 174 = .ok (.iaload, 1) := by decide +kernel
theorem dX5_makes_175 : decode cX5_makes 175 = .ok (.isub, 1) := by decide +kernel
theorem dX5_makes_176 : decode cX5_makes 176 = .ok (.iastore, 1) := by decide +kernel
theorem dX5_makes_177 : decode cX5_makes 177 = .ok (.aload_n 0, 1) := by decide +kernel
theorem dX5_makes_178 : decode cX5_makes 178 = .ok (.getfield 37, 3) := by decide +kernel
theorem dX5_makes_181 : decode cX5_makes 181 = .ok (.iload 5, 2) := by decide +kernel
theorem dX5_makes_183 : decode cX5_makes 183 = .ok (.iload 8, 2) := by decide +kernel
theorem dX5_makes_185 : decode cX5_makes 185 = .ok (.iload 4, 2) := by decide +kernel
theorem dX5_makes_187 : decode cX5_makes 187 = .ok (.isub, 1) := by decide +kernel
theorem dX5_makes_188 : decode cX5_makes 188 = .ok (.iastore, 1) := by decide +kernel
theorem dX5_makes_189 : decode cX5_makes 189 = .ok (.iinc 5 1, 3) := by decide +kernel
theorem dX5_makes_192 : decode cX5_makes 192 = .ok (.goto (-156), 3) := by decide +kernel
theorem dX5_makes_195 : decode cX5_makes 195 = .ok (.aload_n 0, 1) := by decide +kernel
theorem dX5_makes_196 : decode cX5_makes 196 = .ok (.iload_n 2, 1) := by decide +kernel
theorem dX5_makes_197 : decode cX5_makes 197 = .ok (.aload_n 0, 1) := by decide +kernel
theorem dX5_makes_198 : decode cX5_makes 198 = .ok (.getfield 73, 3) := by decide +kernel
theorem dX5_makes_201 : decode cX5_makes 201 = .ok (.iload_n 2, 1) := by decide +kernel
theorem dX5_makes_202 : decode cX5_makes 202 = .ok (.isub, 1) := by decide +kernel
theorem dX5_makes_203 : decode cX5_makes 203 = .ok (.if_icmp .le 7, 3) := by decide +kernel
theorem dX5_makes_206 : decode cX5_makes 206 = .ok (.iload_n 2, 1) := by decide +kernel
theorem dX5_makes_207 : decode cX5_makes 207 = .ok (.goto 9, 3) := by decide +kernel
theorem dX5_makes_210 : decode cX5_makes 210 = .ok (.aload_n 0, 1) := by decide +kernel
theorem dX5_makes_211 : decode cX5_makes 211 = .ok (.getfield 73, 3) := by decide +kernel
theorem dX5_makes_214 : decode cX5_makes 214 = .ok (.iload_n 2, 1) := by decide +kernel
theorem dX5_makes_215 : decode cX5_makes 215 = .ok (.isub, 1) := by decide +kernel
theorem dX5_makes_216 : decode cX5_makes 216 = .ok (.putfield 73, 3) := by decide +kernel
theorem dX5_makes_219 : decode cX5_makes 219 = .ok (.aload_n 0, 1) := by decide +kernel
theorem dX5_makes_220 : decode cX5_makes 220 = .ok (.iload_n 1, 1) := by decide +kernel
theorem dX5_makes_221 : decode cX5_makes 221 = .ok (.invokevirtual 76, 3) := by decide +kernel
theorem dX5_makes_224 : decode cX5_makes 224 = .ok (.return_, 1) := by decide +kernel
set_option maxRecDepth 20000 in
theorem ggX5_folds_X5_counts : GoodIn wsX5_folds wsX5_counts := goodIn_r _ [14, 15, 2, 6, 20, 21, 22, 23, 24, 25, 26, 27, 28, 29, 30, 31, 32, 33, 34, 35, 36, 37, 38, 39] (by decide +kernel) (by decide +kernel)
set_option maxRecDepth 20000 in
theorem gX5_folds_X5_counts : GoodIn wsX5_folds (wsV RX5 76 RX5 yX5_counts wsX5_counts) := goodIn_app (goodIn_of _ (by decide +kernel)) ggX5_folds_X5_counts
set_option maxRecDepth 20000 in
theorem ggX5_folds_X5_makes : GoodIn wsX5_folds wsX5_makes := goodIn_r _ [19, 5, 2, 15, 3, 4, 10, 11, 12, 13, 14, 6, 20, 21, 22, 23, 24, 25, 26, 27, 28, 29, 30, 31, 32, 33, 34, 35, 36, 37, 38, 39] (by decide +kernel) (by decide +kernel)
set_option maxRecDepth 20000 in
theorem gX5_folds_X5_makes : GoodIn wsX5_folds (wsV RX5 80 RX5 yX5_makes wsX5_makes) := goodIn_app (goodIn_of _ (by decide +kernel)) ggX5_folds_X5_makes
theorem dX5_folds_0 : decode cX5_folds 0 = .ok (.aload_n 0, 1) := by decide +kernel
theorem dX5_folds_1 : decode cX5_folds 1 = .ok (.getfield 16, 3) := by decide +kernel
theorem dX5_folds_4 : decode cX5_folds 4 = .ok (.iload_n 1, 1) := by decide +kernel
theorem dX5_folds_5 : decode cX5_folds 5 = .ok (.iaload, 1) := by decide +kernel
theorem dX5_folds_6 : decode cX5_folds 6 = .ok (.istore_n 2, 1) := by decide +kernel
theorem dX5_folds_7 : decode cX5_folds 7 = .ok (.iconst 0, 1) := by decide +kernel
theorem dX5_folds_8 : decode cX5_folds 8 = .ok (.istore_n 3, 1) := by decide +kernel
theorem dX5_folds_9 : decode cX5_folds 9 = .ok (.iload_n 3, 1) := by decide +kernel
theorem dX5_folds_10 : decode cX5_folds 10 = .ok (.iload_n 2, 1) := by decide +kernel
theorem dX5_folds_11 : decode cX5_folds 11 = .ok (.if_icmp .ge 30, 3) := by decide +kernel
theorem dX5_folds_14 : decode cX5_folds 14 = .ok (.aload_n 0, 1) := by decide +kernel
theorem dX5_folds_15 : decode cX5_folds 15 = .ok (.getfield 37, 3) := by decide +kernel
theorem dX5_folds_18 : decode cX5_folds 18 = .ok (.iload_n 3, 1) := by decide +kernel
theorem dX5_folds_19 : decode cX5_folds 19 = .ok (.iload_n 3, 1) := by decide +kernel
theorem dX5_folds_20 : decode cX5_folds 20 = .ok (.iastore, 1) := by decide +kernel
theorem dX5_folds_21 : decode cX5_folds 21 = .ok (.aload_n 0, 1) := by decide +kernel
theorem dX5_folds_22 : decode cX5_folds 22 = .ok (.getfield 40, 3) := by decide +kernel
theorem dX5_folds_25 : decode cX5_folds 25 = .ok (.iload_n 3, 1) := by decide +kernel
theorem dX5_folds_26 : decode cX5_folds 26 = .ok (.iconst 0, 1) := by decide +kernel
theorem dX5_folds_27 : decode cX5_folds 27 = .ok (.iastore, 1) := by decide +kernel
theorem dX5_folds_28 : decode cX5_folds 28 = .ok (.aload_n 0, 1) := by decide +kernel
theorem dX5_folds_29 : decode cX5_folds 29 = .ok (.getfield 43, 3) := by decide +kernel
theorem dX5_folds_32 : decode cX5_folds 32 = .ok (.iload_n 3, 1) := by decide +kernel
theorem dX5_folds_33 : decode cX5_folds 33 = .ok (.iconst 0, 1) := by decide +kernel
theorem dX5_folds_34 : decode cX5_folds 34 = .ok (.iastore, 1) := by decide +kernel
theorem dX5_folds_35 : decode cX5_folds 35 = .ok (.iinc 3 1, 3) := by decide +kernel
theorem dX5_folds_38 : decode cX5_folds 38 = .ok (.goto (-29), 3) := by decide +kernel
theorem dX5_folds_41 : decode cX5_folds 41 = .ok (.aload_n 0, 1) := by decide +kernel
theorem dX5_folds_42 : decode cX5_folds 42 = .ok (.iload_n 2, 1) := by decide +kernel
theorem dX5_folds_43 : decode cX5_folds 43 = .ok (.putfield 73, 3) := by decide +kernel
theorem dX5_folds_46 : decode cX5_folds 46 = .ok (.aload_n 0, 1) := by decide +kernel
theorem dX5_folds_47 : decode cX5_folds 47 = .ok (.iconst 0, 1) := by decide +kernel
theorem dX5_folds_48 : decode cX5_folds 48 = .ok (.putfield 70, 3) := by decide +kernel
theorem dX5_folds_51 : decode cX5_folds 51 = .ok (.aload_n 0, 1) := by decide +kernel
theorem dX5_folds_52 : decode cX5_folds 52 = .ok (.iload_n 2, 1) := by decide +kernel
theorem dX5_folds_53 : decode cX5_folds 53 = .ok (.invokevirtual 76, 3) := by decide +kernel
theorem dX5_folds_56 : decode cX5_folds 56 = .ok (.iconst 0, 1) := by decide +kernel
theorem dX5_folds_57 : decode cX5_folds 57 = .ok (.istore_n 3, 1) := by decide +kernel
theorem dX5_folds_58 : decode cX5_folds 58 = .ok (.iload_n 3, 1) := by decide +kernel
theorem dX5_folds_59 : decode cX5_folds 59 = .ok (.aload_n 0, 1) := by decide +kernel
theorem dX5_folds_60 : decode cX5_folds 60 = .ok (.getfield 19, 3) := by decide +kernel
theorem dX5_folds_63 : decode cX5_folds 63 = .ok (.iload_n 1, 1) := by decide +kernel
theorem dX5_folds_64 : decode cX5_folds 64 = .ok (.iaload, 1) := by decide +kernel
theorem dX5_folds_65 : decode cX5_folds 65 = .ok (.if_icmp .ge 45, 3) := by decide +kernel
theorem dX5_folds_68 : decode cX5_folds 68 = .ok (.aload_n 0, 1) := by decide +kernel
theorem dX5_folds_69 : decode cX5_folds 69 = .ok (.iload_n 2, 1) := by decide +kernel
theorem dX5_folds_70 : decode cX5_folds 70 = .ok (.aload_n 0, 1) := by decide +kernel
theorem dX5_folds_71 : decode cX5_folds 71 = .ok (.getfield 28, 3) := by decide +kernel
theorem dX5_folds_74 : decode cX5_folds 74 = .ok (.bipush 10, 2) := by decide +kernel
theorem dX5_folds_76 : decode cX5_folds 76 = .ok (.iload_n 1, 1) := by decide +kernel
theorem dX5_folds_77 : decode cX5_folds 77 = .ok (.imul, 1) := by decide +kernel
theorem dX5_folds_78 : decode cX5_folds 78 = .ok (.iload_n 3, 1) := by decide +kernel
theorem dX5_folds_79 : decode cX5_folds 79 = .ok (.iadd, 1) := by decide +kernel
theorem dX5_folds_80 : decode cX5_folds 80 = .ok (.iaload, 1) := by decide +kernel
theorem dX5_folds_81 : decode cX5_folds 81 = .ok (.aload_n 0, 1) := by decide +kernel
theorem dX5_folds_82 : decode cX5_folds 82 = .ok (.getfield 31, 3) := by decide +kernel
theorem dX5_folds_85 : decode cX5_folds 85 = .ok (.bipush 10, 2) := by decide +kernel
theorem dX5_folds_87 : decode cX5_folds 87 = .ok (.iload_n 1, 1) := by decide +kernel
theorem dX5_folds_88 : decode cX5_folds 88 = .ok (.imul, 1) := by decide +kernel
theorem dX5_folds_89 : decode cX5_folds 89 = .ok (.iload_n 3, 1) := by decide +kernel
theorem dX5_folds_90 : decode cX5_folds 90 = .ok (.iadd, 1) := by decide +kernel
theorem dX5_folds_91 : decode cX5_folds 91 = .ok (.iaload, 1) := by decide +kernel
theorem dX5_folds_92 : decode cX5_folds 92 = .ok (.iconst 1, 1) := by decide +kernel
theorem dX5_folds_93 : decode cX5_folds 93 = .ok (.if_icmp .ne 7, 3) := by decide +kernel
theorem dX5_folds_96 : decode cX5_folds 96 = .ok (.iconst 1, 1) := by decide +kernel
theorem dX5_folds_97 : decode cX5_folds 97 = .ok (.goto 4, 3) := by decide +kernel
theorem dX5_folds_100 : decode cX5_folds 100 = .ok (.iconst 0, 1) := by decide +kernel
theorem dX5_folds_101 : decode cX5_folds 101 = .ok (.invokevirtual 80, 3) := by decide +kernel
theorem dX5_folds_104 : decode cX5_folds 104 = .ok (.iinc 3 1, 3) := by decide +kernel
theorem dX5_folds_107 : decode cX5_folds 107 = .ok (.goto (-49), 3) := by decide +kernel
theorem dX5_folds_110 : decode cX5_folds 110 = .ok (.return_, 1) := by decide +kernel
theorem dX5_ownKinds_0 : decode cX5_ownKinds 0 = .ok (.iconst 0, 1) := by decide +kernel
theorem dX5_ownKinds_1 : decode cX5_ownKinds 1 = .ok (.istore_n 2, 1) := by decide +kernel
theorem dX5_ownKinds_2 : decode cX5_ownKinds 2 = .ok (.iconst 0, 1) := by decide +kernel
theorem dX5_ownKinds_3 : decode cX5_ownKinds 3 = .ok (.istore_n 3, 1) := by decide +kernel
theorem dX5_ownKinds_4 : decode cX5_ownKinds 4 = .ok (.iload_n 3, 1) := by decide +kernel
theorem dX5_ownKinds_5 : decode cX5_ownKinds 5 = .ok (.aload_n 0, 1) := by decide +kernel
theorem dX5_ownKinds_6 : decode cX5_ownKinds 6 = .ok (.getfield 19, 3) := by decide +kernel
theorem dX5_ownKinds_9 : decode cX5_ownKinds 9 = .ok (.iload_n 1, 1) := by decide +kernel
theorem dX5_ownKinds_10 : decode cX5_ownKinds 10 = .ok (.iaload, 1) := by decide +kernel
theorem dX5_ownKinds_11 : decode cX5_ownKinds 11 = .ok (.if_icmp .ge 25, 3) := by decide +kernel
theorem dX5_ownKinds_14 : decode cX5_ownKinds 14 = .ok (.iload_n 2, 1) := by decide +kernel
theorem dX5_ownKinds_15 : decode cX5_ownKinds 15 = .ok (.iconst 1, 1) := by decide +kernel
theorem dX5_ownKinds_16 : decode cX5_ownKinds 16 = .ok (.aload_n 0, 1) := by decide +kernel
theorem dX5_ownKinds_17 : decode cX5_ownKinds 17 = .ok (.getfield 25, 3) := by decide +kernel
theorem dX5_ownKinds_20 : decode cX5_ownKinds 20 = .ok (.bipush 10, 2) := by decide +kernel
theorem dX5_ownKinds_22 : decode cX5_ownKinds 22 = .ok (.iload_n 1, 1) := by decide +kernel
theorem dX5_ownKinds_23 : decode cX5_ownKinds 23 = .ok (.imul, 1) := by decide +kernel
theorem dX5_ownKinds_24 : decode cX5_ownKinds 24 = .ok (.iload_n 3, 1) := by decide +kernel
theorem dX5_ownKinds_25 : decode cX5_ownKinds 25 = .ok (.iadd, 1) := by decide +kernel
theorem dX5_ownKinds_26 : decode cX5_ownKinds 26 = .ok (.iaload, 1) := by decide +kernel
theorem dX5_ownKinds_27 : decode cX5_ownKinds 27 = .ok (.ishl, 1) := by decide +kernel
theorem dX5_ownKinds_28 : decode cX5_ownKinds 28 = .ok (.ior, 1) := by decide +kernel
theorem dX5_ownKinds_29 : decode cX5_ownKinds 29 = .ok (.istore_n 2, 1) := by decide +kernel
theorem dX5_ownKinds_30 : decode cX5_ownKinds 30 = .ok (.iinc 3 1, 3) := by decide +kernel
theorem dX5_ownKinds_33 : decode cX5_ownKinds 33 = .ok (.goto (-29), 3) := by decide +kernel
theorem dX5_ownKinds_36 : decode cX5_ownKinds 36 = .ok (.iload_n 2, 1) := by decide +kernel
theorem dX5_ownKinds_37 : decode cX5_ownKinds 37 = .ok (.ireturn, 1) := by decide +kernel
set_option maxRecDepth 20000 in
theorem ggX5_fold_X5_in : GoodIn wsX5_fold wsX5_in := goodIn_r _ [12] (by decide +kernel) (by decide +kernel)
set_option maxRecDepth 20000 in
theorem gX5_fold_X5_in : GoodIn wsX5_fold (va_wsS RX5 59 yX5_in wsX5_in) := goodIn_app (goodIn_of _ (by decide +kernel)) ggX5_fold_X5_in
set_option maxRecDepth 20000 in
theorem ggX5_fold_X5_folds : GoodIn wsX5_fold wsX5_folds := goodIn_r _ [16, 17, 18, 19, 20, 3, 21, 4, 7, 8, 22, 23, 24, 11, 25, 26, 27, 28, 29, 30, 39, 40, 41, 42, 43, 44, 45, 46, 47, 48, 49, 50, 51, 52, 53, 54, 55, 56, 57, 58] (by decide +kernel) (by decide +kernel)
set_option maxRecDepth 20000 in
theorem gX5_fold_X5_folds : GoodIn wsX5_fold (wsV RX5 84 RX5 yX5_folds wsX5_folds) := goodIn_app (goodIn_of _ (by decide +kernel)) ggX5_fold_X5_folds
set_option maxRecDepth 20000 in
theorem ggX5_fold_X5_fails : GoodIn wsX5_fold wsX5_fails := goodIn_r _ [34, 2, 39, 40, 41, 42, 43, 44, 45, 46, 47, 48, 49, 50, 51, 52, 53, 54, 55, 56, 57, 58] (by decide +kernel) (by decide +kernel)
set_option maxRecDepth 20000 in
theorem gX5_fold_X5_fails : GoodIn wsX5_fold (wsV RX5 67 RX5 yX5_fails wsX5_fails) := goodIn_app (goodIn_of _ (by decide +kernel)) ggX5_fold_X5_fails
set_option maxRecDepth 20000 in
theorem ggX5_fold_X5_ownKinds : GoodIn wsX5_fold wsX5_ownKinds := goodIn_r _ [38, 4, 6, 39, 40, 41, 42, 43, 44, 45, 46, 47, 48, 49, 50, 51, 52, 53, 54, 55, 56, 57, 58] (by decide +kernel) (by decide +kernel)
set_option maxRecDepth 20000 in
theorem gX5_fold_X5_ownKinds : GoodIn wsX5_fold (wsV RX5 87 RX5 yX5_ownKinds wsX5_ownKinds) := goodIn_app (goodIn_of _ (by decide +kernel)) ggX5_fold_X5_ownKinds
theorem dX5_fold_0 : decode cX5_fold 0 = .ok (.aload_n 0, 1) := by decide +kernel
theorem dX5_fold_1 : decode cX5_fold 1 = .ok (.iload_n 1, 1) := by decide +kernel
theorem dX5_fold_2 : decode cX5_fold 2 = .ok (.iconst 0, 1) := by decide +kernel
theorem dX5_fold_3 : decode cX5_fold 3 = .ok (.aload_n 0, 1) := by decide +kernel
theorem dX5_fold_4 : decode cX5_fold 4 = .ok (.getfield 56, 3) := by decide +kernel
theorem dX5_fold_7 : decode cX5_fold 7 = .ok (.iconst 1, 1) := by decide +kernel
theorem dX5_fold_8 : decode cX5_fold 8 = .ok (.isub, 1) := by decide +kernel
theorem dX5_fold_9 : decode cX5_fold 9 = .ok (.invokestatic 59, 3) := by decide +kernel
theorem dX5_fold_12 : decode cX5_fold 12 = .ok (.ifCond .eq 13, 3) := by decide +kernel
theorem dX5_fold_15 : decode cX5_fold 15 = .ok (.iload_n 2, 1) := by decide +kernel
theorem dX5_fold_16 : decode cX5_fold 16 = .ok (.iconst 0, 1) := by decide +kernel
theorem dX5_fold_17 : decode cX5_fold 17 = .ok (.bipush 7, 2) := by decide +kernel
theorem dX5_fold_19 : decode cX5_fold 19 = .ok (.invokestatic 59, 3) := by decide +kernel
theorem dX5_fold_22 : decode cX5_fold 22 = .ok (.ifCond .ne 7, 3) := by decide +kernel
theorem dX5_fold_25 : decode cX5_fold 25 = .ok (.iconst 1, 1) := by decide +kernel
theorem dX5_fold_26 : decode cX5_fold 26 = .ok (.goto 4, 3) := by decide +kernel
theorem dX5_fold_29 : decode cX5_fold 29 = .ok (.iconst 0, 1) := by decide +kernel
theorem dX5_fold_30 : decode cX5_fold 30 = .ok (.putfield 52, 3) := by decide +kernel
theorem dX5_fold_33 : decode cX5_fold 33 = .ok (.aload_n 0, 1) := by decide +kernel
theorem dX5_fold_34 : decode cX5_fold 34 = .ok (.getfield 52, 3) := by decide +kernel
theorem dX5_fold_37 : decode cX5_fold 37 = .ok (.ifCond .le 5, 3) := by decide +kernel
theorem dX5_fold_40 : decode cX5_fold 40 = .ok (.iconst 0, 1) := by decide +kernel
theorem dX5_fold_41 : decode cX5_fold 41 = .ok (.ireturn, 1) := by decide +kernel
theorem dX5_fold_42 : decode cX5_fold 42 = .ok (.aload_n 0, 1) := by decide +kernel
theorem dX5_fold_43 : decode cX5_fold 43 = .ok (.iload_n 1, 1) := by decide +kernel
theorem dX5_fold_44 : decode cX5_fold 44 = .ok (.invokevirtual 84, 3) := by decide +kernel
theorem dX5_fold_47 : decode cX5_fold 47 = .ok (.iload_n 3, 1) := by decide +kernel
theorem dX5_fold_48 : decode cX5_fold 48 = .ok (.iconst 1, 1) := by decide +kernel
theorem dX5_fold_49 : decode cX5_fold 49 = .ok (.aload_n 0, 1) := by decide +kernel
theorem dX5_fold_50 : decode cX5_fold 50 = .ok (.getfield 73, 3) := by decide +kernel
theorem dX5_fold_53 : decode cX5_fold 53 = .ok (.iconst 1, 1) := by decide +kernel
theorem dX5_fold_54 : decode cX5_fold 54 = .ok (.isub, 1) := by decide +kernel
theorem dX5_fold_55 : decode cX5_fold 55 = .ok (.invokestatic 59, 3) := by decide +kernel
theorem dX5_fold_58 : decode cX5_fold 58 = .ok (.ifCond .ne 9, 3) := by decide +kernel
theorem dX5_fold_61 : decode cX5_fold 61 = .ok (.aload_n 0, 1) := by decide +kernel
theorem dX5_fold_62 : decode cX5_fold 62 = .ok (.iconst 2, 1) := by decide +kernel
theorem dX5_fold_63 : decode cX5_fold 63 = .ok (.invokevirtual 67, 3) := by decide +kernel
theorem dX5_fold_66 : decode cX5_fold 66 = .ok (.ireturn, 1) := by decide +kernel
theorem dX5_fold_67 : decode cX5_fold 67 = .ok (.aload_n 0, 1) := by decide +kernel
theorem dX5_fold_68 : decode cX5_fold 68 = .ok (.getfield 19, 3) := by decide +kernel
theorem dX5_fold_71 : decode cX5_fold 71 = .ok (.iload_n 1, 1) := by decide +kernel
theorem dX5_fold_72 : decode cX5_fold 72 = .ok (.iaload, 1) := by decide +kernel
theorem dX5_fold_73 : decode cX5_fold 73 = .ok (.bipush 10, 2) := by decide +kernel
theorem dX5_fold_75 : decode cX5_fold 75 = .ok (.if_icmp .eq 20, 3) := by decide +kernel
theorem dX5_fold_78 : decode cX5_fold 78 = .ok (.aload_n 0, 1) := by decide +kernel
theorem dX5_fold_79 : decode cX5_fold 79 = .ok (.getfield 7, 3) := by decide +kernel
theorem dX5_fold_82 : decode cX5_fold 82 = .ok (.iload_n 2, 1) := by decide +kernel
theorem dX5_fold_83 : decode cX5_fold 83 = .ok (.iaload, 1) := by decide +kernel
theorem dX5_fold_84 : decode cX5_fold 84 = .ok (.aload_n 0, 1) := by decide +kernel
theorem dX5_fold_85 : decode cX5_fold 85 = .ok (.iload_n 1, 1) := by decide +kernel
theorem dX5_fold_86 : decode cX5_fold 86 = .ok (.invokevirtual 87, 3) := by decide +kernel
theorem dX5_fold_89 : decode cX5_fold 89 = .ok (.iconst (-1), 1) := by decide +kernel
theorem dX5_fold_90 : decode cX5_fold 90 = .ok (.ixor, 1) := by decide +kernel
theorem dX5_fold_91 : decode cX5_fold 91 = .ok (.iand, 1) := by decide +kernel
theorem dX5_fold_92 : decode cX5_fold 92 = .ok (.ifCond .eq 9, 3) := by decide +kernel
theorem dX5_fold_95 : decode cX5_fold 95 = .ok (.aload_n 0, 1) := by decide +kernel
theorem dX5_fold_96 : decode cX5_fold 96 = .ok (.iconst 3, 1) := by decide +kernel
theorem dX5_fold_97 : decode cX5_fold 97 = .ok (.invokevirtual 67, 3) := by decide +kernel
theorem dX5_fold_100 : decode cX5_fold 100 = .ok (.ireturn, 1) := by decide +kernel
theorem dX5_fold_101 : decode cX5_fold 101 = .ok (.bipush 10, 2) := by decide +kernel
theorem dX5_fold_103 : decode cX5_fold 103 = .ok (.iload_n 1, 1) := by decide +kernel
theorem dX5_fold_104 : decode cX5_fold 104 = .ok (.imul, 1) := by decide +kernel
theorem dX5_fold_105 : decode cX5_fold 105 = .ok (.aload_n 0, 1) := by decide +kernel
theorem dX5_fold_106 : decode cX5_fold 106 = .ok (.getfield 19, 3) := by decide +kernel
theorem dX5_fold_109 : decode cX5_fold 109 = .ok (.iload_n 1, 1) := by decide +kernel
theorem dX5_fold_110 : decode cX5_fold 110 = .ok (.iaload, 1) := by decide +kernel
theorem dX5_fold_111 : decode cX5_fold 111 = .ok (.iadd, 1) := by decide +kernel
theorem dX5_fold_112 : decode cX5_fold 112 = .ok (.istore 5, 2) := by decide +kernel
theorem dX5_fold_114 : decode cX5_fold 114 = .ok (.aload_n 0, 1) := by decide +kernel
theorem dX5_fold_115 : decode cX5_fold 115 = .ok (.getfield 25, 3) := by decide +kernel
theorem dX5_fold_118 : decode cX5_fold 118 = .ok (.iload 5, 2) := by decide +kernel
theorem dX5_fold_120 : decode cX5_fold 120 = .ok (.iload_n 2, 1) := by decide +kernel
theorem dX5_fold_121 : decode cX5_fold 121 = .ok (.iastore, 1) := by decide +kernel
theorem dX5_fold_122 : decode cX5_fold 122 = .ok (.aload_n 0, 1) := by decide +kernel
theorem dX5_fold_123 : decode cX5_fold 123 = .ok (.getfield 28, 3) := by decide +kernel
theorem dX5_fold_126 : decode cX5_fold 126 = .ok (.iload 5, 2) := by decide +kernel
theorem dX5_fold_128 : decode cX5_fold 128 = .ok (.iload_n 3, 1) := by decide +kernel
theorem dX5_fold_129 : decode cX5_fold 129 = .ok (.iastore, 1) := by decide +kernel
theorem dX5_fold_130 : decode cX5_fold 130 = .ok (.aload_n 0, 1) := by decide +kernel
theorem dX5_fold_131 : decode cX5_fold 131 = .ok (.getfield 31, 3) := by decide +kernel
theorem dX5_fold_134 : decode cX5_fold 134 = .ok (.iload 5, 2) := by decide +kernel
theorem dX5_fold_136 : decode cX5_fold 136 = .ok (.iload 4, 2) := by decide +kernel
theorem dX5_fold_138 : decode cX5_fold 138 = .ok (.ifCond .eq 7, 3) := by decide +kernel
theorem dX5_fold_141 : decode cX5_fold 141 = .ok (.iconst 1, 1) := by decide +kernel
theorem dX5_fold_142 : decode cX5_fold 142 = .ok (.goto 4, 3) := by decide +kernel
theorem dX5_fold_145 : decode cX5_fold 145 = .ok (.iconst 0, 1) := by decide +kernel
theorem dX5_fold_146 : decode cX5_fold 146 = .ok (.iastore, 1) := by decide +kernel
theorem dX5_fold_147 : decode cX5_fold 147 = .ok (.aload_n 0, 1) := by decide +kernel
theorem dX5_fold_148 : decode cX5_fold 148 = .ok (.getfield 19, 3) := by decide +kernel
theorem dX5_fold_151 : decode cX5_fold 151 = .ok (.iload_n 1, 1) := by decide +kernel
theorem dX5_fold_152 : decode cX5_fold 152 = .ok (.dup2, 1) := by decide +kernel
theorem dX5_fold_153 : decode cX5_fold 153 = .ok (.iaload, 1) := by decide +kernel
theorem dX5_fold_154 : decode cX5_fold 154 = .ok (.iconst 1, 1) := by decide +kernel
theorem dX5_fold_155 : decode cX5_fold 155 = .ok (.iadd, 1) := by decide +kernel
theorem dX5_fold_156 : decode cX5_fold 156 = .ok (.iastore, 1) := by decide +kernel
theorem dX5_fold_157 : decode cX5_fold 157 = .ok (.iload_n 3, 1) := by decide +kernel
theorem dX5_fold_158 : decode cX5_fold 158 = .ok (.aload_n 0, 1) := by decide +kernel
theorem dX5_fold_159 : decode cX5_fold 159 = .ok (.getfield 73, 3) := by decide +kernel
theorem dX5_fold_162 : decode cX5_fold 162 = .ok (.iload_n 3, 1) := by decide +kernel
theorem dX5_fold_163 : decode cX5_fold 163 = .ok (.isub, 1) := by decide +kernel
theorem dX5_fold_164 : decode cX5_fold 164 = .ok (.if_icmp .le 7, 3) := by decide +kernel
theorem dX5_fold_167 : decode cX5_fold 167 = .ok (.iload_n 3, 1) := by decide +kernel
theorem dX5_fold_168 : decode cX5_fold 168 = .ok (.goto 9, 3) := by decide +kernel
theorem dX5_fold_171 : decode cX5_fold 171 = .ok (.aload_n 0, 1) := by decide +kernel
theorem dX5_fold_172 : decode cX5_fold 172 = .ok (.getfield 73, 3) := by decide +kernel
theorem dX5_fold_175 : decode cX5_fold 175 = .ok (.iload_n 3, 1) := by decide +kernel
theorem dX5_fold_176 : decode cX5_fold 176 = .ok (.isub, 1) := by decide +kernel
theorem dX5_fold_177 : decode cX5_fold 177 = .ok (.ireturn, 1) := by decide +kernel
set_option maxRecDepth 20000 in
theorem ggX5_unfold_X5_isModel : GoodIn wsX5_unfold wsX5_isModel := goodIn_r _ [7, 8, 9, 10, 11, 6, 12, 17, 18, 19, 20, 21, 22, 23, 24, 25, 26, 27, 28, 29, 30, 31, 32, 33, 34, 35, 36] (by decide +kernel) (by decide +kernel)
set_option maxRecDepth 20000 in
theorem gX5_unfold_X5_isModel : GoodIn wsX5_unfold (wsV RX5 90 RX5 yX5_isModel wsX5_isModel) := goodIn_app (goodIn_of _ (by decide +kernel)) ggX5_unfold_X5_isModel
set_option maxRecDepth 20000 in
theorem ggX5_unfold_X5_fails : GoodIn wsX5_unfold wsX5_fails := goodIn_r _ [16, 9, 17, 18, 19, 20, 21, 22, 23, 24, 25, 26, 27, 28, 29, 30, 31, 32, 33, 34, 35, 36] (by decide +kernel) (by decide +kernel)
set_option maxRecDepth 20000 in
theorem gX5_unfold_X5_fails : GoodIn wsX5_unfold (wsV RX5 67 RX5 yX5_fails wsX5_fails) := goodIn_app (goodIn_of _ (by decide +kernel)) ggX5_unfold_X5_fails
theorem dX5_unfold_0 : decode cX5_unfold 0 = .ok (.aload_n 0, 1) := by decide +kernel
theorem dX5_unfold_1 : decode cX5_unfold 1 = .ok (.iload_n 1, 1) := by decide +kernel
theorem dX5_unfold_2 : decode cX5_unfold 2 = .ok (.invokevirtual 90, 3) := by decide +kernel
theorem dX5_unfold_5 : decode cX5_unfold 5 = .ok (.ifCond .ne 5, 3) := by decide +kernel
theorem dX5_unfold_8 : decode cX5_unfold 8 = .ok (.iconst 0, 1) := by decide +kernel
theorem dX5_unfold_9 : decode cX5_unfold 9 = .ok (.ireturn, 1) := by decide +kernel
theorem dX5_unfold_10 : decode cX5_unfold 10 = .ok (.aload_n 0, 1) := by decide +kernel
theorem dX5_unfold_11 : decode cX5_unfold 11 = .ok (.getfield 19, 3) := by decide +kernel
theorem dX5_unfold_14 : decode cX5_unfold 14 = .ok (.iload_n 1, 1) := by decide +kernel
theorem dX5_unfold_15 : decode cX5_unfold 15 = .ok (.iaload, 1) := by decide +kernel
theorem dX5_unfold_16 : decode cX5_unfold 16 = .ok (.ifCond .ne 9, 3) := by decide +kernel
theorem dX5_unfold_19 : decode cX5_unfold 19 = .ok (.aload_n 0, 1) := by decide +kernel
theorem dX5_unfold_20 : decode cX5_unfold 20 = .ok (.iconst 2, 1) := by decide +kernel
theorem dX5_unfold_21 : decode cX5_unfold 21 = .ok (.invokevirtual 67, 3) := by decide +kernel
theorem dX5_unfold_24 : decode cX5_unfold 24 = .ok (.ireturn, 1) := by decide +kernel
theorem dX5_unfold_25 : decode cX5_unfold 25 = .ok (.aload_n 0, 1) := by decide +kernel
theorem dX5_unfold_26 : decode cX5_unfold 26 = .ok (.getfield 19, 3) := by decide +kernel
theorem dX5_unfold_29 : decode cX5_unfold 29 = .ok (.iload_n 1, 1) := by decide +kernel
theorem dX5_unfold_30 : decode cX5_unfold 30 = .ok (.dup2, 1) := by decide +kernel
theorem dX5_unfold_31 : decode cX5_unfold 31 = .ok (.iaload, 1) := by decide +kernel
theorem dX5_unfold_32 : decode cX5_unfold 32 = .ok (.iconst 1, 1) := by decide +kernel
theorem dX5_unfold_33 : decode cX5_unfold 33 = .ok (.isub, 1) := by decide +kernel
theorem dX5_unfold_34 : decode cX5_unfold 34 = .ok (.iastore, 1) := by decide +kernel
theorem dX5_unfold_35 : decode cX5_unfold 35 = .ok (.aload_n 0, 1) := by decide +kernel
theorem dX5_unfold_36 : decode cX5_unfold 36 = .ok (.getfield 25, 3) := by decide +kernel
theorem dX5_unfold_39 : decode cX5_unfold 39 = .ok (.bipush 10, 2) := by decide +kernel
theorem dX5_unfold_41 : decode cX5_unfold 41 = .ok (.iload_n 1, 1) := by decide +kernel
theorem dX5_unfold_42 : decode cX5_unfold 42 = .ok (.imul, 1) := by decide +kernel
theorem dX5_unfold_43 : decode cX5_unfold 43 = .ok (.aload_n 0, 1) := by decide +kernel
theorem dX5_unfold_44 : decode cX5_unfold 44 = .ok (.getfield 19, 3) := by decide +kernel
theorem dX5_unfold_47 : decode cX5_unfold 47 = .ok (.iload_n 1, 1) := by decide +kernel
theorem dX5_unfold_48 : decode cX5_unfold 48 = .ok (.iaload, 1) := by decide +kernel
theorem dX5_unfold_49 : decode cX5_unfold 49 = .ok (.iadd, 1) := by decide +kernel
theorem dX5_unfold_50 : decode cX5_unfold 50 = .ok (.iaload, 1) := by decide +kernel
theorem dX5_unfold_51 : decode cX5_unfold 51 = .ok (.ireturn, 1) := by decide +kernel
theorem dX5_used_0 : decode cX5_used 0 = .ok (.iconst 1, 1) := by decide +kernel
theorem dX5_used_1 : decode cX5_used 1 = .ok (.iload_n 1, 1) := by decide +kernel
theorem dX5_used_2 : decode cX5_used 2 = .ok (.ishl, 1) := by decide +kernel
theorem dX5_used_3 : decode cX5_used 3 = .ok (.istore_n 2, 1) := by decide +kernel
theorem dX5_used_4 : decode cX5_used 4 = .ok (.iconst 0, 1) := by decide +kernel
theorem dX5_used_5 : decode cX5_used 5 = .ok (.istore_n 3, 1) := by decide +kernel
theorem dX5_used_6 : decode cX5_used 6 = .ok (.iload_n 3, 1) := by decide +kernel
theorem dX5_used_7 : decode cX5_used 7 = .ok (.bipush 8, 2) := by decide +kernel
theorem dX5_used_9 : decode cX5_used 9 = .ok (.if_icmp .ge 51, 3) := by decide +kernel
theorem dX5_used_12 : decode cX5_used 12 = .ok (.iconst 0, 1) := by decide +kernel
theorem dX5_used_13 : decode cX5_used 13 = .ok (.istore 4, 2) := by decide +kernel
theorem dX5_used_15 : decode cX5_used 15 = .ok (.iload 4, 2) := by decide +kernel
theorem dX5_used_17 : decode cX5_used 17 = .ok (.aload_n 0, 1) := by decide +kernel
theorem dX5_used_18 : decode cX5_used 18 = .ok (.getfield 56, 3) := by decide +kernel
theorem dX5_used_21 : decode cX5_used 21 = .ok (.if_icmp .ge 33, 3) := by decide +kernel
theorem dX5_used_24 : decode cX5_used 24 = .ok (.iload_n 2, 1) := by decide +kernel
theorem dX5_used_25 : decode cX5_used 25 = .ok (.iload_n 2, 1) := by decide +kernel
theorem dX5_used_26 : decode cX5_used 26 = .ok (.iload 4, 2) := by decide +kernel
theorem dX5_used_28 : decode cX5_used 28 = .ok (.ishr, 1) := by decide +kernel
theorem dX5_used_29 : decode cX5_used 29 = .ok (.iconst 1, 1) := by decide +kernel
theorem dX5_used_30 : decode cX5_used 30 = .ok (.iand, 1) := by decide +kernel
theorem dX5_used_31 : decode cX5_used 31 = .ok (.iconst 1, 1) := by decide +kernel
theorem dX5_used_32 : decode cX5_used 32 = .ok (.if_icmp .ne 13, 3) := by decide +kernel
theorem dX5_used_35 : decode cX5_used 35 = .ok (.aload_n 0, 1) := by decide +kernel
theorem dX5_used_36 : decode cX5_used 36 = .ok (.getfield 22, 3) := by decide +kernel
theorem dX5_used_39 : decode cX5_used 39 = .ok (.iload 4, 2) := by decide +kernel
theorem dX5_used_41 : decode cX5_used 41 = .ok (.iaload, 1) := by decide +kernel
theorem dX5_used_42 : decode cX5_used 42 = .ok (.goto 4, 3) := by decide +kernel
theorem dX5_used_45 : decode cX5_used 45 = .ok (.iconst 0, 1) := by decide +kernel
theorem dX5_used_46 : decode cX5_used 46 = .ok (.ior, 1) := by decide +kernel
theorem dX5_used_47 : decode cX5_used 47 = .ok (.istore_n 2, 1) := by decide +kernel
theorem dX5_used_48 : decode cX5_used 48 = .ok (.iinc 4 1, 3) := by decide +kernel
theorem dX5_used_51 : decode cX5_used 51 = .ok (.goto (-36), 3) := by decide +kernel
theorem dX5_used_54 : decode cX5_used 54 = .ok (.iinc 3 1, 3) := by decide +kernel
theorem dX5_used_57 : decode cX5_used 57 = .ok (.goto (-51), 3) := by decide +kernel
theorem dX5_used_60 : decode cX5_used 60 = .ok (.iload_n 2, 1) := by decide +kernel
theorem dX5_used_61 : decode cX5_used 61 = .ok (.ireturn, 1) := by decide +kernel
set_option maxRecDepth 20000 in
theorem ggX5_use_X5_in : GoodIn wsX5_use wsX5_in := goodIn_r _ [7] (by decide +kernel) (by decide +kernel)
set_option maxRecDepth 20000 in
theorem gX5_use_X5_in : GoodIn wsX5_use (va_wsS RX5 59 yX5_in wsX5_in) := goodIn_app (goodIn_of _ (by decide +kernel)) ggX5_use_X5_in
set_option maxRecDepth 20000 in
theorem ggX5_use_X5_used : GoodIn wsX5_use wsX5_used := goodIn_r _ [11, 1, 3, 12, 13, 14, 15, 16, 17, 18, 19, 20, 21, 22, 23, 24, 25, 26, 27, 28, 29, 30, 31] (by decide +kernel) (by decide +kernel)
end
section
set_option maxRecDepth 20000 in
theorem gX5_use_X5_used : GoodIn wsX5_use (wsV RX5 94 RX5 yX5_used wsX5_used) := goodIn_app (goodIn_of _ (by decide +kernel)) ggX5_use_X5_used
theorem dX5_use_0 : decode cX5_use 0 = .ok (.aload_n 0, 1) := by decide +kernel
theorem dX5_use_1 : decode cX5_use 1 = .ok (.iload_n 1, 1) := by decide +kernel
theorem dX5_use_2 : decode cX5_use 2 = .ok (.iconst 0, 1) := by decide +kernel
theorem dX5_use_3 : decode cX5_use 3 = .ok (.aload_n 0, 1) := by decide +kernel
theorem dX5_use_4 : decode cX5_use 4 = .ok (.getfield 56, 3) := by decide +kernel
theorem dX5_use_7 : decode cX5_use 7 = .ok (.iconst 1, 1) := by decide +kernel
theorem dX5_use_8 : decode cX5_use 8 = .ok (.isub, 1) := by decide +kernel
theorem dX5_use_9 : decode cX5_use 9 = .ok (.invokestatic 59, 3) := by decide +kernel
theorem dX5_use_12 : decode cX5_use 12 = .ok (.ifCond .eq 17, 3) := by decide +kernel
theorem dX5_use_15 : decode cX5_use 15 = .ok (.iload_n 2, 1) := by decide +kernel
theorem dX5_use_16 : decode cX5_use 16 = .ok (.iconst 0, 1) := by decide +kernel
theorem dX5_use_17 : decode cX5_use 17 = .ok (.aload_n 0, 1) := by decide +kernel
theorem dX5_use_18 : decode cX5_use 18 = .ok (.getfield 56, 3) := by decide +kernel
theorem dX5_use_21 : decode cX5_use 21 = .ok (.iconst 1, 1) := by decide +kernel
theorem dX5_use_22 : decode cX5_use 22 = .ok (.isub, 1) := by decide +kernel
theorem dX5_use_23 : decode cX5_use 23 = .ok (.invokestatic 59, 3) := by decide +kernel
theorem dX5_use_26 : decode cX5_use 26 = .ok (.ifCond .ne 7, 3) := by decide +kernel
theorem dX5_use_29 : decode cX5_use 29 = .ok (.iconst 1, 1) := by decide +kernel
theorem dX5_use_30 : decode cX5_use 30 = .ok (.goto 4, 3) := by decide +kernel
theorem dX5_use_33 : decode cX5_use 33 = .ok (.iconst 0, 1) := by decide +kernel
theorem dX5_use_34 : decode cX5_use 34 = .ok (.putfield 52, 3) := by decide +kernel
theorem dX5_use_37 : decode cX5_use 37 = .ok (.aload_n 0, 1) := by decide +kernel
theorem dX5_use_38 : decode cX5_use 38 = .ok (.getfield 52, 3) := by decide +kernel
theorem dX5_use_41 : decode cX5_use 41 = .ok (.ifCond .le 5, 3) := by decide +kernel
theorem dX5_use_44 : decode cX5_use 44 = .ok (.iconst 0, 1) := by decide +kernel
theorem dX5_use_45 : decode cX5_use 45 = .ok (.ireturn, 1) := by decide +kernel
theorem dX5_use_46 : decode cX5_use 46 = .ok (.aload_n 0, 1) := by decide +kernel
theorem dX5_use_47 : decode cX5_use 47 = .ok (.iload_n 2, 1) := by decide +kernel
theorem dX5_use_48 : decode cX5_use 48 = .ok (.invokevirtual 94, 3) := by decide +kernel
theorem dX5_use_51 : decode cX5_use 51 = .ok (.iload_n 1, 1) := by decide +kernel
theorem dX5_use_52 : decode cX5_use 52 = .ok (.ishr, 1) := by decide +kernel
theorem dX5_use_53 : decode cX5_use 53 = .ok (.iconst 1, 1) := by decide +kernel
theorem dX5_use_54 : decode cX5_use 54 = .ok (.iand, 1) := by decide +kernel
theorem dX5_use_55 : decode cX5_use 55 = .ok (.iconst 1, 1) := by decide +kernel
theorem dX5_use_56 : decode cX5_use 56 = .ok (.if_icmp .ne 10, 3) := by decide +kernel
theorem dX5_use_59 : decode cX5_use 59 = .ok (.aload_n 0, 1) := by decide +kernel
theorem dX5_use_60 : decode cX5_use 60 = .ok (.iconst 2, 1) := by decide +kernel
theorem dX5_use_61 : decode cX5_use 61 = .ok (.putfield 52, 3) := by decide +kernel
theorem dX5_use_64 : decode cX5_use 64 = .ok (.iconst 0, 1) := by decide +kernel
theorem dX5_use_65 : decode cX5_use 65 = .ok (.ireturn, 1) := by decide +kernel
theorem dX5_use_66 : decode cX5_use 66 = .ok (.aload_n 0, 1) := by decide +kernel
theorem dX5_use_67 : decode cX5_use 67 = .ok (.getfield 22, 3) := by decide +kernel
theorem dX5_use_70 : decode cX5_use 70 = .ok (.iload_n 1, 1) := by decide +kernel
theorem dX5_use_71 : decode cX5_use 71 = .ok (.iaload, 1) := by decide +kernel
theorem dX5_use_72 : decode cX5_use 72 = .ok (.iload_n 2, 1) := by decide +kernel
theorem dX5_use_73 : decode cX5_use 73 = .ok (.ishr, 1) := by decide +kernel
theorem dX5_use_74 : decode cX5_use 74 = .ok (.iconst 1, 1) := by decide +kernel
theorem dX5_use_75 : decode cX5_use 75 = .ok (.iand, 1) := by decide +kernel
theorem dX5_use_76 : decode cX5_use 76 = .ok (.ifCond .ne 7, 3) := by decide +kernel
theorem dX5_use_79 : decode cX5_use 79 = .ok (.iconst 1, 1) := by decide +kernel
theorem dX5_use_80 : decode cX5_use 80 = .ok (.goto 4, 3) := by decide +kernel
theorem dX5_use_83 : decode cX5_use 83 = .ok (.iconst 0, 1) := by decide +kernel
theorem dX5_use_84 : decode cX5_use 84 = .ok (.istore_n 3, 1) := by decide +kernel
theorem dX5_use_85 : decode cX5_use 85 = .ok (.aload_n 0, 1) := by decide +kernel
theorem dX5_use_86 : decode cX5_use 86 = .ok (.getfield 22, 3) := by decide +kernel
theorem dX5_use_89 : decode cX5_use 89 = .ok (.iload_n 1, 1) := by decide +kernel
theorem dX5_use_90 : decode cX5_use 90 = .ok (.dup2, 1) := by decide +kernel
theorem dX5_use_91 : decode cX5_use 91 = .ok (.iaload, 1) := by decide +kernel
theorem dX5_use_92 : decode cX5_use 92 = .ok (.iconst 1, 1) := by decide +kernel
theorem dX5_use_93 : decode cX5_use 93 = .ok (.iload_n 2, 1) := by decide +kernel
theorem dX5_use_94 : decode cX5_use 94 = .ok (.ishl, 1) := by decide +kernel
theorem dX5_use_95 : decode cX5_use 95 = .ok (.ior, 1) := by decide +kernel
theorem dX5_use_96 : decode cX5_use 96 = .ok (.iastore, 1) := by decide +kernel
theorem dX5_use_97 : decode cX5_use 97 = .ok (.iload_n 3, 1) := by decide +kernel
theorem dX5_use_98 : decode cX5_use 98 = .ok (.ireturn, 1) := by decide +kernel
set_option maxRecDepth 20000 in
theorem ggX5_setRoll_X5_in : GoodIn wsX5_setRoll wsX5_in := goodIn_r _ [8] (by decide +kernel) (by decide +kernel)
set_option maxRecDepth 20000 in
theorem gX5_setRoll_X5_in : GoodIn wsX5_setRoll (va_wsS RX5 59 yX5_in wsX5_in) := goodIn_app (goodIn_of _ (by decide +kernel)) ggX5_setRoll_X5_in
theorem dX5_setRoll_0 : decode cX5_setRoll 0 = .ok (.aload_n 0, 1) := by decide +kernel
theorem dX5_setRoll_1 : decode cX5_setRoll 1 = .ok (.iload_n 1, 1) := by decide +kernel
theorem dX5_setRoll_2 : decode cX5_setRoll 2 = .ok (.iconst 0, 1) := by decide +kernel
theorem dX5_setRoll_3 : decode cX5_setRoll 3 = .ok (.sipush 200, 3) := by decide +kernel
theorem dX5_setRoll_6 : decode cX5_setRoll 6 = .ok (.invokestatic 59, 3) := by decide +kernel
theorem dX5_setRoll_9 : decode cX5_setRoll 9 = .ok (.ifCond .eq 17, 3) := by decide +kernel
theorem dX5_setRoll_12 : decode cX5_setRoll 12 = .ok (.iload_n 2, 1) := by decide +kernel
theorem dX5_setRoll_13 : decode cX5_setRoll 13 = .ok (.iconst 0, 1) := by decide +kernel
theorem dX5_setRoll_14 : decode cX5_setRoll 14 = .ok (.ldc 97, 2) := by decide +kernel
theorem dX5_setRoll_16 : decode cX5_setRoll 16 = .ok (.invokestatic 59, 3) := by decide +kernel
theorem dX5_setRoll_19 : decode cX5_setRoll 19 = .ok (.ifCond .eq 7, 3) := by decide +kernel
theorem dX5_setRoll_22 : decode cX5_setRoll 22 = .ok (.iconst 0, 1) := by decide +kernel
theorem dX5_setRoll_23 : decode cX5_setRoll 23 = .ok (.goto 4, 3) := by decide +kernel
theorem dX5_setRoll_26 : decode cX5_setRoll 26 = .ok (.iconst 1, 1) := by decide +kernel
theorem dX5_setRoll_27 : decode cX5_setRoll 27 = .ok (.putfield 52, 3) := by decide +kernel
theorem dX5_setRoll_30 : decode cX5_setRoll 30 = .ok (.aload_n 0, 1) := by decide +kernel
theorem dX5_setRoll_31 : decode cX5_setRoll 31 = .ok (.getfield 52, 3) := by decide +kernel
theorem dX5_setRoll_34 : decode cX5_setRoll 34 = .ok (.ifCond .le 5, 3) := by decide +kernel
theorem dX5_setRoll_37 : decode cX5_setRoll 37 = .ok (.iconst 0, 1) := by decide +kernel
theorem dX5_setRoll_38 : decode cX5_setRoll 38 = .ok (.ireturn, 1) := by decide +kernel
theorem dX5_setRoll_39 : decode cX5_setRoll 39 = .ok (.aload_n 0, 1) := by decide +kernel
theorem dX5_setRoll_40 : decode cX5_setRoll 40 = .ok (.getfield 98, 3) := by decide +kernel
theorem dX5_setRoll_43 : decode cX5_setRoll 43 = .ok (.istore_n 3, 1) := by decide +kernel
theorem dX5_setRoll_44 : decode cX5_setRoll 44 = .ok (.aload_n 0, 1) := by decide +kernel
theorem dX5_setRoll_45 : decode cX5_setRoll 45 = .ok (.iload_n 1, 1) := by decide +kernel
theorem dX5_setRoll_46 : decode cX5_setRoll 46 = .ok (.putfield 98, 3) := by decide +kernel
theorem dX5_setRoll_49 : decode cX5_setRoll 49 = .ok (.aload_n 0, 1) := by decide +kernel
theorem dX5_setRoll_50 : decode cX5_setRoll 50 = .ok (.iload_n 2, 1) := by decide +kernel
theorem dX5_setRoll_51 : decode cX5_setRoll 51 = .ok (.putfield 101, 3) := by decide +kernel
theorem dX5_setRoll_54 : decode cX5_setRoll 54 = .ok (.iload_n 3, 1) := by decide +kernel
theorem dX5_setRoll_55 : decode cX5_setRoll 55 = .ok (.ireturn, 1) := by decide +kernel
theorem dX5_bits_0 : decode cX5_bits 0 = .ok (.iconst 0, 1) := by decide +kernel
theorem dX5_bits_1 : decode cX5_bits 1 = .ok (.istore_n 1, 1) := by decide +kernel
theorem dX5_bits_2 : decode cX5_bits 2 = .ok (.iconst 0, 1) := by decide +kernel
theorem dX5_bits_3 : decode cX5_bits 3 = .ok (.istore_n 2, 1) := by decide +kernel
theorem dX5_bits_4 : decode cX5_bits 4 = .ok (.iload_n 2, 1) := by decide +kernel
theorem dX5_bits_5 : decode cX5_bits 5 = .ok (.bipush 8, 2) := by decide +kernel
theorem dX5_bits_7 : decode cX5_bits 7 = .ok (.if_icmp .ge 17, 3) := by decide +kernel
theorem dX5_bits_10 : decode cX5_bits 10 = .ok (.iload_n 1, 1) := by decide +kernel
theorem dX5_bits_11 : decode cX5_bits 11 = .ok (.iload_n 0, 1) := by decide +kernel
theorem dX5_bits_12 : decode cX5_bits 12 = .ok (.iload_n 2, 1) := by decide +kernel
theorem dX5_bits_13 : decode cX5_bits 13 = .ok (.ishr, 1) := by decide +kernel
theorem dX5_bits_14 : decode cX5_bits 14 = .ok (.iconst 1, 1) := by decide +kernel
theorem dX5_bits_15 : decode cX5_bits 15 = .ok (.iand, 1) := by decide +kernel
theorem dX5_bits_16 : decode cX5_bits 16 = .ok (.iadd, 1) := by decide +kernel
theorem dX5_bits_17 : decode cX5_bits 17 = .ok (.istore_n 1, 1) := by decide +kernel
theorem dX5_bits_18 : decode cX5_bits 18 = .ok (.iinc 2 1, 3) := by decide +kernel
theorem dX5_bits_21 : decode cX5_bits 21 = .ok (.goto (-17), 3) := by decide +kernel
theorem dX5_bits_24 : decode cX5_bits 24 = .ok (.iload_n 1, 1) := by decide +kernel
theorem dX5_bits_25 : decode cX5_bits 25 = .ok (.ireturn, 1) := by decide +kernel
set_option maxRecDepth 20000 in
theorem ggX5_teach_X5_in : GoodIn wsX5_teach wsX5_in := goodIn_r _ [7] (by decide +kernel) (by decide +kernel)
set_option maxRecDepth 20000 in
theorem gX5_teach_X5_in : GoodIn wsX5_teach (va_wsS RX5 59 yX5_in wsX5_in) := goodIn_app (goodIn_of _ (by decide +kernel)) ggX5_teach_X5_in
set_option maxRecDepth 20000 in
theorem ggX5_teach_X5_bits : GoodIn wsX5_teach wsX5_bits := goodIn_r _ [10] (by decide +kernel) (by decide +kernel)
set_option maxRecDepth 20000 in
theorem gX5_teach_X5_bits : GoodIn wsX5_teach (va_wsS RX5 104 yX5_bits wsX5_bits) := goodIn_app (goodIn_of _ (by decide +kernel)) ggX5_teach_X5_bits
theorem dX5_teach_0 : decode cX5_teach 0 = .ok (.aload_n 0, 1) := by decide +kernel
theorem dX5_teach_1 : decode cX5_teach 1 = .ok (.iload_n 1, 1) := by decide +kernel
theorem dX5_teach_2 : decode cX5_teach 2 = .ok (.iconst 0, 1) := by decide +kernel
theorem dX5_teach_3 : decode cX5_teach 3 = .ok (.iconst 5, 1) := by decide +kernel
theorem dX5_teach_4 : decode cX5_teach 4 = .ok (.invokestatic 59, 3) := by decide +kernel
theorem dX5_teach_7 : decode cX5_teach 7 = .ok (.ifCond .eq 13, 3) := by decide +kernel
theorem dX5_teach_10 : decode cX5_teach 10 = .ok (.iload_n 2, 1) := by decide +kernel
theorem dX5_teach_11 : decode cX5_teach 11 = .ok (.iconst 0, 1) := by decide +kernel
theorem dX5_teach_12 : decode cX5_teach 12 = .ok (.bipush 7, 2) := by decide +kernel
theorem dX5_teach_14 : decode cX5_teach 14 = .ok (.invokestatic 59, 3) := by decide +kernel
theorem dX5_teach_17 : decode cX5_teach 17 = .ok (.ifCond .ne 7, 3) := by decide +kernel
theorem dX5_teach_20 : decode cX5_teach 20 = .ok (.iconst 1, 1) := by decide +kernel
theorem dX5_teach_21 : decode cX5_teach 21 = .ok (.goto 26, 3) := by decide +kernel
theorem dX5_teach_24 : decode cX5_teach 24 = .ok (.aload_n 0, 1) := by decide +kernel
theorem dX5_teach_25 : decode cX5_teach 25 = .ok (.getfield 7, 3) := by decide +kernel
theorem dX5_teach_28 : decode cX5_teach 28 = .ok (.iload_n 2, 1) := by decide +kernel
theorem dX5_teach_29 : decode cX5_teach 29 = .ok (.iaload, 1) := by decide +kernel
theorem dX5_teach_30 : decode cX5_teach 30 = .ok (.aload_n 0, 1) := by decide +kernel
theorem dX5_teach_31 : decode cX5_teach 31 = .ok (.getfield 34, 3) := by decide +kernel
theorem dX5_teach_34 : decode cX5_teach 34 = .ok (.iload_n 1, 1) := by decide +kernel
theorem dX5_teach_35 : decode cX5_teach 35 = .ok (.iaload, 1) := by decide +kernel
theorem dX5_teach_36 : decode cX5_teach 36 = .ok (.iconst (-1), 1) := by decide +kernel
theorem dX5_teach_37 : decode cX5_teach 37 = .ok (.ixor, 1) := by decide +kernel
theorem dX5_teach_38 : decode cX5_teach 38 = .ok (.iand, 1) := by decide +kernel
theorem dX5_teach_39 : decode cX5_teach 39 = .ok (.ifCond .eq 7, 3) := by decide +kernel
theorem dX5_teach_42 : decode cX5_teach 42 = .ok (.iconst 2, 1) := by decide +kernel
theorem dX5_teach_43 : decode cX5_teach 43 = .ok (.goto 4, 3) := by decide +kernel
theorem dX5_teach_46 : decode cX5_teach 46 = .ok (.iconst 0, 1) := by decide +kernel
theorem dX5_teach_47 : decode cX5_teach 47 = .ok (.putfield 52, 3) := by decide +kernel
theorem dX5_teach_50 : decode cX5_teach 50 = .ok (.aload_n 0, 1) := by decide +kernel
theorem dX5_teach_51 : decode cX5_teach 51 = .ok (.getfield 52, 3) := by decide +kernel
theorem dX5_teach_54 : decode cX5_teach 54 = .ok (.ifCond .le 5, 3) := by decide +kernel
theorem dX5_teach_57 : decode cX5_teach 57 = .ok (.iconst 0, 1) := by decide +kernel
theorem dX5_teach_58 : decode cX5_teach 58 = .ok (.ireturn, 1) := by decide +kernel
theorem dX5_teach_59 : decode cX5_teach 59 = .ok (.aload_n 0, 1) := by decide +kernel
theorem dX5_teach_60 : decode cX5_teach 60 = .ok (.getfield 34, 3) := by decide +kernel
theorem dX5_teach_63 : decode cX5_teach 63 = .ok (.iload_n 1, 1) := by decide +kernel
theorem dX5_teach_64 : decode cX5_teach 64 = .ok (.dup2, 1) := by decide +kernel
theorem dX5_teach_65 : decode cX5_teach 65 = .ok (.iaload, 1) := by decide +kernel
theorem dX5_teach_66 : decode cX5_teach 66 = .ok (.iconst 1, 1) := by decide +kernel
theorem dX5_teach_67 : decode cX5_teach 67 = .ok (.iload_n 2, 1) := by decide +kernel
theorem dX5_teach_68 : decode cX5_teach 68 = .ok (.ishl, 1) := by decide +kernel
theorem dX5_teach_69 : decode cX5_teach 69 = .ok (.ior, 1) := by decide +kernel
theorem dX5_teach_70 : decode cX5_teach 70 = .ok (.iastore, 1) := by decide +kernel
theorem dX5_teach_71 : decode cX5_teach 71 = .ok (.aload_n 0, 1) := by decide +kernel
theorem dX5_teach_72 : decode cX5_teach 72 = .ok (.getfield 34, 3) := by decide +kernel
theorem dX5_teach_75 : decode cX5_teach 75 = .ok (.iload_n 1, 1) := by decide +kernel
theorem dX5_teach_76 : decode cX5_teach 76 = .ok (.iaload, 1) := by decide +kernel
theorem dX5_teach_77 : decode cX5_teach 77 = .ok (.invokestatic 104, 3) := by decide +kernel
theorem dX5_teach_80 : decode cX5_teach 80 = .ok (.ireturn, 1) := by decide +kernel
theorem dX5_models_0 : decode cX5_models 0 = .ok (.aload_n 0, 1) := by decide +kernel
theorem dX5_models_1 : decode cX5_models 1 = .ok (.iconst 0, 1) := by decide +kernel
theorem dX5_models_2 : decode cX5_models 2 = .ok (.putfield 52, 3) := by decide +kernel
theorem dX5_models_5 : decode cX5_models 5 = .ok (.aload_n 0, 1) := by decide +kernel
theorem dX5_models_6 : decode cX5_models 6 = .ok (.getfield 56, 3) := by decide +kernel
theorem dX5_models_9 : decode cX5_models 9 = .ok (.ireturn, 1) := by decide +kernel
set_option maxRecDepth 20000 in
theorem ggX5_steps_X5_isModel : GoodIn wsX5_steps wsX5_isModel := goodIn_r _ [6, 7, 8, 9, 10, 5, 11, 12, 13, 14, 15, 16, 17, 18, 19, 20, 21, 22, 23, 24, 25, 26, 27, 28, 29, 30, 31] (by decide +kernel) (by decide +kernel)
set_option maxRecDepth 20000 in
theorem gX5_steps_X5_isModel : GoodIn wsX5_steps (wsV RX5 90 RX5 yX5_isModel wsX5_isModel) := goodIn_app (goodIn_of _ (by decide +kernel)) ggX5_steps_X5_isModel
theorem dX5_steps_0 : decode cX5_steps 0 = .ok (.aload_n 0, 1) := by decide +kernel
theorem dX5_steps_1 : decode cX5_steps 1 = .ok (.iload_n 1, 1) := by decide +kernel
theorem dX5_steps_2 : decode cX5_steps 2 = .ok (.invokevirtual 90, 3) := by decide +kernel
theorem dX5_steps_5 : decode cX5_steps 5 = .ok (.ifCond .eq 12, 3) := by decide +kernel
theorem dX5_steps_8 : decode cX5_steps 8 = .ok (.aload_n 0, 1) := by decide +kernel
theorem dX5_steps_9 : decode cX5_steps 9 = .ok (.getfield 19, 3) := by decide +kernel
theorem dX5_steps_12 : decode cX5_steps 12 = .ok (.iload_n 1, 1) := by decide +kernel
theorem dX5_steps_13 : decode cX5_steps 13 = .ok (.iaload, 1) := by decide +kernel
theorem dX5_steps_14 : decode cX5_steps 14 = .ok (.goto 4, 3) := by decide +kernel
theorem dX5_steps_17 : decode cX5_steps 17 = .ok (.iconst 0, 1) := by decide +kernel
theorem dX5_steps_18 : decode cX5_steps 18 = .ok (.ireturn, 1) := by decide +kernel
set_option maxRecDepth 20000 in
theorem ggX5_places_X5_isModel : GoodIn wsX5_places wsX5_isModel := goodIn_r _ [6, 7, 8, 9, 10, 5, 11, 33, 34, 35, 36, 37, 38, 39, 40, 41, 42, 43, 44, 45, 46, 47, 48, 49, 50, 51, 52] (by decide +kernel) (by decide +kernel)
set_option maxRecDepth 20000 in
theorem gX5_places_X5_isModel : GoodIn wsX5_places (wsV RX5 90 RX5 yX5_isModel wsX5_isModel) := goodIn_app (goodIn_of _ (by decide +kernel)) ggX5_places_X5_isModel
set_option maxRecDepth 20000 in
theorem ggX5_places_X5_folds : GoodIn wsX5_places wsX5_folds := goodIn_r _ [15, 16, 17, 18, 19, 1, 20, 21, 22, 23, 24, 25, 26, 5, 27, 28, 29, 30, 31, 32, 33, 34, 35, 36, 37, 38, 39, 40, 41, 42, 43, 44, 45, 46, 47, 48, 49, 50, 51, 52] (by decide +kernel) (by decide +kernel)
set_option maxRecDepth 20000 in
theorem gX5_places_X5_folds : GoodIn wsX5_places (wsV RX5 84 RX5 yX5_folds wsX5_folds) := goodIn_app (goodIn_of _ (by decide +kernel)) ggX5_places_X5_folds
theorem dX5_places_0 : decode cX5_places 0 = .ok (.aload_n 0, 1) := by decide +kernel
theorem dX5_places_1 : decode cX5_places 1 = .ok (.iload_n 1, 1) := by decide +kernel
theorem dX5_places_2 : decode cX5_places 2 = .ok (.invokevirtual 90, 3) := by decide +kernel
theorem dX5_places_5 : decode cX5_places 5 = .ok (.ifCond .ne 5, 3) := by decide +kernel
theorem dX5_places_8 : decode cX5_places 8 = .ok (.iconst 0, 1) := by decide +kernel
theorem dX5_places_9 : decode cX5_places 9 = .ok (.ireturn, 1) := by decide +kernel
theorem dX5_places_10 : decode cX5_places 10 = .ok (.aload_n 0, 1) := by decide +kernel
theorem dX5_places_11 : decode cX5_places 11 = .ok (.iload_n 1, 1) := by decide +kernel
theorem dX5_places_12 : decode cX5_places 12 = .ok (.invokevirtual 84, 3) := by decide +kernel
theorem dX5_places_15 : decode cX5_places 15 = .ok (.aload_n 0, 1) := by decide +kernel
theorem dX5_places_16 : decode cX5_places 16 = .ok (.getfield 73, 3) := by decide +kernel
theorem dX5_places_19 : decode cX5_places 19 = .ok (.ireturn, 1) := by decide +kernel
set_option maxRecDepth 20000 in
theorem ggX5_layersOf_X5_folds : GoodIn wsX5_layersOf wsX5_folds := goodIn_r _ [7, 8, 9, 10, 11, 1, 12, 13, 14, 15, 16, 17, 18, 6, 19, 2, 20, 21, 22, 23, 24, 25, 26, 27, 28, 29, 30, 31, 32, 33, 34, 35, 36, 37, 38, 39, 40, 41, 42, 43] (by decide +kernel) (by decide +kernel)
set_option maxRecDepth 20000 in
theorem gX5_layersOf_X5_folds : GoodIn wsX5_layersOf (wsV RX5 84 RX5 yX5_folds wsX5_folds) := goodIn_app (goodIn_of _ (by decide +kernel)) ggX5_layersOf_X5_folds
theorem dX5_layersOf_0 : decode cX5_layersOf 0 = .ok (.aload_n 0, 1) := by decide +kernel
theorem dX5_layersOf_1 : decode cX5_layersOf 1 = .ok (.iload_n 1, 1) := by decide +kernel
theorem dX5_layersOf_2 : decode cX5_layersOf 2 = .ok (.invokevirtual 84, 3) := by decide +kernel
theorem dX5_layersOf_5 : decode cX5_layersOf 5 = .ok (.iconst 0, 1) := by decide +kernel
theorem dX5_layersOf_6 : decode cX5_layersOf 6 = .ok (.istore_n 2, 1) := by decide +kernel
theorem dX5_layersOf_7 : decode cX5_layersOf 7 = .ok (.iconst 0, 1) := by decide +kernel
theorem dX5_layersOf_8 : decode cX5_layersOf 8 = .ok (.istore_n 3, 1) := by decide +kernel
theorem dX5_layersOf_9 : decode cX5_layersOf 9 = .ok (.iload_n 3, 1) := by decide +kernel
theorem dX5_layersOf_10 : decode cX5_layersOf 10 = .ok (.aload_n 0, 1) := by decide +kernel
theorem dX5_layersOf_11 : decode cX5_layersOf 11 = .ok (.getfield 73, 3) := by decide +kernel
theorem dX5_layersOf_14 : decode cX5_layersOf 14 = .ok (.if_icmp .ge 30, 3) := by decide +kernel
theorem dX5_layersOf_17 : decode cX5_layersOf 17 = .ok (.aload_n 0, 1) := by decide +kernel
theorem dX5_layersOf_18 : decode cX5_layersOf 18 = .ok (.getfield 46, 3) := by decide +kernel
theorem dX5_layersOf_21 : decode cX5_layersOf 21 = .ok (.iload_n 3, 1) := by decide +kernel
theorem dX5_layersOf_22 : decode cX5_layersOf 22 = .ok (.iaload, 1) := by decide +kernel
theorem dX5_layersOf_23 : decode cX5_layersOf 23 = .ok (.iload_n 2, 1) := by decide +kernel
theorem dX5_layersOf_24 : decode cX5_layersOf 24 = .ok (.if_icmp .le 12, 3) := by decide +kernel
theorem dX5_layersOf_27 : decode cX5_layersOf 27 = .ok (.aload_n 0, 1) := by decide +kernel
theorem dX5_layersOf_28 : decode cX5_layersOf 28 = .ok (.getfield 46, 3) := by decide +kernel
theorem dX5_layersOf_31 : decode cX5_layersOf 31 = .ok (.iload_n 3, 1) := by decide +kernel
theorem dX5_layersOf_32 : decode cX5_layersOf 32 = .ok (.iaload, 1) := by decide +kernel
theorem dX5_layersOf_33 : decode cX5_layersOf 33 = .ok (.goto 4, 3) := by decide +kernel
theorem dX5_layersOf_36 : decode cX5_layersOf 36 = .ok (.iload_n 2, 1) := by decide +kernel
theorem dX5_layersOf_37 : decode cX5_layersOf 37 = .ok (.istore_n 2, 1) := by decide +kernel
theorem dX5_layersOf_38 : decode cX5_layersOf 38 = .ok (.iinc 3 1, 3) := by decide +kernel
theorem dX5_layersOf_41 : decode cX5_layersOf 41 = .ok (.goto (-32), 3) := by decide +kernel
theorem dX5_layersOf_44 : decode cX5_layersOf 44 = .ok (.iload_n 2, 1) := by decide +kernel
theorem dX5_layersOf_45 : decode cX5_layersOf 45 = .ok (.ireturn, 1) := by decide +kernel
set_option maxRecDepth 20000 in
theorem ggX5_layers_X5_isModel : GoodIn wsX5_layers wsX5_isModel := goodIn_r _ [5, 6, 7, 8, 9, 4, 10, 37, 38, 39, 40, 41, 42, 43, 44, 45, 46, 47, 48, 49, 50, 51, 52, 53, 54, 55, 56] (by decide +kernel) (by decide +kernel)
set_option maxRecDepth 20000 in
theorem gX5_layers_X5_isModel : GoodIn wsX5_layers (wsV RX5 90 RX5 yX5_isModel wsX5_isModel) := goodIn_app (goodIn_of _ (by decide +kernel)) ggX5_layers_X5_isModel
set_option maxRecDepth 20000 in
theorem ggX5_layers_X5_layersOf : GoodIn wsX5_layers wsX5_layersOf := goodIn_r _ [14, 15, 16, 17, 18, 19, 4, 20, 21, 22, 23, 24, 25, 26, 27, 28, 29, 30, 31, 32, 33, 34, 35, 36, 37, 38, 39, 40, 41, 42, 43, 44, 45, 46, 47, 48, 49, 50, 51, 52, 53, 54, 55, 56] (by decide +kernel) (by decide +kernel)
set_option maxRecDepth 20000 in
theorem gX5_layers_X5_layersOf : GoodIn wsX5_layers (wsV RX5 107 RX5 yX5_layersOf wsX5_layersOf) := goodIn_app (goodIn_of _ (by decide +kernel)) ggX5_layers_X5_layersOf
theorem dX5_layers_0 : decode cX5_layers 0 = .ok (.aload_n 0, 1) := by decide +kernel
theorem dX5_layers_1 : decode cX5_layers 1 = .ok (.iload_n 1, 1) := by decide +kernel
theorem dX5_layers_2 : decode cX5_layers 2 = .ok (.invokevirtual 90, 3) := by decide +kernel
theorem dX5_layers_5 : decode cX5_layers 5 = .ok (.ifCond .eq 11, 3) := by decide +kernel
theorem dX5_layers_8 : decode cX5_layers 8 = .ok (.aload_n 0, 1) := by decide +kernel
theorem dX5_layers_9 : decode cX5_layers 9 = .ok (.iload_n 1, 1) := by decide +kernel
theorem dX5_layers_10 : decode cX5_layers 10 = .ok (.invokevirtual 107, 3) := by decide +kernel
theorem dX5_layers_13 : decode cX5_layers 13 = .ok (.goto 4, 3) := by decide +kernel
theorem dX5_layers_16 : decode cX5_layers 16 = .ok (.iconst 0, 1) := by decide +kernel
theorem dX5_layers_17 : decode cX5_layers 17 = .ok (.ireturn, 1) := by decide +kernel
set_option maxRecDepth 20000 in
theorem ggX5_cellAt_X5_isModel : GoodIn wsX5_cellAt wsX5_isModel := goodIn_r _ [8, 9, 10, 11, 12, 7, 13, 37, 38, 39, 40, 41, 42, 43, 44, 45, 46, 47, 48, 49, 50, 51, 52, 53, 54, 55, 56] (by decide +kernel) (by decide +kernel)
set_option maxRecDepth 20000 in
theorem gX5_cellAt_X5_isModel : GoodIn wsX5_cellAt (wsV RX5 90 RX5 yX5_isModel wsX5_isModel) := goodIn_app (goodIn_of _ (by decide +kernel)) ggX5_cellAt_X5_isModel
set_option maxRecDepth 20000 in
theorem ggX5_cellAt_X5_folds : GoodIn wsX5_cellAt wsX5_folds := goodIn_r _ [17, 1, 2, 3, 18, 19, 20, 21, 22, 23, 24, 25, 26, 7, 27, 28, 29, 30, 31, 32, 37, 38, 39, 40, 41, 42, 43, 44, 45, 46, 47, 48, 49, 50, 51, 52, 53, 54, 55, 56] (by decide +kernel) (by decide +kernel)
set_option maxRecDepth 20000 in
theorem gX5_cellAt_X5_folds : GoodIn wsX5_cellAt (wsV RX5 84 RX5 yX5_folds wsX5_folds) := goodIn_app (goodIn_of _ (by decide +kernel)) ggX5_cellAt_X5_folds
set_option maxRecDepth 20000 in
theorem ggX5_cellAt_X5_fails : GoodIn wsX5_cellAt wsX5_fails := goodIn_r _ [36, 10, 37, 38, 39, 40, 41, 42, 43, 44, 45, 46, 47, 48, 49, 50, 51, 52, 53, 54, 55, 56] (by decide +kernel) (by decide +kernel)
set_option maxRecDepth 20000 in
theorem gX5_cellAt_X5_fails : GoodIn wsX5_cellAt (wsV RX5 67 RX5 yX5_fails wsX5_fails) := goodIn_app (goodIn_of _ (by decide +kernel)) ggX5_cellAt_X5_fails
theorem dX5_cellAt_0 : decode cX5_cellAt 0 = .ok (.aload_n 0, 1) := by decide +kernel
theorem dX5_cellAt_1 : decode cX5_cellAt 1 = .ok (.iload_n 1, 1) := by decide +kernel
theorem dX5_cellAt_2 : decode cX5_cellAt 2 = .ok (.invokevirtual 90, 3) := by decide +kernel
theorem dX5_cellAt_5 : decode cX5_cellAt 5 = .ok (.ifCond .ne 5, 3) := by decide +kernel
theorem dX5_cellAt_8 : decode cX5_cellAt 8 = .ok (.iconst 0, 1) := by decide +kernel
theorem dX5_cellAt_9 : decode cX5_cellAt 9 = .ok (.ireturn, 1) := by decide +kernel
theorem dX5_cellAt_10 : decode cX5_cellAt 10 = .ok (.aload_n 0, 1) := by decide +kernel
theorem dX5_cellAt_11 : decode cX5_cellAt 11 = .ok (.iload_n 1, 1) := by decide +kernel
theorem dX5_cellAt_12 : decode cX5_cellAt 12 = .ok (.invokevirtual 84, 3) := by decide +kernel
theorem dX5_cellAt_15 : decode cX5_cellAt 15 = .ok (.iconst 0, 1) := by decide +kernel
theorem dX5_cellAt_16 : decode cX5_cellAt 16 = .ok (.istore 4, 2) := by decide +kernel
theorem dX5_cellAt_18 : decode cX5_cellAt 18 = .ok (.iload 4, 2) := by decide +kernel
theorem dX5_cellAt_20 : decode cX5_cellAt 20 = .ok (.aload_n 0, 1) := by decide +kernel
theorem dX5_cellAt_21 : decode cX5_cellAt 21 = .ok (.getfield 16, 3) := by decide +kernel
theorem dX5_cellAt_24 : decode cX5_cellAt 24 = .ok (.iload_n 1, 1) := by decide +kernel
theorem dX5_cellAt_25 : decode cX5_cellAt 25 = .ok (.iaload, 1) := by decide +kernel
theorem dX5_cellAt_26 : decode cX5_cellAt 26 = .ok (.if_icmp .ge 34, 3) := by decide +kernel
theorem dX5_cellAt_29 : decode cX5_cellAt 29 = .ok (.aload_n 0, 1) := by decide +kernel
theorem dX5_cellAt_30 : decode cX5_cellAt 30 = .ok (.getfield 37, 3) := by decide +kernel
theorem dX5_cellAt_33 : decode cX5_cellAt 33 = .ok (.iload 4, 2) := by decide +kernel
theorem dX5_cellAt_35 : decode cX5_cellAt 35 = .ok (.iaload, 1) := by decide +kernel
theorem dX5_cellAt_36 : decode cX5_cellAt 36 = .ok (.iload_n 2, 1) := by decide +kernel
theorem dX5_cellAt_37 : decode cX5_cellAt 37 = .ok (.if_icmp .ne 17, 3) := by decide +kernel
theorem dX5_cellAt_40 : decode cX5_cellAt 40 = .ok (.aload_n 0, 1) := by decide +kernel
theorem dX5_cellAt_41 : decode cX5_cellAt 41 = .ok (.getfield 40, 3) := by decide +kernel
theorem dX5_cellAt_44 : decode cX5_cellAt 44 = .ok (.iload 4, 2) := by decide +kernel
theorem dX5_cellAt_46 : decode cX5_cellAt 46 = .ok (.iaload, 1) := by decide +kernel
theorem dX5_cellAt_47 : decode cX5_cellAt 47 = .ok (.iload_n 3, 1) := by decide +kernel
theorem dX5_cellAt_48 : decode cX5_cellAt 48 = .ok (.if_icmp .ne 6, 3) := by decide +kernel
theorem dX5_cellAt_51 : decode cX5_cellAt 51 = .ok (.iload 4, 2) := by decide +kernel
theorem dX5_cellAt_53 : decode cX5_cellAt 53 = .ok (.ireturn, 1) := by decide +kernel
theorem dX5_cellAt_54 : decode cX5_cellAt 54 = .ok (.iinc 4 1, 3) := by decide +kernel
theorem dX5_cellAt_57 : decode cX5_cellAt 57 = .ok (.goto (-39), 3) := by decide +kernel
theorem dX5_cellAt_60 : decode cX5_cellAt 60 = .ok (.aload_n 0, 1) := by decide +kernel
theorem dX5_cellAt_61 : decode cX5_cellAt 61 = .ok (.iconst 1, 1) := by decide +kernel
theorem dX5_cellAt_62 : decode cX5_cellAt 62 = .ok (.invokevirtual 67, 3) := by decide +kernel
theorem dX5_cellAt_65 : decode cX5_cellAt 65 = .ok (.ireturn, 1) := by decide +kernel
set_option maxRecDepth 20000 in
theorem ggX5_isCell_X5_in : GoodIn wsX5_isCell wsX5_in := goodIn_r _ [7] (by decide +kernel) (by decide +kernel)
set_option maxRecDepth 20000 in
theorem gX5_isCell_X5_in : GoodIn wsX5_isCell (va_wsS RX5 59 yX5_in wsX5_in) := goodIn_app (goodIn_of _ (by decide +kernel)) ggX5_isCell_X5_in
theorem dX5_isCell_0 : decode cX5_isCell 0 = .ok (.aload_n 0, 1) := by decide +kernel
theorem dX5_isCell_1 : decode cX5_isCell 1 = .ok (.iload_n 1, 1) := by decide +kernel
theorem dX5_isCell_2 : decode cX5_isCell 2 = .ok (.iconst 0, 1) := by decide +kernel
theorem dX5_isCell_3 : decode cX5_isCell 3 = .ok (.aload_n 0, 1) := by decide +kernel
theorem dX5_isCell_4 : decode cX5_isCell 4 = .ok (.getfield 56, 3) := by decide +kernel
theorem dX5_isCell_7 : decode cX5_isCell 7 = .ok (.iconst 1, 1) := by decide +kernel
theorem dX5_isCell_8 : decode cX5_isCell 8 = .ok (.isub, 1) := by decide +kernel
theorem dX5_isCell_9 : decode cX5_isCell 9 = .ok (.invokestatic 59, 3) := by decide +kernel
theorem dX5_isCell_12 : decode cX5_isCell 12 = .ok (.ifCond .eq 23, 3) := by decide +kernel
theorem dX5_isCell_15 : decode cX5_isCell 15 = .ok (.iload_n 2, 1) := by decide +kernel
theorem dX5_isCell_16 : decode cX5_isCell 16 = .ok (.iconst 0, 1) := by decide +kernel
theorem dX5_isCell_17 : decode cX5_isCell 17 = .ok (.aload_n 0, 1) := by decide +kernel
theorem dX5_isCell_18 : decode cX5_isCell 18 = .ok (.getfield 16, 3) := by decide +kernel
theorem dX5_isCell_21 : decode cX5_isCell 21 = .ok (.iload_n 1, 1) := by decide +kernel
theorem dX5_isCell_22 : decode cX5_isCell 22 = .ok (.iaload, 1) := by decide +kernel
theorem dX5_isCell_23 : decode cX5_isCell 23 = .ok (.iconst 1, 1) := by decide +kernel
theorem dX5_isCell_24 : decode cX5_isCell 24 = .ok (.isub, 1) := by decide +kernel
theorem dX5_isCell_25 : decode cX5_isCell 25 = .ok (.invokestatic 59, 3) := by decide +kernel
theorem dX5_isCell_28 : decode cX5_isCell 28 = .ok (.ifCond .eq 7, 3) := by decide +kernel
theorem dX5_isCell_31 : decode cX5_isCell 31 = .ok (.iconst 0, 1) := by decide +kernel
theorem dX5_isCell_32 : decode cX5_isCell 32 = .ok (.goto 4, 3) := by decide +kernel
theorem dX5_isCell_35 : decode cX5_isCell 35 = .ok (.iconst 1, 1) := by decide +kernel
theorem dX5_isCell_36 : decode cX5_isCell 36 = .ok (.putfield 52, 3) := by decide +kernel
theorem dX5_isCell_39 : decode cX5_isCell 39 = .ok (.aload_n 0, 1) := by decide +kernel
theorem dX5_isCell_40 : decode cX5_isCell 40 = .ok (.getfield 52, 3) := by decide +kernel
theorem dX5_isCell_43 : decode cX5_isCell 43 = .ok (.ifCond .ne 7, 3) := by decide +kernel
theorem dX5_isCell_46 : decode cX5_isCell 46 = .ok (.iconst 1, 1) := by decide +kernel
theorem dX5_isCell_47 : decode cX5_isCell 47 = .ok (.goto 4, 3) := by decide +kernel
theorem dX5_isCell_50 : decode cX5_isCell 50 = .ok (.iconst 0, 1) := by decide +kernel
theorem dX5_isCell_51 : decode cX5_isCell 51 = .ok (.ireturn, 1) := by decide +kernel
set_option maxRecDepth 20000 in
theorem ggX5_placeOf_X5_isCell : GoodIn wsX5_placeOf wsX5_isCell := goodIn_r _ [6, 7, 8, 9, 10, 11, 5, 12, 33, 34, 35, 36, 37, 38, 39, 40, 41, 42, 43, 44, 45, 46, 47, 48, 49, 50, 51, 52] (by decide +kernel) (by decide +kernel)
set_option maxRecDepth 20000 in
theorem gX5_placeOf_X5_isCell : GoodIn wsX5_placeOf (wsV RX5 110 RX5 yX5_isCell wsX5_isCell) := goodIn_app (goodIn_of _ (by decide +kernel)) ggX5_placeOf_X5_isCell
set_option maxRecDepth 20000 in
theorem ggX5_placeOf_X5_folds : GoodIn wsX5_placeOf wsX5_folds := goodIn_r _ [16, 8, 1, 17, 18, 19, 20, 21, 22, 23, 24, 25, 26, 5, 27, 28, 29, 30, 31, 32, 33, 34, 35, 36, 37, 38, 39, 40, 41, 42, 43, 44, 45, 46, 47, 48, 49, 50, 51, 52] (by decide +kernel) (by decide +kernel)
set_option maxRecDepth 20000 in
theorem gX5_placeOf_X5_folds : GoodIn wsX5_placeOf (wsV RX5 84 RX5 yX5_folds wsX5_folds) := goodIn_app (goodIn_of _ (by decide +kernel)) ggX5_placeOf_X5_folds
theorem dX5_placeOf_0 : decode cX5_placeOf 0 = .ok (.aload_n 0, 1) := by decide +kernel
theorem dX5_placeOf_1 : decode cX5_placeOf 1 = .ok (.iload_n 1, 1) := by decide +kernel
theorem dX5_placeOf_2 : decode cX5_placeOf 2 = .ok (.iload_n 2, 1) := by decide +kernel
theorem dX5_placeOf_3 : decode cX5_placeOf 3 = .ok (.invokevirtual 110, 3) := by decide +kernel
theorem dX5_placeOf_6 : decode cX5_placeOf 6 = .ok (.ifCond .ne 5, 3) := by decide +kernel
theorem dX5_placeOf_9 : decode cX5_placeOf 9 = .ok (.iconst 0, 1) := by decide +kernel
theorem dX5_placeOf_10 : decode cX5_placeOf 10 = .ok (.ireturn, 1) := by decide +kernel
theorem dX5_placeOf_11 : decode cX5_placeOf 11 = .ok (.aload_n 0, 1) := by decide +kernel
theorem dX5_placeOf_12 : decode cX5_placeOf 12 = .ok (.iload_n 1, 1) := by decide +kernel
theorem dX5_placeOf_13 : decode cX5_placeOf 13 = .ok (.invokevirtual 84, 3) := by decide +kernel
theorem dX5_placeOf_16 : decode cX5_placeOf 16 = .ok (.aload_n 0, 1) := by decide +kernel
theorem dX5_placeOf_17 : decode cX5_placeOf 17 = .ok (.getfield 37, 3) := by decide +kernel
theorem dX5_placeOf_20 : decode cX5_placeOf 20 = .ok (.iload_n 2, 1) := by decide +kernel
theorem dX5_placeOf_21 : decode cX5_placeOf 21 = .ok (.iaload, 1) := by decide +kernel
theorem dX5_placeOf_22 : decode cX5_placeOf 22 = .ok (.ireturn, 1) := by decide +kernel
set_option maxRecDepth 20000 in
theorem ggX5_isTurned_X5_isCell : GoodIn wsX5_isTurned wsX5_isCell := goodIn_r _ [6, 7, 8, 9, 10, 11, 5, 12, 33, 34, 35, 36, 37, 38, 39, 40, 41, 42, 43, 44, 45, 46, 47, 48, 49, 50, 51, 52] (by decide +kernel) (by decide +kernel)
set_option maxRecDepth 20000 in
theorem gX5_isTurned_X5_isCell : GoodIn wsX5_isTurned (wsV RX5 110 RX5 yX5_isCell wsX5_isCell) := goodIn_app (goodIn_of _ (by decide +kernel)) ggX5_isTurned_X5_isCell
set_option maxRecDepth 20000 in
theorem ggX5_isTurned_X5_folds : GoodIn wsX5_isTurned wsX5_folds := goodIn_r _ [16, 8, 17, 18, 1, 19, 20, 21, 22, 23, 24, 25, 26, 5, 27, 28, 29, 30, 31, 32, 33, 34, 35, 36, 37, 38, 39, 40, 41, 42, 43, 44, 45, 46, 47, 48, 49, 50, 51, 52] (by decide +kernel) (by decide +kernel)
set_option maxRecDepth 20000 in
theorem gX5_isTurned_X5_folds : GoodIn wsX5_isTurned (wsV RX5 84 RX5 yX5_folds wsX5_folds) := goodIn_app (goodIn_of _ (by decide +kernel)) ggX5_isTurned_X5_folds
theorem dX5_isTurned_0 : decode cX5_isTurned 0 = .ok (.aload_n 0, 1) := by decide +kernel
theorem dX5_isTurned_1 : decode cX5_isTurned 1 = .ok (.iload_n 1, 1) := by decide +kernel
theorem dX5_isTurned_2 : decode cX5_isTurned 2 = .ok (.iload_n 2, 1) := by decide +kernel
theorem dX5_isTurned_3 : decode cX5_isTurned 3 = .ok (.invokevirtual 110, 3) := by decide +kernel
theorem dX5_isTurned_6 : decode cX5_isTurned 6 = .ok (.ifCond .ne 5, 3) := by decide +kernel
theorem dX5_isTurned_9 : decode cX5_isTurned 9 = .ok (.iconst 0, 1) := by decide +kernel
theorem dX5_isTurned_10 : decode cX5_isTurned 10 = .ok (.ireturn, 1) := by decide +kernel
theorem dX5_isTurned_11 : decode cX5_isTurned 11 = .ok (.aload_n 0, 1) := by decide +kernel
theorem dX5_isTurned_12 : decode cX5_isTurned 12 = .ok (.iload_n 1, 1) := by decide +kernel
theorem dX5_isTurned_13 : decode cX5_isTurned 13 = .ok (.invokevirtual 84, 3) := by decide +kernel
theorem dX5_isTurned_16 : decode cX5_isTurned 16 = .ok (.aload_n 0, 1) := by decide +kernel
theorem dX5_isTurned_17 : decode cX5_isTurned 17 = .ok (.getfield 43, 3) := by decide +kernel
theorem dX5_isTurned_20 : decode cX5_isTurned 20 = .ok (.iload_n 2, 1) := by decide +kernel
theorem dX5_isTurned_21 : decode cX5_isTurned 21 = .ok (.iaload, 1) := by decide +kernel
theorem dX5_isTurned_22 : decode cX5_isTurned 22 = .ok (.iconst 1, 1) := by decide +kernel
theorem dX5_isTurned_23 : decode cX5_isTurned 23 = .ok (.if_icmp .ne 7, 3) := by decide +kernel
theorem dX5_isTurned_26 : decode cX5_isTurned 26 = .ok (.iconst 1, 1) := by decide +kernel
theorem dX5_isTurned_27 : decode cX5_isTurned 27 = .ok (.goto 4, 3) := by decide +kernel
theorem dX5_isTurned_30 : decode cX5_isTurned 30 = .ok (.iconst 0, 1) := by decide +kernel
theorem dX5_isTurned_31 : decode cX5_isTurned 31 = .ok (.ireturn, 1) := by decide +kernel
set_option maxRecDepth 20000 in
theorem ggX5_layersByFollowing_X5_isModel : GoodIn wsX5_layersByFollowing wsX5_isModel := goodIn_r _ [5, 6, 7, 8, 9, 4, 10, 37, 38, 39, 40, 41, 42, 43, 44, 45, 46, 47, 48, 49, 50, 51, 52, 53, 54, 55, 56] (by decide +kernel) (by decide +kernel)
set_option maxRecDepth 20000 in
theorem gX5_layersByFollowing_X5_isModel : GoodIn wsX5_layersByFollowing (wsV RX5 90 RX5 yX5_isModel wsX5_isModel) := goodIn_app (goodIn_of _ (by decide +kernel)) ggX5_layersByFollowing_X5_isModel
set_option maxRecDepth 20000 in
theorem ggX5_layersByFollowing_X5_layersOf : GoodIn wsX5_layersByFollowing wsX5_layersOf := goodIn_r _ [14, 15, 16, 17, 18, 19, 4, 20, 21, 22, 23, 24, 25, 26, 27, 28, 29, 30, 31, 32, 33, 34, 35, 36, 37, 38, 39, 40, 41, 42, 43, 44, 45, 46, 47, 48, 49, 50, 51, 52, 53, 54, 55, 56] (by decide +kernel) (by decide +kernel)
set_option maxRecDepth 20000 in
theorem gX5_layersByFollowing_X5_layersOf : GoodIn wsX5_layersByFollowing (wsV RX5 107 RX5 yX5_layersOf wsX5_layersOf) := goodIn_app (goodIn_of _ (by decide +kernel)) ggX5_layersByFollowing_X5_layersOf
theorem dX5_layersByFollowing_0 : decode cX5_layersByFollowing 0 = .ok (.aload_n 0, 1) := by decide +kernel
theorem dX5_layersByFollowing_1 : decode cX5_layersByFollowing 1 = .ok (.iload_n 1, 1) := by decide +kernel
theorem dX5_layersByFollowing_2 : decode cX5_layersByFollowing 2 = .ok (.invokevirtual 90, 3) := by decide +kernel
theorem dX5_layersByFollowing_5 : decode cX5_layersByFollowing 5 = .ok (.ifCond .eq 11, 3) := by decide +kernel
theorem dX5_layersByFollowing_8 : decode cX5_layersByFollowing 8 = .ok (.aload_n 0, 1) := by decide +kernel
theorem dX5_layersByFollowing_9 : decode cX5_layersByFollowing 9 = .ok (.iload_n 1, 1) := by decide +kernel
theorem dX5_layersByFollowing_10 : decode cX5_layersByFollowing 10 = .ok (.invokevirtual 107, 3) := by decide +kernel
theorem dX5_layersByFollowing_13 : decode cX5_layersByFollowing 13 = .ok (.goto 4, 3) := by decide +kernel
theorem dX5_layersByFollowing_16 : decode cX5_layersByFollowing 16 = .ok (.iconst 0, 1) := by decide +kernel
theorem dX5_layersByFollowing_17 : decode cX5_layersByFollowing 17 = .ok (.ireturn, 1) := by decide +kernel
set_option maxRecDepth 20000 in
theorem ggX5_bears_X5_isModel : GoodIn wsX5_bears wsX5_isModel := goodIn_r _ [7, 8, 1, 9, 10, 6, 11, 33, 34, 35, 36, 37, 38, 39, 40, 41, 42, 43, 44, 45, 46, 47, 48, 49, 50, 51, 52] (by decide +kernel) (by decide +kernel)
set_option maxRecDepth 20000 in
theorem gX5_bears_X5_isModel : GoodIn wsX5_bears (wsV RX5 90 RX5 yX5_isModel wsX5_isModel) := goodIn_app (goodIn_of _ (by decide +kernel)) ggX5_bears_X5_isModel
set_option maxRecDepth 20000 in
theorem ggX5_bears_X5_in : GoodIn wsX5_bears wsX5_in := goodIn_r _ [11] (by decide +kernel) (by decide +kernel)
set_option maxRecDepth 20000 in
theorem gX5_bears_X5_in : GoodIn wsX5_bears (va_wsS RX5 59 yX5_in wsX5_in) := goodIn_app (goodIn_of _ (by decide +kernel)) ggX5_bears_X5_in
set_option maxRecDepth 20000 in
theorem ggX5_bears_X5_folds : GoodIn wsX5_bears wsX5_folds := goodIn_r _ [15, 16, 17, 18, 19, 20, 2, 21, 22, 23, 24, 25, 26, 6, 27, 28, 29, 30, 31, 32, 33, 34, 35, 36, 37, 38, 39, 40, 41, 42, 43, 44, 45, 46, 47, 48, 49, 50, 51, 52] (by decide +kernel) (by decide +kernel)
set_option maxRecDepth 20000 in
theorem gX5_bears_X5_folds : GoodIn wsX5_bears (wsV RX5 84 RX5 yX5_folds wsX5_folds) := goodIn_app (goodIn_of _ (by decide +kernel)) ggX5_bears_X5_folds
theorem dX5_bears_0 : decode cX5_bears 0 = .ok (.aload_n 0, 1) := by decide +kernel
theorem dX5_bears_1 : decode cX5_bears 1 = .ok (.iload_n 1, 1) := by decide +kernel
theorem dX5_bears_2 : decode cX5_bears 2 = .ok (.invokevirtual 90, 3) := by decide +kernel
theorem dX5_bears_5 : decode cX5_bears 5 = .ok (.ifCond .eq 22, 3) := by decide +kernel
theorem dX5_bears_8 : decode cX5_bears 8 = .ok (.aload_n 0, 1) := by decide +kernel
theorem dX5_bears_9 : decode cX5_bears 9 = .ok (.iload_n 2, 1) := by decide +kernel
theorem dX5_bears_10 : decode cX5_bears 10 = .ok (.iconst 0, 1) := by decide +kernel
theorem dX5_bears_11 : decode cX5_bears 11 = .ok (.bipush 20, 2) := by decide +kernel
theorem dX5_bears_13 : decode cX5_bears 13 = .ok (.invokestatic 59, 3) := by decide +kernel
theorem dX5_bears_16 : decode cX5_bears 16 = .ok (.ifCond .eq 7, 3) := by decide +kernel
theorem dX5_bears_19 : decode cX5_bears 19 = .ok (.iconst 0, 1) := by decide +kernel
theorem dX5_bears_20 : decode cX5_bears 20 = .ok (.goto 4, 3) := by decide +kernel
theorem dX5_bears_23 : decode cX5_bears 23 = .ok (.iconst 2, 1) := by decide +kernel
theorem dX5_bears_24 : decode cX5_bears 24 = .ok (.putfield 52, 3) := by decide +kernel
theorem dX5_bears_27 : decode cX5_bears 27 = .ok (.aload_n 0, 1) := by decide +kernel
theorem dX5_bears_28 : decode cX5_bears 28 = .ok (.getfield 52, 3) := by decide +kernel
theorem dX5_bears_31 : decode cX5_bears 31 = .ok (.ifCond .le 5, 3) := by decide +kernel
theorem dX5_bears_34 : decode cX5_bears 34 = .ok (.iconst 0, 1) := by decide +kernel
theorem dX5_bears_35 : decode cX5_bears 35 = .ok (.ireturn, 1) := by decide +kernel
theorem dX5_bears_36 : decode cX5_bears 36 = .ok (.aload_n 0, 1) := by decide +kernel
theorem dX5_bears_37 : decode cX5_bears 37 = .ok (.iload_n 1, 1) := by decide +kernel
theorem dX5_bears_38 : decode cX5_bears 38 = .ok (.invokevirtual 84, 3) := by decide +kernel
theorem dX5_bears_41 : decode cX5_bears 41 = .ok (.bipush 40, 2) := by decide +kernel
theorem dX5_bears_43 : decode cX5_bears 43 = .ok (.iconst 2, 1) := by decide +kernel
theorem dX5_bears_44 : decode cX5_bears 44 = .ok (.iload_n 2, 1) := by decide +kernel
theorem dX5_bears_45 : decode cX5_bears 45 = .ok (.imul, 1) := by decide +kernel
theorem dX5_bears_46 : decode cX5_bears 46 = .ok (.isub, 1) := by decide +kernel
theorem dX5_bears_47 : decode cX5_bears 47 = .ok (.istore_n 3, 1) := by decide +kernel
theorem dX5_bears_48 : decode cX5_bears 48 = .ok (.aload_n 0, 1) := by decide +kernel
theorem dX5_bears_49 : decode cX5_bears 49 = .ok (.getfield 70, 3) := by decide +kernel
theorem dX5_bears_52 : decode cX5_bears 52 = .ok (.iload_n 3, 1) := by decide +kernel
theorem dX5_bears_53 : decode cX5_bears 53 = .ok (.iconst 1, 1) := by decide +kernel
theorem dX5_bears_54 : decode cX5_bears 54 = .ok (.if_icmp .ge 7, 3) := by decide +kernel
theorem dX5_bears_57 : decode cX5_bears 57 = .ok (.iconst 1, 1) := by decide +kernel
theorem dX5_bears_58 : decode cX5_bears 58 = .ok (.goto 4, 3) := by decide +kernel
theorem dX5_bears_61 : decode cX5_bears 61 = .ok (.iload_n 3, 1) := by decide +kernel
theorem dX5_bears_62 : decode cX5_bears 62 = .ok (.if_icmp .gt 7, 3) := by decide +kernel
theorem dX5_bears_65 : decode cX5_bears 65 = .ok (.iconst 1, 1) := by decide +kernel
theorem dX5_bears_66 : decode cX5_bears 66 = .ok (.goto 4, 3) := by decide +kernel
theorem dX5_bears_69 : decode cX5_bears 69 = .ok (.iconst 0, 1) := by decide +kernel
theorem dX5_bears_70 : decode cX5_bears 70 = .ok (.ireturn, 1) := by decide +kernel
set_option maxRecDepth 20000 in
theorem ggX5_kindsFor_X5_used : GoodIn wsX5_kindsFor wsX5_used := goodIn_r _ [6, 1, 7, 14, 15, 16, 17, 18, 19, 20, 21, 22, 23, 24, 25, 26, 27, 28, 29, 30, 31, 32, 33] (by decide +kernel) (by decide +kernel)
set_option maxRecDepth 20000 in
theorem gX5_kindsFor_X5_used : GoodIn wsX5_kindsFor (wsV RX5 94 RX5 yX5_used wsX5_used) := goodIn_app (goodIn_of _ (by decide +kernel)) ggX5_kindsFor_X5_used
set_option maxRecDepth 20000 in
theorem ggX5_kindsFor_X5_ownKinds : GoodIn wsX5_kindsFor wsX5_ownKinds := goodIn_r _ [11, 12, 13, 14, 15, 16, 17, 18, 19, 20, 21, 22, 23, 24, 25, 26, 27, 28, 29, 30, 31, 32, 33] (by decide +kernel) (by decide +kernel)
set_option maxRecDepth 20000 in
theorem gX5_kindsFor_X5_ownKinds : GoodIn wsX5_kindsFor (wsV RX5 87 RX5 yX5_ownKinds wsX5_ownKinds) := goodIn_app (goodIn_of _ (by decide +kernel)) ggX5_kindsFor_X5_ownKinds
theorem dX5_kindsFor_0 : decode cX5_kindsFor 0 = .ok (.iconst 0, 1) := by decide +kernel
theorem dX5_kindsFor_1 : decode cX5_kindsFor 1 = .ok (.istore_n 2, 1) := by decide +kernel
theorem dX5_kindsFor_2 : decode cX5_kindsFor 2 = .ok (.iconst 0, 1) := by decide +kernel
theorem dX5_kindsFor_3 : decode cX5_kindsFor 3 = .ok (.istore_n 3, 1) := by decide +kernel
theorem dX5_kindsFor_4 : decode cX5_kindsFor 4 = .ok (.iload_n 3, 1) := by decide +kernel
theorem dX5_kindsFor_5 : decode cX5_kindsFor 5 = .ok (.aload_n 0, 1) := by decide +kernel
theorem dX5_kindsFor_6 : decode cX5_kindsFor 6 = .ok (.getfield 56, 3) := by decide +kernel
theorem dX5_kindsFor_9 : decode cX5_kindsFor 9 = .ok (.if_icmp .ge 34, 3) := by decide +kernel
theorem dX5_kindsFor_12 : decode cX5_kindsFor 12 = .ok (.iload_n 2, 1) := by decide +kernel
theorem dX5_kindsFor_13 : decode cX5_kindsFor 13 = .ok (.aload_n 0, 1) := by decide +kernel
theorem dX5_kindsFor_14 : decode cX5_kindsFor 14 = .ok (.iload_n 1, 1) := by decide +kernel
theorem dX5_kindsFor_15 : decode cX5_kindsFor 15 = .ok (.invokevirtual 94, 3) := by decide +kernel
theorem dX5_kindsFor_18 : decode cX5_kindsFor 18 = .ok (.iload_n 3, 1) := by decide +kernel
theorem dX5_kindsFor_19 : decode cX5_kindsFor 19 = .ok (.ishr, 1) := by decide +kernel
theorem dX5_kindsFor_20 : decode cX5_kindsFor 20 = .ok (.iconst 1, 1) := by decide +kernel
theorem dX5_kindsFor_21 : decode cX5_kindsFor 21 = .ok (.iand, 1) := by decide +kernel
theorem dX5_kindsFor_22 : decode cX5_kindsFor 22 = .ok (.iconst 1, 1) := by decide +kernel
theorem dX5_kindsFor_23 : decode cX5_kindsFor 23 = .ok (.if_icmp .ne 11, 3) := by decide +kernel
theorem dX5_kindsFor_26 : decode cX5_kindsFor 26 = .ok (.aload_n 0, 1) := by decide +kernel
theorem dX5_kindsFor_27 : decode cX5_kindsFor 27 = .ok (.iload_n 3, 1) := by decide +kernel
theorem dX5_kindsFor_28 : decode cX5_kindsFor 28 = .ok (.invokevirtual 87, 3) := by decide +kernel
theorem dX5_kindsFor_31 : decode cX5_kindsFor 31 = .ok (.goto 4, 3) := by decide +kernel
theorem dX5_kindsFor_34 : decode cX5_kindsFor 34 = .ok (.iconst 0, 1) := by decide +kernel
theorem dX5_kindsFor_35 : decode cX5_kindsFor 35 = .ok (.ior, 1) := by decide +kernel
theorem dX5_kindsFor_36 : decode cX5_kindsFor 36 = .ok (.istore_n 2, 1) := by decide +kernel
theorem dX5_kindsFor_37 : decode cX5_kindsFor 37 = .ok (.iinc 3 1, 3) := by decide +kernel
theorem dX5_kindsFor_40 : decode cX5_kindsFor 40 = .ok (.goto (-36), 3) := by decide +kernel
theorem dX5_kindsFor_43 : decode cX5_kindsFor 43 = .ok (.iload_n 2, 1) := by decide +kernel
theorem dX5_kindsFor_44 : decode cX5_kindsFor 44 = .ok (.ireturn, 1) := by decide +kernel
set_option maxRecDepth 20000 in
theorem ggX5_kindsOf_X5_isModel : GoodIn wsX5_kindsOf wsX5_isModel := goodIn_r _ [5, 6, 7, 8, 9, 4, 10, 26, 27, 28, 29, 30, 31, 32, 33, 34, 35, 36, 37, 38, 39, 40, 41, 42, 43, 44, 45] (by decide +kernel) (by decide +kernel)
set_option maxRecDepth 20000 in
theorem gX5_kindsOf_X5_isModel : GoodIn wsX5_kindsOf (wsV RX5 90 RX5 yX5_isModel wsX5_isModel) := goodIn_app (goodIn_of _ (by decide +kernel)) ggX5_kindsOf_X5_isModel
set_option maxRecDepth 20000 in
theorem ggX5_kindsOf_X5_kindsFor : GoodIn wsX5_kindsOf wsX5_kindsFor := goodIn_r _ [14, 6, 15, 16, 17, 4, 18, 19, 20, 21, 22, 23, 24, 25, 26, 27, 28, 29, 30, 31, 32, 33, 34, 35, 36, 37, 38, 39, 40, 41, 42, 43, 44, 45] (by decide +kernel) (by decide +kernel)
set_option maxRecDepth 20000 in
theorem gX5_kindsOf_X5_kindsFor : GoodIn wsX5_kindsOf (wsV RX5 114 RX5 yX5_kindsFor wsX5_kindsFor) := goodIn_app (goodIn_of _ (by decide +kernel)) ggX5_kindsOf_X5_kindsFor
theorem dX5_kindsOf_0 : decode cX5_kindsOf 0 = .ok (.aload_n 0, 1) := by decide +kernel
theorem dX5_kindsOf_1 : decode cX5_kindsOf 1 = .ok (.iload_n 1, 1) := by decide +kernel
theorem dX5_kindsOf_2 : decode cX5_kindsOf 2 = .ok (.invokevirtual 90, 3) := by decide +kernel
theorem dX5_kindsOf_5 : decode cX5_kindsOf 5 = .ok (.ifCond .eq 11, 3) := by decide +kernel
theorem dX5_kindsOf_8 : decode cX5_kindsOf 8 = .ok (.aload_n 0, 1) := by decide +kernel
theorem dX5_kindsOf_9 : decode cX5_kindsOf 9 = .ok (.iload_n 1, 1) := by decide +kernel
theorem dX5_kindsOf_10 : decode cX5_kindsOf 10 = .ok (.invokevirtual 114, 3) := by decide +kernel
theorem dX5_kindsOf_13 : decode cX5_kindsOf 13 = .ok (.goto 4, 3) := by decide +kernel
theorem dX5_kindsOf_16 : decode cX5_kindsOf 16 = .ok (.iconst 0, 1) := by decide +kernel
theorem dX5_kindsOf_17 : decode cX5_kindsOf 17 = .ok (.ireturn, 1) := by decide +kernel
set_option maxRecDepth 20000 in
theorem ggX5_isExam_X5_in : GoodIn wsX5_isExam wsX5_in := goodIn_r _ [6] (by decide +kernel) (by decide +kernel)
set_option maxRecDepth 20000 in
theorem gX5_isExam_X5_in : GoodIn wsX5_isExam (va_wsS RX5 59 yX5_in wsX5_in) := goodIn_app (goodIn_of _ (by decide +kernel)) ggX5_isExam_X5_in
theorem dX5_isExam_0 : decode cX5_isExam 0 = .ok (.aload_n 0, 1) := by decide +kernel
theorem dX5_isExam_1 : decode cX5_isExam 1 = .ok (.iload_n 1, 1) := by decide +kernel
theorem dX5_isExam_2 : decode cX5_isExam 2 = .ok (.iconst 0, 1) := by decide +kernel
theorem dX5_isExam_3 : decode cX5_isExam 3 = .ok (.iconst 5, 1) := by decide +kernel
theorem dX5_isExam_4 : decode cX5_isExam 4 = .ok (.invokestatic 59, 3) := by decide +kernel
theorem dX5_isExam_7 : decode cX5_isExam 7 = .ok (.ifCond .eq 21, 3) := by decide +kernel
theorem dX5_isExam_10 : decode cX5_isExam 10 = .ok (.iload_n 2, 1) := by decide +kernel
theorem dX5_isExam_11 : decode cX5_isExam 11 = .ok (.iconst 0, 1) := by decide +kernel
theorem dX5_isExam_12 : decode cX5_isExam 12 = .ok (.aload_n 0, 1) := by decide +kernel
theorem dX5_isExam_13 : decode cX5_isExam 13 = .ok (.getfield 56, 3) := by decide +kernel
theorem dX5_isExam_16 : decode cX5_isExam 16 = .ok (.iconst 1, 1) := by decide +kernel
theorem dX5_isExam_17 : decode cX5_isExam 17 = .ok (.isub, 1) := by decide +kernel
theorem dX5_isExam_18 : decode cX5_isExam 18 = .ok (.invokestatic 59, 3) := by decide +kernel
theorem dX5_isExam_21 : decode cX5_isExam 21 = .ok (.ifCond .eq 7, 3) := by decide +kernel
theorem dX5_isExam_24 : decode cX5_isExam 24 = .ok (.iconst 0, 1) := by decide +kernel
theorem dX5_isExam_25 : decode cX5_isExam 25 = .ok (.goto 4, 3) := by decide +kernel
theorem dX5_isExam_28 : decode cX5_isExam 28 = .ok (.iconst 1, 1) := by decide +kernel
theorem dX5_isExam_29 : decode cX5_isExam 29 = .ok (.putfield 52, 3) := by decide +kernel
theorem dX5_isExam_32 : decode cX5_isExam 32 = .ok (.aload_n 0, 1) := by decide +kernel
theorem dX5_isExam_33 : decode cX5_isExam 33 = .ok (.getfield 52, 3) := by decide +kernel
theorem dX5_isExam_36 : decode cX5_isExam 36 = .ok (.ifCond .ne 7, 3) := by decide +kernel
theorem dX5_isExam_39 : decode cX5_isExam 39 = .ok (.iconst 1, 1) := by decide +kernel
theorem dX5_isExam_40 : decode cX5_isExam 40 = .ok (.goto 4, 3) := by decide +kernel
theorem dX5_isExam_43 : decode cX5_isExam 43 = .ok (.iconst 0, 1) := by decide +kernel
theorem dX5_isExam_44 : decode cX5_isExam 44 = .ok (.ireturn, 1) := by decide +kernel
set_option maxRecDepth 20000 in
theorem ggX5_mayFold_X5_isExam : GoodIn wsX5_mayFold wsX5_isExam := goodIn_r _ [6, 7, 8, 9, 10, 5, 11, 27, 28, 29, 30, 31, 32, 33, 34, 35, 36, 37, 38, 39, 40, 41, 42, 43, 44, 45, 46] (by decide +kernel) (by decide +kernel)
set_option maxRecDepth 20000 in
theorem gX5_mayFold_X5_isExam : GoodIn wsX5_mayFold (wsV RX5 117 RX5 yX5_isExam wsX5_isExam) := goodIn_app (goodIn_of _ (by decide +kernel)) ggX5_mayFold_X5_isExam
set_option maxRecDepth 20000 in
theorem ggX5_mayFold_X5_kindsFor : GoodIn wsX5_mayFold wsX5_kindsFor := goodIn_r _ [15, 7, 16, 17, 18, 5, 19, 20, 21, 22, 23, 24, 25, 26, 27, 28, 29, 30, 31, 32, 33, 34, 35, 36, 37, 38, 39, 40, 41, 42, 43, 44, 45, 46] (by decide +kernel) (by decide +kernel)
set_option maxRecDepth 20000 in
theorem gX5_mayFold_X5_kindsFor : GoodIn wsX5_mayFold (wsV RX5 114 RX5 yX5_kindsFor wsX5_kindsFor) := goodIn_app (goodIn_of _ (by decide +kernel)) ggX5_mayFold_X5_kindsFor
theorem dX5_mayFold_0 : decode cX5_mayFold 0 = .ok (.aload_n 0, 1) := by decide +kernel
theorem dX5_mayFold_1 : decode cX5_mayFold 1 = .ok (.iload_n 1, 1) := by decide +kernel
theorem dX5_mayFold_2 : decode cX5_mayFold 2 = .ok (.iload_n 2, 1) := by decide +kernel
theorem dX5_mayFold_3 : decode cX5_mayFold 3 = .ok (.invokevirtual 117, 3) := by decide +kernel
theorem dX5_mayFold_6 : decode cX5_mayFold 6 = .ok (.ifCond .eq 24, 3) := by decide +kernel
theorem dX5_mayFold_9 : decode cX5_mayFold 9 = .ok (.aload_n 0, 1) := by decide +kernel
theorem dX5_mayFold_10 : decode cX5_mayFold 10 = .ok (.iload_n 2, 1) := by decide +kernel
theorem dX5_mayFold_11 : decode cX5_mayFold 11 = .ok (.invokevirtual 114, 3) := by decide +kernel
theorem dX5_mayFold_14 : decode cX5_mayFold 14 = .ok (.aload_n 0, 1) := by decide +kernel
theorem dX5_mayFold_15 : decode cX5_mayFold 15 = .ok (.getfield 34, 3) := by decide +kernel
theorem dX5_mayFold_18 : decode cX5_mayFold 18 = .ok (.iload_n 1, 1) := by decide +kernel
theorem dX5_mayFold_19 : decode cX5_mayFold 19 = .ok (.iaload, 1) := by decide +kernel
theorem dX5_mayFold_20 : decode cX5_mayFold 20 = .ok (.iconst (-1), 1) := by decide +kernel
theorem dX5_mayFold_21 : decode cX5_mayFold 21 = .ok (.ixor, 1) := by decide +kernel
theorem dX5_mayFold_22 : decode cX5_mayFold 22 = .ok (.iand, 1) := by decide +kernel
theorem dX5_mayFold_23 : decode cX5_mayFold 23 = .ok (.ifCond .ne 7, 3) := by decide +kernel
theorem dX5_mayFold_26 : decode cX5_mayFold 26 = .ok (.iconst 1, 1) := by decide +kernel
theorem dX5_mayFold_27 : decode cX5_mayFold 27 = .ok (.goto 4, 3) := by decide +kernel
theorem dX5_mayFold_30 : decode cX5_mayFold 30 = .ok (.iconst 0, 1) := by decide +kernel
theorem dX5_mayFold_31 : decode cX5_mayFold 31 = .ok (.ireturn, 1) := by decide +kernel
set_option maxRecDepth 20000 in
theorem ggX5_lessons_X5_isExam : GoodIn wsX5_lessons wsX5_isExam := goodIn_r _ [7, 8, 9, 10, 11, 6, 12, 31, 32, 33, 34, 35, 36, 37, 38, 39, 40, 41, 42, 43, 44, 45, 46, 47, 48, 49, 50] (by decide +kernel) (by decide +kernel)
set_option maxRecDepth 20000 in
theorem gX5_lessons_X5_isExam : GoodIn wsX5_lessons (wsV RX5 117 RX5 yX5_isExam wsX5_isExam) := goodIn_app (goodIn_of _ (by decide +kernel)) ggX5_lessons_X5_isExam
set_option maxRecDepth 20000 in
theorem ggX5_lessons_X5_kindsFor : GoodIn wsX5_lessons wsX5_kindsFor := goodIn_r _ [16, 8, 17, 18, 19, 6, 20, 21, 22, 23, 24, 25, 26, 27, 31, 32, 33, 34, 35, 36, 37, 38, 39, 40, 41, 42, 43, 44, 45, 46, 47, 48, 49, 50] (by decide +kernel) (by decide +kernel)
set_option maxRecDepth 20000 in
theorem gX5_lessons_X5_kindsFor : GoodIn wsX5_lessons (wsV RX5 114 RX5 yX5_kindsFor wsX5_kindsFor) := goodIn_app (goodIn_of _ (by decide +kernel)) ggX5_lessons_X5_kindsFor
set_option maxRecDepth 20000 in
theorem ggX5_lessons_X5_bits : GoodIn wsX5_lessons wsX5_bits := goodIn_r _ [30] (by decide +kernel) (by decide +kernel)
set_option maxRecDepth 20000 in
theorem gX5_lessons_X5_bits : GoodIn wsX5_lessons (va_wsS RX5 104 yX5_bits wsX5_bits) := goodIn_app (goodIn_of _ (by decide +kernel)) ggX5_lessons_X5_bits
theorem dX5_lessons_0 : decode cX5_lessons 0 = .ok (.aload_n 0, 1) := by decide +kernel
theorem dX5_lessons_1 : decode cX5_lessons 1 = .ok (.iload_n 1, 1) := by decide +kernel
theorem dX5_lessons_2 : decode cX5_lessons 2 = .ok (.iload_n 2, 1) := by decide +kernel
theorem dX5_lessons_3 : decode cX5_lessons 3 = .ok (.invokevirtual 117, 3) := by decide +kernel
theorem dX5_lessons_6 : decode cX5_lessons 6 = .ok (.ifCond .ne 5, 3) := by decide +kernel
theorem dX5_lessons_9 : decode cX5_lessons 9 = .ok (.iconst 0, 1) := by decide +kernel
theorem dX5_lessons_10 : decode cX5_lessons 10 = .ok (.ireturn, 1) := by decide +kernel
theorem dX5_lessons_11 : decode cX5_lessons 11 = .ok (.aload_n 0, 1) := by decide +kernel
theorem dX5_lessons_12 : decode cX5_lessons 12 = .ok (.iload_n 2, 1) := by decide +kernel
theorem dX5_lessons_13 : decode cX5_lessons 13 = .ok (.invokevirtual 114, 3) := by decide +kernel
theorem dX5_lessons_16 : decode cX5_lessons 16 = .ok (.aload_n 0, 1) := by decide +kernel
theorem dX5_lessons_17 : decode cX5_lessons 17 = .ok (.getfield 34, 3) := by decide +kernel
theorem dX5_lessons_20 : decode cX5_lessons 20 = .ok (.iload_n 1, 1) := by decide +kernel
theorem dX5_lessons_21 : decode cX5_lessons 21 = .ok (.iaload, 1) := by decide +kernel
theorem dX5_lessons_22 : decode cX5_lessons 22 = .ok (.iconst (-1), 1) := by decide +kernel
theorem dX5_lessons_23 : decode cX5_lessons 23 = .ok (.ixor, 1) := by decide +kernel
theorem dX5_lessons_24 : decode cX5_lessons 24 = .ok (.iand, 1) := by decide +kernel
theorem dX5_lessons_25 : decode cX5_lessons 25 = .ok (.istore_n 3, 1) := by decide +kernel
theorem dX5_lessons_26 : decode cX5_lessons 26 = .ok (.iconst 0, 1) := by decide +kernel
theorem dX5_lessons_27 : decode cX5_lessons 27 = .ok (.istore 4, 2) := by decide +kernel
theorem dX5_lessons_29 : decode cX5_lessons 29 = .ok (.iload 4, 2) := by decide +kernel
theorem dX5_lessons_31 : decode cX5_lessons 31 = .ok (.bipush 8, 2) := by decide +kernel
theorem dX5_lessons_33 : decode cX5_lessons 33 = .ok (.if_icmp .ge 58, 3) := by decide +kernel
theorem dX5_lessons_36 : decode cX5_lessons 36 = .ok (.iconst 0, 1) := by decide +kernel
theorem dX5_lessons_37 : decode cX5_lessons 37 = .ok (.istore 5, 2) := by decide +kernel
theorem dX5_lessons_39 : decode cX5_lessons 39 = .ok (.iload 5, 2) := by decide +kernel
theorem dX5_lessons_41 : decode cX5_lessons 41 = .ok (.bipush 8, 2) := by decide +kernel
theorem dX5_lessons_43 : decode cX5_lessons 43 = .ok (.if_icmp .ge 42, 3) := by decide +kernel
theorem dX5_lessons_46 : decode cX5_lessons 46 = .ok (.iload_n 3, 1) := by decide +kernel
theorem dX5_lessons_47 : decode cX5_lessons 47 = .ok (.iload_n 3, 1) := by decide +kernel
theorem dX5_lessons_48 : decode cX5_lessons 48 = .ok (.iload 5, 2) := by decide +kernel
theorem dX5_lessons_50 : decode cX5_lessons 50 = .ok (.ishr, 1) := by decide +kernel
theorem dX5_lessons_51 : decode cX5_lessons 51 = .ok (.iconst 1, 1) := by decide +kernel
theorem dX5_lessons_52 : decode cX5_lessons 52 = .ok (.iand, 1) := by decide +kernel
theorem dX5_lessons_53 : decode cX5_lessons 53 = .ok (.iconst 1, 1) := by decide +kernel
theorem dX5_lessons_54 : decode cX5_lessons 54 = .ok (.if_icmp .ne 22, 3) := by decide +kernel
theorem dX5_lessons_57 : decode cX5_lessons 57 = .ok (.aload_n 0, 1) := by decide +kernel
theorem dX5_lessons_58 : decode cX5_lessons 58 = .ok (.getfield 7, 3) := by decide +kernel
theorem dX5_lessons_61 : decode cX5_lessons 61 = .ok (.iload 5, 2) := by decide +kernel
theorem dX5_lessons_63 : decode cX5_lessons 63 = .ok (.iaload, 1) := by decide +kernel
theorem dX5_lessons_64 : decode cX5_lessons 64 = .ok (.aload_n 0, 1) := by decide +kernel
theorem dX5_lessons_65 : decode cX5_lessons 65 = .ok (.getfield 34, 3) := by decide +kernel
theorem dX5_lessons_68 : decode cX5_lessons 68 = .ok (.iload_n 1, 1) := by decide +kernel
theorem dX5_lessons_69 : decode cX5_lessons 69 = .ok (.iaload, 1) := by decide +kernel
theorem dX5_lessons_70 : decode cX5_lessons 70 = .ok (.iconst (-1), 1) := by decide +kernel
theorem dX5_lessons_71 : decode cX5_lessons 71 = .ok (.ixor, 1) := by decide +kernel
theorem dX5_lessons_72 : decode cX5_lessons 72 = .ok (.iand, 1) := by decide +kernel
theorem dX5_lessons_73 : decode cX5_lessons 73 = .ok (.goto 4, 3) := by decide +kernel
theorem dX5_lessons_76 : decode cX5_lessons 76 = .ok (.iconst 0, 1) := by decide +kernel
theorem dX5_lessons_77 : decode cX5_lessons 77 = .ok (.ior, 1) := by decide +kernel
theorem dX5_lessons_78 : decode cX5_lessons 78 = .ok (.istore_n 3, 1) := by decide +kernel
theorem dX5_lessons_79 : decode cX5_lessons 79 = .ok (.iinc 5 1, 3) := by decide +kernel
theorem dX5_lessons_82 : decode cX5_lessons 82 = .ok (.goto (-43), 3) := by decide +kernel
theorem dX5_lessons_85 : decode cX5_lessons 85 = .ok (.iinc 4 1, 3) := by decide +kernel
theorem dX5_lessons_88 : decode cX5_lessons 88 = .ok (.goto (-59), 3) := by decide +kernel
theorem dX5_lessons_91 : decode cX5_lessons 91 = .ok (.iload_n 3, 1) := by decide +kernel
theorem dX5_lessons_92 : decode cX5_lessons 92 = .ok (.invokestatic 104, 3) := by decide +kernel
theorem dX5_lessons_95 : decode cX5_lessons 95 = .ok (.ireturn, 1) := by decide +kernel
set_option maxRecDepth 20000 in
theorem ggX5_credit_X5_in : GoodIn wsX5_credit wsX5_in := goodIn_r _ [7] (by decide +kernel) (by decide +kernel)
set_option maxRecDepth 20000 in
theorem gX5_credit_X5_in : GoodIn wsX5_credit (va_wsS RX5 59 yX5_in wsX5_in) := goodIn_app (goodIn_of _ (by decide +kernel)) ggX5_credit_X5_in
set_option maxRecDepth 20000 in
theorem ggX5_credit_X5_used : GoodIn wsX5_credit wsX5_used := goodIn_r _ [11, 2, 12, 13, 14, 15, 16, 17, 18, 19, 20, 21, 22, 23, 24, 25, 26, 27, 28, 29, 30, 31, 32] (by decide +kernel) (by decide +kernel)
set_option maxRecDepth 20000 in
theorem gX5_credit_X5_used : GoodIn wsX5_credit (wsV RX5 94 RX5 yX5_used wsX5_used) := goodIn_app (goodIn_of _ (by decide +kernel)) ggX5_credit_X5_used
theorem dX5_credit_0 : decode cX5_credit 0 = .ok (.aload_n 0, 1) := by decide +kernel
theorem dX5_credit_1 : decode cX5_credit 1 = .ok (.iload_n 1, 1) := by decide +kernel
theorem dX5_credit_2 : decode cX5_credit 2 = .ok (.iconst 0, 1) := by decide +kernel
theorem dX5_credit_3 : decode cX5_credit 3 = .ok (.bipush 9, 2) := by decide +kernel
theorem dX5_credit_5 : decode cX5_credit 5 = .ok (.invokestatic 59, 3) := by decide +kernel
theorem dX5_credit_8 : decode cX5_credit 8 = .ok (.ifCond .eq 7, 3) := by decide +kernel
theorem dX5_credit_11 : decode cX5_credit 11 = .ok (.iconst 0, 1) := by decide +kernel
theorem dX5_credit_12 : decode cX5_credit 12 = .ok (.goto 4, 3) := by decide +kernel
theorem dX5_credit_15 : decode cX5_credit 15 = .ok (.iconst 1, 1) := by decide +kernel
theorem dX5_credit_16 : decode cX5_credit 16 = .ok (.putfield 52, 3) := by decide +kernel
theorem dX5_credit_19 : decode cX5_credit 19 = .ok (.iconst 0, 1) := by decide +kernel
theorem dX5_credit_20 : decode cX5_credit 20 = .ok (.istore_n 2, 1) := by decide +kernel
theorem dX5_credit_21 : decode cX5_credit 21 = .ok (.iconst 0, 1) := by decide +kernel
theorem dX5_credit_22 : decode cX5_credit 22 = .ok (.istore_n 3, 1) := by decide +kernel
theorem dX5_credit_23 : decode cX5_credit 23 = .ok (.iload_n 3, 1) := by decide +kernel
theorem dX5_credit_24 : decode cX5_credit 24 = .ok (.aload_n 0, 1) := by decide +kernel
theorem dX5_credit_25 : decode cX5_credit 25 = .ok (.getfield 56, 3) := by decide +kernel
theorem dX5_credit_28 : decode cX5_credit 28 = .ok (.if_icmp .ge 103, 3) := by decide +kernel
theorem dX5_credit_31 : decode cX5_credit 31 = .ok (.aload_n 0, 1) := by decide +kernel
theorem dX5_credit_32 : decode cX5_credit 32 = .ok (.getfield 52, 3) := by decide +kernel
theorem dX5_credit_35 : decode cX5_credit 35 = .ok (.ifCond .ne 96, 3) := by decide +kernel
theorem dX5_credit_38 : decode cX5_credit 38 = .ok (.iconst 0, 1) := by decide +kernel
theorem dX5_credit_39 : decode cX5_credit 39 = .ok (.istore 4, 2) := by decide +kernel
theorem dX5_credit_41 : decode cX5_credit 41 = .ok (.iconst 0, 1) := by decide +kernel
theorem dX5_credit_42 : decode cX5_credit 42 = .ok (.istore 5, 2) := by decide +kernel
theorem dX5_credit_44 : decode cX5_credit 44 = .ok (.iload 5, 2) := by decide +kernel
theorem dX5_credit_46 : decode cX5_credit 46 = .ok (.aload_n 0, 1) := by decide +kernel
theorem dX5_credit_47 : decode cX5_credit 47 = .ok (.getfield 56, 3) := by decide +kernel
theorem dX5_credit_50 : decode cX5_credit 50 = .ok (.if_icmp .ge 52, 3) := by decide +kernel
theorem dX5_credit_53 : decode cX5_credit 53 = .ok (.iload 4, 2) := by decide +kernel
theorem dX5_credit_55 : decode cX5_credit 55 = .ok (.ifCond .ne 34, 3) := by decide +kernel
theorem dX5_credit_58 : decode cX5_credit 58 = .ok (.iload 5, 2) := by decide +kernel
theorem dX5_credit_60 : decode cX5_credit 60 = .ok (.iload_n 3, 1) := by decide +kernel
theorem dX5_credit_61 : decode cX5_credit 61 = .ok (.if_icmp .eq 32, 3) := by decide +kernel
theorem dX5_credit_64 : decode cX5_credit 64 = .ok (.aload_n 0, 1) := by decide +kernel
theorem dX5_credit_65 : decode cX5_credit 65 = .ok (.iload_n 3, 1) := by decide +kernel
theorem dX5_credit_66 : decode cX5_credit 66 = .ok (.invokevirtual 94, 3) := by decide +kernel
theorem dX5_credit_69 : decode cX5_credit 69 = .ok (.iload 5, 2) := by decide +kernel
theorem dX5_credit_71 : decode cX5_credit 71 = .ok (.ishr, 1) := by decide +kernel
theorem dX5_credit_72 : decode cX5_credit 72 = .ok (.iconst 1, 1) := by decide +kernel
theorem dX5_credit_73 : decode cX5_credit 73 = .ok (.iand, 1) := by decide +kernel
theorem dX5_credit_74 : decode cX5_credit 74 = .ok (.iconst 1, 1) := by decide +kernel
theorem dX5_credit_75 : decode cX5_credit 75 = .ok (.if_icmp .ne 18, 3) := by decide +kernel
theorem dX5_credit_78 : decode cX5_credit 78 = .ok (.aload_n 0, 1) := by decide +kernel
theorem dX5_credit_79 : decode cX5_credit 79 = .ok (.getfield 13, 3) := by decide +kernel
theorem dX5_credit_82 : decode cX5_credit 82 = .ok (.iload 5, 2) := by decide +kernel
theorem dX5_credit_84 : decode cX5_credit 84 = .ok (.iaload, 1) := by decide +kernel
theorem dX5_credit_85 : decode cX5_credit 85 = .ok (.iload_n 1, 1) := by decide +kernel
theorem dX5_credit_86 : decode cX5_credit 86 = .ok (.if_icmp .ne 7, 3) := by decide +kernel
theorem dX5_credit_89 : decode cX5_credit 89 = .ok (.iconst 1, 1) := by decide +kernel
theorem dX5_credit_90 : decode cX5_credit 90 = .ok (.goto 4, 3) := by decide +kernel
theorem dX5_credit_93 : decode cX5_credit 93 = .ok (.iconst 0, 1) := by decide +kernel
theorem dX5_credit_94 : decode cX5_credit 94 = .ok (.istore 4, 2) := by decide +kernel
theorem dX5_credit_96 : decode cX5_credit 96 = .ok (.iinc 5 1, 3) := by decide +kernel
theorem dX5_credit_99 : decode cX5_credit 99 = .ok (.goto (-55), 3) := by decide +kernel
theorem dX5_credit_102 : decode cX5_credit 102 = .ok (.iload_n 2, 1) := by decide +kernel
theorem dX5_credit_103 : decode cX5_credit 103 = .ok (.iload 4, 2) := by decide +kernel
theorem dX5_credit_105 : decode cX5_credit 105 = .ok (.ifCond .eq 17, 3) := by decide +kernel
theorem dX5_credit_108 : decode cX5_credit 108 = .ok (.aload_n 0, 1) := by decide +kernel
theorem dX5_credit_109 : decode cX5_credit 109 = .ok (.getfield 13, 3) := by decide +kernel
theorem dX5_credit_112 : decode cX5_credit 112 = .ok (.iload_n 3, 1) := by decide +kernel
theorem dX5_credit_113 : decode cX5_credit 113 = .ok (.iaload, 1) := by decide +kernel
theorem dX5_credit_114 : decode cX5_credit 114 = .ok (.iload_n 1, 1) := by decide +kernel
theorem dX5_credit_115 : decode cX5_credit 115 = .ok (.if_icmp .eq 7, 3) := by decide +kernel
theorem dX5_credit_118 : decode cX5_credit 118 = .ok (.iconst 1, 1) := by decide +kernel
theorem dX5_credit_119 : decode cX5_credit 119 = .ok (.goto 4, 3) := by decide +kernel
theorem dX5_credit_122 : decode cX5_credit 122 = .ok (.iconst 0, 1) := by decide +kernel
theorem dX5_credit_123 : decode cX5_credit 123 = .ok (.iadd, 1) := by decide +kernel
theorem dX5_credit_124 : decode cX5_credit 124 = .ok (.istore_n 2, 1) := by decide +kernel
theorem dX5_credit_125 : decode cX5_credit 125 = .ok (.iinc 3 1, 3) := by decide +kernel
theorem dX5_credit_128 : decode cX5_credit 128 = .ok (.goto (-105), 3) := by decide +kernel
theorem dX5_credit_131 : decode cX5_credit 131 = .ok (.iload_n 2, 1) := by decide +kernel
theorem dX5_credit_132 : decode cX5_credit 132 = .ok (.ireturn, 1) := by decide +kernel
theorem dX5_fewest_0 : decode cX5_fewest 0 = .ok (.aload_n 0, 1) := by decide +kernel
theorem dX5_fewest_1 : decode cX5_fewest 1 = .ok (.getfield 49, 3) := by decide +kernel
theorem dX5_fewest_4 : decode cX5_fewest 4 = .ok (.iconst 0, 1) := by decide +kernel
theorem dX5_fewest_5 : decode cX5_fewest 5 = .ok (.iconst 0, 1) := by decide +kernel
theorem dX5_fewest_6 : decode cX5_fewest 6 = .ok (.iastore, 1) := by decide +kernel
theorem dX5_fewest_7 : decode cX5_fewest 7 = .ok (.iconst 1, 1) := by decide +kernel
theorem dX5_fewest_8 : decode cX5_fewest 8 = .ok (.istore_n 1, 1) := by decide +kernel
theorem dX5_fewest_9 : decode cX5_fewest 9 = .ok (.iload_n 1, 1) := by decide +kernel
theorem dX5_fewest_10 : decode cX5_fewest 10 = .ok (.aload_n 0, 1) := by decide +kernel
theorem dX5_fewest_11 : decode cX5_fewest 11 = .ok (.getfield 98, 3) := by decide +kernel
theorem dX5_fewest_14 : decode cX5_fewest 14 = .ok (.if_icmp .gt 107, 3) := by decide +kernel
theorem dX5_fewest_17 : decode cX5_fewest 17 = .ok (.aload_n 0, 1) := by decide +kernel
theorem dX5_fewest_18 : decode cX5_fewest 18 = .ok (.getfield 49, 3) := by decide +kernel
theorem dX5_fewest_21 : decode cX5_fewest 21 = .ok (.iload_n 1, 1) := by decide +kernel
theorem dX5_fewest_22 : decode cX5_fewest 22 = .ok (.iconst (-1), 1) := by decide +kernel
theorem dX5_fewest_23 : decode cX5_fewest 23 = .ok (.iastore, 1) := by decide +kernel
theorem dX5_fewest_24 : decode cX5_fewest 24 = .ok (.iconst 1, 1) := by decide +kernel
theorem dX5_fewest_25 : decode cX5_fewest 25 = .ok (.istore_n 2, 1) := by decide +kernel
theorem dX5_fewest_26 : decode cX5_fewest 26 = .ok (.iload_n 2, 1) := by decide +kernel
theorem dX5_fewest_27 : decode cX5_fewest 27 = .ok (.bipush 20, 2) := by decide +kernel
theorem dX5_fewest_29 : decode cX5_fewest 29 = .ok (.if_icmp .gt 86, 3) := by decide +kernel
theorem dX5_fewest_32 : decode cX5_fewest 32 = .ok (.iload_n 2, 1) := by decide +kernel
theorem dX5_fewest_33 : decode cX5_fewest 33 = .ok (.iload_n 1, 1) := by decide +kernel
theorem dX5_fewest_34 : decode cX5_fewest 34 = .ok (.if_icmp .gt 81, 3) := by decide +kernel
theorem dX5_fewest_37 : decode cX5_fewest 37 = .ok (.aload_n 0, 1) := by decide +kernel
theorem dX5_fewest_38 : decode cX5_fewest 38 = .ok (.getfield 101, 3) := by decide +kernel
theorem dX5_fewest_41 : decode cX5_fewest 41 = .ok (.iload_n 2, 1) := by decide +kernel
theorem dX5_fewest_42 : decode cX5_fewest 42 = .ok (.iconst 1, 1) := by decide +kernel
theorem dX5_fewest_43 : decode cX5_fewest 43 = .ok (.isub, 1) := by decide +kernel
theorem dX5_fewest_44 : decode cX5_fewest 44 = .ok (.ishr, 1) := by decide +kernel
theorem dX5_fewest_45 : decode cX5_fewest 45 = .ok (.iconst 1, 1) := by decide +kernel
theorem dX5_fewest_46 : decode cX5_fewest 46 = .ok (.iand, 1) := by decide +kernel
theorem dX5_fewest_47 : decode cX5_fewest 47 = .ok (.iconst 1, 1) := by decide +kernel
theorem dX5_fewest_48 : decode cX5_fewest 48 = .ok (.if_icmp .ne 14, 3) := by decide +kernel
theorem dX5_fewest_51 : decode cX5_fewest 51 = .ok (.aload_n 0, 1) := by decide +kernel
theorem dX5_fewest_52 : decode cX5_fewest 52 = .ok (.getfield 49, 3) := by decide +kernel
theorem dX5_fewest_55 : decode cX5_fewest 55 = .ok (.iload_n 1, 1) := by decide +kernel
theorem dX5_fewest_56 : decode cX5_fewest 56 = .ok (.iload_n 2, 1) := by decide +kernel
theorem dX5_fewest_57 : decode cX5_fewest 57 = .ok (.isub, 1) := by decide +kernel
theorem dX5_fewest_58 : decode cX5_fewest 58 = .ok (.iaload, 1) := by decide +kernel
theorem dX5_fewest_59 : decode cX5_fewest 59 = .ok (.goto 4, 3) := by decide +kernel
theorem dX5_fewest_62 : decode cX5_fewest 62 = .ok (.iconst (-1), 1) := by decide +kernel
theorem dX5_fewest_63 : decode cX5_fewest 63 = .ok (.istore_n 3, 1) := by decide +kernel
theorem dX5_fewest_64 : decode cX5_fewest 64 = .ok (.aload_n 0, 1) := by decide +kernel
theorem dX5_fewest_65 : decode cX5_fewest 65 = .ok (.getfield 49, 3) := by decide +kernel
theorem dX5_fewest_68 : decode cX5_fewest 68 = .ok (.iload_n 1, 1) := by decide +kernel
theorem dX5_fewest_69 : decode cX5_fewest 69 = .ok (.iload_n 3, 1) := by decide +kernel
theorem dX5_fewest_70 : decode cX5_fewest 70 = .ok (.iconst (-1), 1) := by decide +kernel
theorem dX5_fewest_71 : decode cX5_fewest 71 = .ok (.if_icmp .eq 31, 3) := by decide +kernel
theorem dX5_fewest_74 : decode cX5_fewest 74 = .ok (.aload_n 0, 1) := by decide +kernel
theorem dX5_fewest_75 : decode cX5_fewest 75 = .ok (.getfield 49, 3) := by decide +kernel
theorem dX5_fewest_78 : decode cX5_fewest 78 = .ok (.iload_n 1, 1) := by decide +kernel
theorem dX5_fewest_79 : decode cX5_fewest 79 = .ok (.iaload, 1) := by decide +kernel
theorem dX5_fewest_80 : decode cX5_fewest 80 = .ok (.iconst (-1), 1) := by decide +kernel
theorem dX5_fewest_81 : decode cX5_fewest 81 = .ok (.if_icmp .eq 15, 3) := by decide +kernel
theorem dX5_fewest_84 : decode cX5_fewest 84 = .ok (.iload_n 3, 1) := by decide +kernel
theorem dX5_fewest_85 : decode cX5_fewest 85 = .ok (.iconst 1, 1) := by decide +kernel
theorem dX5_fewest_86 : decode cX5_fewest 86 = .ok (.iadd, 1) := by decide +kernel
theorem dX5_fewest_87 : decode cX5_fewest 87 = .ok (.aload_n 0, 1) := by decide +kernel
theorem dX5_fewest_88 : decode cX5_fewest 88 = .ok (.getfield 49, 3) := by decide +kernel
theorem dX5_fewest_91 : decode cX5_fewest 91 = .ok (.iload_n 1, 1) := by decide +kernel
theorem dX5_fewest_92 : decode cX5_fewest 92 = .ok (.iaload, 1) := by decide +kernel
theorem dX5_fewest_93 : decode cX5_fewest 93 = .ok (.if_icmp .ge 9, 3) := by decide +kernel
theorem dX5_fewest_96 : decode cX5_fewest 96 = .ok (.iload_n 3, 1) := by decide +kernel
theorem dX5_fewest_97 : decode cX5_fewest 97 = .ok (.iconst 1, 1) := by decide +kernel
theorem dX5_fewest_98 : decode cX5_fewest 98 = .ok (.iadd, 1) := by decide +kernel
theorem dX5_fewest_99 : decode cX5_fewest 99 = .ok (.goto 9, 3) := by decide +kernel
theorem dX5_fewest_102 : decode cX5_fewest 102 = .ok (.aload_n 0, 1) := by decide +kernel
theorem dX5_fewest_103 : decode cX5_fewest 103 = .ok (.getfield 49, 3) := by decide +kernel
theorem dX5_fewest_106 : decode cX5_fewest 106 = .ok (.iload_n 1, 1) := by decide +kernel
theorem dX5_fewest_107 : decode cX5_fewest 107 = .ok (.iaload, 1) := by decide +kernel
theorem dX5_fewest_108 : decode cX5_fewest 108 = .ok (.iastore, 1) := by decide +kernel
theorem dX5_fewest_109 : decode cX5_fewest 109 = .ok (.iinc 2 1, 3) := by decide +kernel
theorem dX5_fewest_112 : decode cX5_fewest 112 = .ok (.goto (-86), 3) := by decide +kernel
theorem dX5_fewest_115 : decode cX5_fewest 115 = .ok (.iinc 1 1, 3) := by decide +kernel
theorem dX5_fewest_118 : decode cX5_fewest 118 = .ok (.goto (-109), 3) := by decide +kernel
theorem dX5_fewest_121 : decode cX5_fewest 121 = .ok (.return_, 1) := by decide +kernel
set_option maxRecDepth 20000 in
theorem ggX5_fewestPieces_X5_fewest : GoodIn wsX5_fewestPieces wsX5_fewest := goodIn_r _ [8, 2, 3, 9, 10, 11, 12, 13, 14, 15, 16, 17, 18, 19, 20, 21, 22, 23, 24, 25, 26, 27, 28, 29] (by decide +kernel) (by decide +kernel)
set_option maxRecDepth 20000 in
theorem gX5_fewestPieces_X5_fewest : GoodIn wsX5_fewestPieces (wsV RX5 120 RX5 yX5_fewest wsX5_fewest) := goodIn_app (goodIn_of _ (by decide +kernel)) ggX5_fewestPieces_X5_fewest
theorem dX5_fewestPieces_0 : decode cX5_fewestPieces 0 = .ok (.aload_n 0, 1) := by decide +kernel
theorem dX5_fewestPieces_1 : decode cX5_fewestPieces 1 = .ok (.iconst 0, 1) := by decide +kernel
theorem dX5_fewestPieces_2 : decode cX5_fewestPieces 2 = .ok (.putfield 52, 3) := by decide +kernel
theorem dX5_fewestPieces_5 : decode cX5_fewestPieces 5 = .ok (.aload_n 0, 1) := by decide +kernel
theorem dX5_fewestPieces_6 : decode cX5_fewestPieces 6 = .ok (.invokevirtual 120, 3) := by decide +kernel
theorem dX5_fewestPieces_9 : decode cX5_fewestPieces 9 = .ok (.aload_n 0, 1) := by decide +kernel
theorem dX5_fewestPieces_10 : decode cX5_fewestPieces 10 = .ok (.getfield 49, 3) := by decide +kernel
theorem dX5_fewestPieces_13 : decode cX5_fewestPieces 13 = .ok (.aload_n 0, 1) := by decide +kernel
theorem dX5_fewestPieces_14 : decode cX5_fewestPieces 14 = .ok (.getfield 98, 3) := by decide +kernel
theorem dX5_fewestPieces_17 : decode cX5_fewestPieces 17 = .ok (.iaload, 1) := by decide +kernel
theorem dX5_fewestPieces_18 : decode cX5_fewestPieces 18 = .ok (.ireturn, 1) := by decide +kernel
theorem dX5_ways_0 : decode cX5_ways 0 = .ok (.aload_n 0, 1) := by decide +kernel
theorem dX5_ways_1 : decode cX5_ways 1 = .ok (.iconst 0, 1) := by decide +kernel
theorem dX5_ways_2 : decode cX5_ways 2 = .ok (.putfield 52, 3) := by decide +kernel
theorem dX5_ways_5 : decode cX5_ways 5 = .ok (.iconst 0, 1) := by decide +kernel
theorem dX5_ways_6 : decode cX5_ways 6 = .ok (.istore_n 1, 1) := by decide +kernel
theorem dX5_ways_7 : decode cX5_ways 7 = .ok (.iload_n 1, 1) := by decide +kernel
theorem dX5_ways_8 : decode cX5_ways 8 = .ok (.aload_n 0, 1) := by decide +kernel
theorem dX5_ways_9 : decode cX5_ways 9 = .ok (.getfield 98, 3) := by decide +kernel
theorem dX5_ways_12 : decode cX5_ways 12 = .ok (.if_icmp .gt 24, 3) := by decide +kernel
theorem dX5_ways_15 : decode cX5_ways 15 = .ok (.aload_n 0, 1) := by decide +kernel
theorem dX5_ways_16 : decode cX5_ways 16 = .ok (.getfield 49, 3) := by decide +kernel
theorem dX5_ways_19 : decode cX5_ways 19 = .ok (.iload_n 1, 1) := by decide +kernel
theorem dX5_ways_20 : decode cX5_ways 20 = .ok (.iload_n 1, 1) := by decide +kernel
theorem dX5_ways_21 : decode cX5_ways 21 = .ok (.ifCond .ne 7, 3) := by decide +kernel
theorem dX5_ways_24 : decode cX5_ways 24 = .ok (.iconst 1, 1) := by decide +kernel
theorem dX5_ways_25 : decode cX5_ways 25 = .ok (.goto 4, 3) := by decide +kernel
theorem dX5_ways_28 : decode cX5_ways 28 = .ok (.iconst 0, 1) := by decide +kernel
theorem dX5_ways_29 : decode cX5_ways 29 = .ok (.iastore, 1) := by decide +kernel
theorem dX5_ways_30 : decode cX5_ways 30 = .ok (.iinc 1 1, 3) := by decide +kernel
theorem dX5_ways_33 : decode cX5_ways 33 = .ok (.goto (-26), 3) := by decide +kernel
theorem dX5_ways_36 : decode cX5_ways 36 = .ok (.iconst 1, 1) := by decide +kernel
theorem dX5_ways_37 : decode cX5_ways 37 = .ok (.istore_n 1, 1) := by decide +kernel
theorem dX5_ways_38 : decode cX5_ways 38 = .ok (.iload_n 1, 1) := by decide +kernel
theorem dX5_ways_39 : decode cX5_ways 39 = .ok (.bipush 20, 2) := by decide +kernel
theorem dX5_ways_41 : decode cX5_ways 41 = .ok (.if_icmp .gt 63, 3) := by decide +kernel
theorem dX5_ways_44 : decode cX5_ways 44 = .ok (.iload_n 1, 1) := by decide +kernel
theorem dX5_ways_45 : decode cX5_ways 45 = .ok (.istore_n 2, 1) := by decide +kernel
theorem dX5_ways_46 : decode cX5_ways 46 = .ok (.iload_n 2, 1) := by decide +kernel
theorem dX5_ways_47 : decode cX5_ways 47 = .ok (.aload_n 0, 1) := by decide +kernel
theorem dX5_ways_48 : decode cX5_ways 48 = .ok (.getfield 98, 3) := by decide +kernel
theorem dX5_ways_51 : decode cX5_ways 51 = .ok (.if_icmp .gt 47, 3) := by decide +kernel
theorem dX5_ways_54 : decode cX5_ways 54 = .ok (.aload_n 0, 1) := by decide +kernel
theorem dX5_ways_55 : decode cX5_ways 55 = .ok (.getfield 101, 3) := by decide +kernel
theorem dX5_ways_58 : decode cX5_ways 58 = .ok (.iload_n 1, 1) := by decide +kernel
theorem dX5_ways_59 : decode cX5_ways 59 = .ok (.iconst 1, 1) := by decide +kernel
theorem dX5_ways_60 : decode cX5_ways 60 = .ok (.isub, 1) := by decide +kernel
theorem dX5_ways_61 : decode cX5_ways 61 = .ok (.ishr, 1) := by decide +kernel
theorem dX5_ways_62 : decode cX5_ways 62 = .ok (.iconst 1, 1) := by decide +kernel
theorem dX5_ways_63 : decode cX5_ways 63 = .ok (.iand, 1) := by decide +kernel
theorem dX5_ways_64 : decode cX5_ways 64 = .ok (.iconst 1, 1) := by decide +kernel
theorem dX5_ways_65 : decode cX5_ways 65 = .ok (.if_icmp .ne 33, 3) := by decide +kernel
theorem dX5_ways_68 : decode cX5_ways 68 = .ok (.aload_n 0, 1) := by decide +kernel
theorem dX5_ways_69 : decode cX5_ways 69 = .ok (.getfield 49, 3) := by decide +kernel
theorem dX5_ways_72 : decode cX5_ways 72 = .ok (.iload_n 2, 1) := by decide +kernel
theorem dX5_ways_73 : decode cX5_ways 73 = .ok (.aload_n 0, 1) := by decide +kernel
theorem dX5_ways_74 : decode cX5_ways 74 = .ok (.getfield 49, 3) := by decide +kernel
theorem dX5_ways_77 : decode cX5_ways 77 = .ok (.iload_n 2, 1) := by decide +kernel
theorem dX5_ways_78 : decode cX5_ways 78 = .ok (.iaload, 1) := by decide +kernel
theorem dX5_ways_79 : decode cX5_ways 79 = .ok (.aload_n 0, 1) := by decide +kernel
theorem dX5_ways_80 : decode cX5_ways 80 = .ok (.getfield 49, 3) := by decide +kernel
theorem dX5_ways_83 : decode cX5_ways 83 = .ok (.iload_n 2, 1) := by decide +kernel
theorem dX5_ways_84 : decode cX5_ways 84 = .ok (.iload_n 1, 1) := by decide +kernel
theorem dX5_ways_85 : decode cX5_ways 85 = .ok (.isub, 1) := by decide +kernel
theorem dX5_ways_86 : decode cX5_ways 86 = .ok (.iaload, 1) := by decide +kernel
theorem dX5_ways_87 : decode cX5_ways 87 = .ok (.iadd, 1) := by decide +kernel
theorem dX5_ways_88 : decode cX5_ways 88 = .ok (.ldc 123, 2) := by decide +kernel
theorem dX5_ways_90 : decode cX5_ways 90 = .ok (.irem, 1) := by decide +kernel
theorem dX5_ways_91 : decode cX5_ways 91 = .ok (.iastore, 1) := by decide +kernel
theorem dX5_ways_92 : decode cX5_ways 92 = .ok (.iinc 2 1, 3) := by decide +kernel
theorem dX5_ways_95 : decode cX5_ways 95 = .ok (.goto (-49), 3) := by decide +kernel
theorem dX5_ways_98 : decode cX5_ways 98 = .ok (.iinc 1 1, 3) := by decide +kernel
theorem dX5_ways_101 : decode cX5_ways 101 = .ok (.goto (-63), 3) := by decide +kernel
theorem dX5_ways_104 : decode cX5_ways 104 = .ok (.aload_n 0, 1) := by decide +kernel
theorem dX5_ways_105 : decode cX5_ways 105 = .ok (.getfield 49, 3) := by decide +kernel
theorem dX5_ways_108 : decode cX5_ways 108 = .ok (.aload_n 0, 1) := by decide +kernel
theorem dX5_ways_109 : decode cX5_ways 109 = .ok (.getfield 98, 3) := by decide +kernel
theorem dX5_ways_112 : decode cX5_ways 112 = .ok (.iaload, 1) := by decide +kernel
theorem dX5_ways_113 : decode cX5_ways 113 = .ok (.ireturn, 1) := by decide +kernel
set_option maxRecDepth 20000 in
theorem ggX5_leastRest_X5_fewest : GoodIn wsX5_leastRest wsX5_fewest := goodIn_r _ [8, 2, 3, 9, 10, 11, 12, 13, 14, 15, 16, 17, 18, 19, 20, 21, 22, 23, 24, 25, 26, 27, 28, 29] (by decide +kernel) (by decide +kernel)
set_option maxRecDepth 20000 in
theorem gX5_leastRest_X5_fewest : GoodIn wsX5_leastRest (wsV RX5 120 RX5 yX5_fewest wsX5_fewest) := goodIn_app (goodIn_of _ (by decide +kernel)) ggX5_leastRest_X5_fewest
theorem dX5_leastRest_0 : decode cX5_leastRest 0 = .ok (.aload_n 0, 1) := by decide +kernel
theorem dX5_leastRest_1 : decode cX5_leastRest 1 = .ok (.iconst 0, 1) := by decide +kernel
theorem dX5_leastRest_2 : decode cX5_leastRest 2 = .ok (.putfield 52, 3) := by decide +kernel
theorem dX5_leastRest_5 : decode cX5_leastRest 5 = .ok (.aload_n 0, 1) := by decide +kernel
theorem dX5_leastRest_6 : decode cX5_leastRest 6 = .ok (.invokevirtual 120, 3) := by decide +kernel
theorem dX5_leastRest_9 : decode cX5_leastRest 9 = .ok (.iconst 0, 1) := by decide +kernel
theorem dX5_leastRest_10 : decode cX5_leastRest 10 = .ok (.istore_n 1, 1) := by decide +kernel
theorem dX5_leastRest_11 : decode cX5_leastRest 11 = .ok (.aload_n 0, 1) := by decide +kernel
theorem dX5_leastRest_12 : decode cX5_leastRest 12 = .ok (.getfield 49, 3) := by decide +kernel
theorem dX5_leastRest_15 : decode cX5_leastRest 15 = .ok (.aload_n 0, 1) := by decide +kernel
theorem dX5_leastRest_16 : decode cX5_leastRest 16 = .ok (.getfield 98, 3) := by decide +kernel
theorem dX5_leastRest_19 : decode cX5_leastRest 19 = .ok (.iload_n 1, 1) := by decide +kernel
theorem dX5_leastRest_20 : decode cX5_leastRest 20 = .ok (.isub, 1) := by decide +kernel
theorem dX5_leastRest_21 : decode cX5_leastRest 21 = .ok (.iaload, 1) := by decide +kernel
theorem dX5_leastRest_22 : decode cX5_leastRest 22 = .ok (.iconst (-1), 1) := by decide +kernel
theorem dX5_leastRest_23 : decode cX5_leastRest 23 = .ok (.if_icmp .ne 9, 3) := by decide +kernel
theorem dX5_leastRest_26 : decode cX5_leastRest 26 = .ok (.iinc 1 1, 3) := by decide +kernel
theorem dX5_leastRest_29 : decode cX5_leastRest 29 = .ok (.goto (-18), 3) := by decide +kernel
theorem dX5_leastRest_32 : decode cX5_leastRest 32 = .ok (.iload_n 1, 1) := by decide +kernel
theorem dX5_leastRest_33 : decode cX5_leastRest 33 = .ok (.ireturn, 1) := by decide +kernel
theorem dJ6_bitCount_0f7a4_0 : decode cJ6_bitCount_0f7a4 0 = .ok (.iload_n 0, 1) := by decide +kernel
theorem dJ6_bitCount_0f7a4_1 : decode cJ6_bitCount_0f7a4 1 = .ok (.iload_n 0, 1) := by decide +kernel
theorem dJ6_bitCount_0f7a4_2 : decode cJ6_bitCount_0f7a4 2 = .ok (.iconst 1, 1) := by decide +kernel
theorem dJ6_bitCount_0f7a4_3 : decode cJ6_bitCount_0f7a4 3 = .ok (.iushr, 1) := by decide +kernel
theorem dJ6_bitCount_0f7a4_4 : decode cJ6_bitCount_0f7a4 4 = .ok (.ldc_w 265, 3) := by decide +kernel
theorem dJ6_bitCount_0f7a4_7 : decode cJ6_bitCount_0f7a4 7 = .ok (.iand, 1) := by decide +kernel
theorem dJ6_bitCount_0f7a4_8 : decode cJ6_bitCount_0f7a4 8 = .ok (.isub, 1) := by decide +kernel
theorem dJ6_bitCount_0f7a4_9 : decode cJ6_bitCount_0f7a4 9 = .ok (.istore_n 0, 1) := by decide +kernel
theorem dJ6_bitCount_0f7a4_10 : decode cJ6_bitCount_0f7a4 10 = .ok (.iload_n 0, 1) := by decide +kernel
theorem dJ6_bitCount_0f7a4_11 : decode cJ6_bitCount_0f7a4 11 = .ok (.ldc_w 266, 3) := by decide +kernel
theorem dJ6_bitCount_0f7a4_14 : decode cJ6_bitCount_0f7a4 14 = .ok (.iand, 1) := by decide +kernel
theorem dJ6_bitCount_0f7a4_15 : decode cJ6_bitCount_0f7a4 15 = .ok (.iload_n 0, 1) := by decide +kernel
theorem dJ6_bitCount_0f7a4_16 : decode cJ6_bitCount_0f7a4 16 = .ok (.iconst 2, 1) := by decide +kernel
theorem dJ6_bitCount_0f7a4_17 : decode cJ6_bitCount_0f7a4 17 = .ok (.iushr, 1) := by decide +kernel
theorem dJ6_bitCount_0f7a4_18 : decode cJ6_bitCount_0f7a4 18 = .ok (.ldc_w 266, 3) := by decide +kernel
theorem dJ6_bitCount_0f7a4_21 : decode cJ6_bitCount_0f7a4 21 = .ok (.iand, 1) := by decide +kernel
theorem dJ6_bitCount_0f7a4_22 : decode cJ6_bitCount_0f7a4 22 = .ok (.iadd, 1) := by decide +kernel
theorem dJ6_bitCount_0f7a4_23 : decode cJ6_bitCount_0f7a4 23 = .ok (.istore_n 0, 1) := by decide +kernel
theorem dJ6_bitCount_0f7a4_24 : decode cJ6_bitCount_0f7a4 24 = .ok (.iload_n 0, 1) := by decide +kernel
theorem dJ6_bitCount_0f7a4_25 : decode cJ6_bitCount_0f7a4 25 = .ok (.iload_n 0, 1) := by decide +kernel
theorem dJ6_bitCount_0f7a4_26 : decode cJ6_bitCount_0f7a4 26 = .ok (.iconst 4, 1) := by decide +kernel
theorem dJ6_bitCount_0f7a4_27 : decode cJ6_bitCount_0f7a4 27 = .ok (.iushr, 1) := by decide +kernel
theorem dJ6_bitCount_0f7a4_28 : decode cJ6_bitCount_0f7a4 28 = .ok (.iadd, 1) := by decide +kernel
theorem dJ6_bitCount_0f7a4_29 : decode cJ6_bitCount_0f7a4 29 = .ok (.ldc_w 267, 3) := by decide +kernel
theorem dJ6_bitCount_0f7a4_32 : decode cJ6_bitCount_0f7a4 32 = .ok (.iand, 1) := by decide +kernel
theorem dJ6_bitCount_0f7a4_33 : decode cJ6_bitCount_0f7a4 33 = .ok (.istore_n 0, 1) := by decide +kernel
theorem dJ6_bitCount_0f7a4_34 : decode cJ6_bitCount_0f7a4 34 = .ok (.iload_n 0, 1) := by decide +kernel
theorem dJ6_bitCount_0f7a4_35 : decode cJ6_bitCount_0f7a4 35 = .ok (.iload_n 0, 1) := by decide +kernel
theorem dJ6_bitCount_0f7a4_36 : decode cJ6_bitCount_0f7a4 36 = .ok (.bipush 8, 2) := by decide +kernel
theorem dJ6_bitCount_0f7a4_38 : decode cJ6_bitCount_0f7a4 38 = .ok (.iushr, 1) := by decide +kernel
theorem dJ6_bitCount_0f7a4_39 : decode cJ6_bitCount_0f7a4 39 = .ok (.iadd, 1) := by decide +kernel
theorem dJ6_bitCount_0f7a4_40 : decode cJ6_bitCount_0f7a4 40 = .ok (.istore_n 0, 1) := by decide +kernel
theorem dJ6_bitCount_0f7a4_41 : decode cJ6_bitCount_0f7a4 41 = .ok (.iload_n 0, 1) := by decide +kernel
theorem dJ6_bitCount_0f7a4_42 : decode cJ6_bitCount_0f7a4 42 = .ok (.iload_n 0, 1) := by decide +kernel
theorem dJ6_bitCount_0f7a4_43 : decode cJ6_bitCount_0f7a4 43 = .ok (.bipush 16, 2) := by decide +kernel
theorem dJ6_bitCount_0f7a4_45 : decode cJ6_bitCount_0f7a4 45 = .ok (.iushr, 1) := by decide +kernel
theorem dJ6_bitCount_0f7a4_46 : decode cJ6_bitCount_0f7a4 46 = .ok (.iadd, 1) := by decide +kernel
theorem dJ6_bitCount_0f7a4_47 : decode cJ6_bitCount_0f7a4 47 = .ok (.istore_n 0, 1) := by decide +kernel
theorem dJ6_bitCount_0f7a4_48 : decode cJ6_bitCount_0f7a4 48 = .ok (.iload_n 0, 1) := by decide +kernel
theorem dJ6_bitCount_0f7a4_49 : decode cJ6_bitCount_0f7a4 49 = .ok (.bipush 63, 2) := by decide +kernel
theorem dJ6_bitCount_0f7a4_51 : decode cJ6_bitCount_0f7a4 51 = .ok (.iand, 1) := by decide +kernel
theorem dJ6_bitCount_0f7a4_52 : decode cJ6_bitCount_0f7a4 52 = .ok (.ireturn, 1) := by decide +kernel
theorem dJ9_max_7cf53_0 : decode cJ9_max_7cf53 0 = .ok (.iload_n 0, 1) := by decide +kernel
theorem dJ9_max_7cf53_1 : decode cJ9_max_7cf53 1 = .ok (.iload_n 1, 1) := by decide +kernel
theorem dJ9_max_7cf53_2 : decode cJ9_max_7cf53 2 = .ok (.if_icmp .lt 7, 3) := by decide +kernel
theorem dJ9_max_7cf53_5 : decode cJ9_max_7cf53 5 = .ok (.iload_n 0, 1) := by decide +kernel
theorem dJ9_max_7cf53_6 : decode cJ9_max_7cf53 6 = .ok (.goto 4, 3) := by decide +kernel
theorem dJ9_max_7cf53_9 : decode cJ9_max_7cf53 9 = .ok (.iload_n 1, 1) := by decide +kernel
theorem dJ9_max_7cf53_10 : decode cJ9_max_7cf53 10 = .ok (.ireturn, 1) := by decide +kernel
theorem dJ9_min_7cf53_0 : decode cJ9_min_7cf53 0 = .ok (.iload_n 0, 1) := by decide +kernel
theorem dJ9_min_7cf53_1 : decode cJ9_min_7cf53 1 = .ok (.iload_n 1, 1) := by decide +kernel
theorem dJ9_min_7cf53_2 : decode cJ9_min_7cf53 2 = .ok (.if_icmp .gt 7, 3) := by decide +kernel
theorem dJ9_min_7cf53_5 : decode cJ9_min_7cf53 5 = .ok (.iload_n 0, 1) := by decide +kernel
theorem dJ9_min_7cf53_6 : decode cJ9_min_7cf53 6 = .ok (.goto 4, 3) := by decide +kernel
theorem dJ9_min_7cf53_9 : decode cJ9_min_7cf53 9 = .ok (.iload_n 1, 1) := by decide +kernel
theorem dJ9_min_7cf53_10 : decode cJ9_min_7cf53 10 = .ok (.ireturn, 1) := by decide +kernel
set_option maxRecDepth 20000 in
theorem ggL_setNeeds_X4_setNeeds : GoodIn wsL_setNeeds wsX4_setNeeds := goodIn_ca (goodIn_ca (goodIn_r _ [7, 8, 9, 10, 11, 12, 13, 6, 14, 15, 16, 17, 18, 19, 20, 21, 22, 23, 24, 25, 26, 27, 28, 29, 30] (by decide +kernel) (by decide +kernel)) (goodIn_sub (fun _ h => List.mem_cons_of_mem _ (List.mem_append_left _ (List.mem_append_right _ h))) (by decide +kernel))) (goodIn_sub (fun _ h => List.mem_cons_of_mem _ (List.mem_append_right _ h)) (by decide +kernel))
set_option maxRecDepth 20000 in
theorem gL_setNeeds_X4_setNeeds : GoodIn wsL_setNeeds (wsV RL 7 RX4 yX4_setNeeds wsX4_setNeeds) := goodIn_app (goodIn_of _ (by decide +kernel)) ggL_setNeeds_X4_setNeeds
theorem dL_setNeeds_0 : decode cL_setNeeds 0 = .ok (.aload_n 3, 1) := by decide +kernel
theorem dL_setNeeds_1 : decode cL_setNeeds 1 = .ok (.iconst 0, 1) := by decide +kernel
theorem dL_setNeeds_2 : decode cL_setNeeds 2 = .ok (.aload_n 0, 1) := by decide +kernel
theorem dL_setNeeds_3 : decode cL_setNeeds 3 = .ok (.iload_n 1, 1) := by decide +kernel
theorem dL_setNeeds_4 : decode cL_setNeeds 4 = .ok (.iload_n 2, 1) := by decide +kernel
theorem dL_setNeeds_5 : decode cL_setNeeds 5 = .ok (.invokevirtual 7, 3) := by decide +kernel
theorem dL_setNeeds_8 : decode cL_setNeeds 8 = .ok (.i2l, 1) := by decide +kernel
theorem dL_setNeeds_9 : decode cL_setNeeds 9 = .ok (.lastore, 1) := by decide +kernel
theorem dL_setNeeds_10 : decode cL_setNeeds 10 = .ok (.goto 11, 3) := by decide +kernel
theorem dL_setNeeds_13 : decode cL_setNeeds 13 = .ok (.astore 4, 2) := by decide +kernel
theorem dL_setNeeds_15 : decode cL_setNeeds 15 = .ok (.iconst 1, 1) := by decide +kernel
theorem dL_setNeeds_16 : decode cL_setNeeds 16 = .ok (.ireturn, 1) := by decide +kernel
theorem dL_setNeeds_17 : decode cL_setNeeds 17 = .ok (.astore 4, 2) := by decide +kernel
theorem dL_setNeeds_19 : decode cL_setNeeds 19 = .ok (.iconst 2, 1) := by decide +kernel
theorem dL_setNeeds_20 : decode cL_setNeeds 20 = .ok (.ireturn, 1) := by decide +kernel
theorem dL_setNeeds_21 : decode cL_setNeeds 21 = .ok (.iconst 0, 1) := by decide +kernel
theorem dL_setNeeds_22 : decode cL_setNeeds 22 = .ok (.ireturn, 1) := by decide +kernel
set_option maxRecDepth 20000 in
theorem ggL_addModel_X4_addModel : GoodIn wsL_addModel wsX4_addModel := goodIn_ca (goodIn_ca (goodIn_ca (goodIn_r _ [8, 9, 10, 11, 12, 13, 14, 15, 16, 17, 18, 19, 20, 7, 21, 22, 23, 24, 25, 26, 27, 28, 29, 30, 31, 32, 33, 34, 35, 36, 37, 38, 39, 40, 41, 42, 43, 44, 45, 46, 47, 48, 49, 50, 51, 52, 53, 54, 55, 56, 57, 58, 59, 60, 61, 62, 63, 64, 65, 66, 67, 68, 69, 70, 71, 72, 73, 74, 75, 76, 77, 78, 79, 80, 81, 82] (by decide +kernel) (by decide +kernel)) (goodIn_sub (fun _ h => List.mem_cons_of_mem _ (List.mem_append_left _ (List.mem_append_left _ (List.mem_append_right _ h)))) (by decide +kernel))) (goodIn_sub (fun _ h => List.mem_cons_of_mem _ (List.mem_append_left _ (List.mem_append_right _ h))) (by decide +kernel))) (goodIn_sub (fun _ h => List.mem_cons_of_mem _ (List.mem_append_right _ h)) (by decide +kernel))
set_option maxRecDepth 20000 in
theorem gL_addModel_X4_addModel : GoodIn wsL_addModel (wsV RL 17 RX4 yX4_addModel wsX4_addModel) := goodIn_app (goodIn_of _ (by decide +kernel)) ggL_addModel_X4_addModel
theorem dL_addModel_0 : decode cL_addModel 0 = .ok (.aload_n 3, 1) := by decide +kernel
theorem dL_addModel_1 : decode cL_addModel 1 = .ok (.iconst 0, 1) := by decide +kernel
theorem dL_addModel_2 : decode cL_addModel 2 = .ok (.aload_n 0, 1) := by decide +kernel
theorem dL_addModel_3 : decode cL_addModel 3 = .ok (.iload_n 1, 1) := by decide +kernel
theorem dL_addModel_4 : decode cL_addModel 4 = .ok (.iload_n 2, 1) := by decide +kernel
theorem dL_addModel_5 : decode cL_addModel 5 = .ok (.invokevirtual 17, 3) := by decide +kernel
theorem dL_addModel_8 : decode cL_addModel 8 = .ok (.i2l, 1) := by decide +kernel
theorem dL_addModel_9 : decode cL_addModel 9 = .ok (.lastore, 1) := by decide +kernel
theorem dL_addModel_10 : decode cL_addModel 10 = .ok (.goto 15, 3) := by decide +kernel
theorem dL_addModel_13 : decode cL_addModel 13 = .ok (.astore 4, 2) := by decide +kernel
theorem dL_addModel_15 : decode cL_addModel 15 = .ok (.iconst 1, 1) := by decide +kernel
theorem dL_addModel_16 : decode cL_addModel 16 = .ok (.ireturn, 1) := by decide +kernel
theorem dL_addModel_17 : decode cL_addModel 17 = .ok (.astore 4, 2) := by decide +kernel
theorem dL_addModel_19 : decode cL_addModel 19 = .ok (.iconst 2, 1) := by decide +kernel
theorem dL_addModel_20 : decode cL_addModel 20 = .ok (.ireturn, 1) := by decide +kernel
theorem dL_addModel_21 : decode cL_addModel 21 = .ok (.astore 4, 2) := by decide +kernel
theorem dL_addModel_23 : decode cL_addModel 23 = .ok (.iconst 3, 1) := by decide +kernel
theorem dL_addModel_24 : decode cL_addModel 24 = .ok (.ireturn, 1) := by decide +kernel
theorem dL_addModel_25 : decode cL_addModel 25 = .ok (.iconst 0, 1) := by decide +kernel
theorem dL_addModel_26 : decode cL_addModel 26 = .ok (.ireturn, 1) := by decide +kernel
set_option maxRecDepth 20000 in
theorem ggL_fold_X4_fold : GoodIn wsL_fold wsX4_fold := goodIn_ca (goodIn_ca (goodIn_ca (goodIn_r _ [8, 9, 10, 11, 12, 13, 14, 15, 16, 17, 18, 19, 7, 20, 21, 22, 23, 24, 25, 26, 27, 28, 29, 30, 31, 32, 33, 34, 35, 36, 37, 38, 39, 40, 41, 42, 43, 44, 45, 46, 47, 48, 49, 50, 51, 52, 53, 54, 55, 56, 57, 58, 59, 60, 61, 62, 63, 64, 65, 66, 67, 68, 69, 70, 71, 72, 73, 74, 75, 76, 77, 78, 79, 80, 81, 82, 83, 84, 85, 86, 87, 88, 89, 90, 91, 92, 93, 94, 95, 96, 97, 98, 99, 100, 101, 102, 103, 104, 105, 106, 107, 108, 109, 110, 111, 112, 113, 114, 115, 116] (by decide +kernel) (by decide +kernel)) (goodIn_sub (fun _ h => List.mem_cons_of_mem _ (List.mem_append_left _ (List.mem_append_left _ (List.mem_append_right _ h)))) (by decide +kernel))) (goodIn_sub (fun _ h => List.mem_cons_of_mem _ (List.mem_append_left _ (List.mem_append_right _ h))) (by decide +kernel))) (goodIn_sub (fun _ h => List.mem_cons_of_mem _ (List.mem_append_right _ h)) (by decide +kernel))
set_option maxRecDepth 20000 in
theorem gL_fold_X4_fold : GoodIn wsL_fold (wsV RL 22 RX4 yX4_fold wsX4_fold) := goodIn_app (goodIn_of _ (by decide +kernel)) ggL_fold_X4_fold
theorem dL_fold_0 : decode cL_fold 0 = .ok (.aload 5, 2) := by decide +kernel
theorem dL_fold_2 : decode cL_fold 2 = .ok (.iconst 0, 1) := by decide +kernel
theorem dL_fold_3 : decode cL_fold 3 = .ok (.aload_n 0, 1) := by decide +kernel
theorem dL_fold_4 : decode cL_fold 4 = .ok (.iload_n 1, 1) := by decide +kernel
theorem dL_fold_5 : decode cL_fold 5 = .ok (.iload_n 2, 1) := by decide +kernel
theorem dL_fold_6 : decode cL_fold 6 = .ok (.iload_n 3, 1) := by decide +kernel
theorem dL_fold_7 : decode cL_fold 7 = .ok (.iload 4, 2) := by decide +kernel
theorem dL_fold_9 : decode cL_fold 9 = .ok (.invokevirtual 22, 3) := by decide +kernel
theorem dL_fold_12 : decode cL_fold 12 = .ok (.i2l, 1) := by decide +kernel
theorem dL_fold_13 : decode cL_fold 13 = .ok (.lastore, 1) := by decide +kernel
theorem dL_fold_14 : decode cL_fold 14 = .ok (.goto 15, 3) := by decide +kernel
theorem dL_fold_17 : decode cL_fold 17 = .ok (.astore 6, 2) := by decide +kernel
theorem dL_fold_19 : decode cL_fold 19 = .ok (.iconst 1, 1) := by decide +kernel
theorem dL_fold_20 : decode cL_fold 20 = .ok (.ireturn, 1) := by decide +kernel
theorem dL_fold_21 : decode cL_fold 21 = .ok (.astore 6, 2) := by decide +kernel
theorem dL_fold_23 : decode cL_fold 23 = .ok (.iconst 2, 1) := by decide +kernel
theorem dL_fold_24 : decode cL_fold 24 = .ok (.ireturn, 1) := by decide +kernel
theorem dL_fold_25 : decode cL_fold 25 = .ok (.astore 6, 2) := by decide +kernel
theorem dL_fold_27 : decode cL_fold 27 = .ok (.iconst 3, 1) := by decide +kernel
theorem dL_fold_28 : decode cL_fold 28 = .ok (.ireturn, 1) := by decide +kernel
theorem dL_fold_29 : decode cL_fold 29 = .ok (.iconst 0, 1) := by decide +kernel
theorem dL_fold_30 : decode cL_fold 30 = .ok (.ireturn, 1) := by decide +kernel
set_option maxRecDepth 20000 in
theorem ggL_unfold_X4_unfold : GoodIn wsL_unfold wsX4_unfold := goodIn_ca (goodIn_ca (goodIn_r _ [7, 8, 9, 10, 11, 12, 13, 6, 14, 15, 16, 17, 18, 19, 20, 21, 22, 23, 24, 25, 26, 27, 28, 29, 30, 31, 32, 33, 34, 35, 36, 37, 38, 39, 40, 41, 42, 43, 44, 45, 46, 47, 48, 49, 50, 51, 52, 53, 54, 55, 56, 57, 58, 59, 60, 61, 62, 63, 64, 65, 66, 67, 68, 69, 70, 71, 72, 73, 74, 75, 76, 77, 78, 79, 80, 81, 82, 83, 84, 85, 86, 87, 88, 89, 90, 91, 92, 93, 94, 95, 96, 97, 98, 99, 100, 101, 102, 103, 104] (by decide +kernel) (by decide +kernel)) (goodIn_sub (fun _ h => List.mem_cons_of_mem _ (List.mem_append_left _ (List.mem_append_right _ h))) (by decide +kernel))) (goodIn_sub (fun _ h => List.mem_cons_of_mem _ (List.mem_append_right _ h)) (by decide +kernel))
set_option maxRecDepth 20000 in
theorem gL_unfold_X4_unfold : GoodIn wsL_unfold (wsV RL 26 RX4 yX4_unfold wsX4_unfold) := goodIn_app (goodIn_of _ (by decide +kernel)) ggL_unfold_X4_unfold
theorem dL_unfold_0 : decode cL_unfold 0 = .ok (.aload_n 2, 1) := by decide +kernel
theorem dL_unfold_1 : decode cL_unfold 1 = .ok (.iconst 0, 1) := by decide +kernel
theorem dL_unfold_2 : decode cL_unfold 2 = .ok (.aload_n 0, 1) := by decide +kernel
theorem dL_unfold_3 : decode cL_unfold 3 = .ok (.iload_n 1, 1) := by decide +kernel
theorem dL_unfold_4 : decode cL_unfold 4 = .ok (.invokevirtual 26, 3) := by decide +kernel
theorem dL_unfold_7 : decode cL_unfold 7 = .ok (.i2l, 1) := by decide +kernel
theorem dL_unfold_8 : decode cL_unfold 8 = .ok (.lastore, 1) := by decide +kernel
theorem dL_unfold_9 : decode cL_unfold 9 = .ok (.goto 9, 3) := by decide +kernel
theorem dL_unfold_12 : decode cL_unfold 12 = .ok (.astore_n 3, 1) := by decide +kernel
theorem dL_unfold_13 : decode cL_unfold 13 = .ok (.iconst 1, 1) := by decide +kernel
theorem dL_unfold_14 : decode cL_unfold 14 = .ok (.ireturn, 1) := by decide +kernel
theorem dL_unfold_15 : decode cL_unfold 15 = .ok (.astore_n 3, 1) := by decide +kernel
theorem dL_unfold_16 : decode cL_unfold 16 = .ok (.iconst 2, 1) := by decide +kernel
theorem dL_unfold_17 : decode cL_unfold 17 = .ok (.ireturn, 1) := by decide +kernel
theorem dL_unfold_18 : decode cL_unfold 18 = .ok (.iconst 0, 1) := by decide +kernel
theorem dL_unfold_19 : decode cL_unfold 19 = .ok (.ireturn, 1) := by decide +kernel
set_option maxRecDepth 20000 in
theorem ggL_use_X4_use : GoodIn wsL_use wsX4_use := goodIn_ca (goodIn_ca (goodIn_r _ [7, 8, 9, 10, 11, 12, 13, 6, 14, 15, 16, 17, 18, 19, 20, 21, 22, 23, 24, 25, 26, 27, 28, 29, 30, 31, 32, 33, 34, 35] (by decide +kernel) (by decide +kernel)) (goodIn_sub (fun _ h => List.mem_cons_of_mem _ (List.mem_append_left _ (List.mem_append_right _ h))) (by decide +kernel))) (goodIn_sub (fun _ h => List.mem_cons_of_mem _ (List.mem_append_right _ h)) (by decide +kernel))
set_option maxRecDepth 20000 in
theorem gL_use_X4_use : GoodIn wsL_use (wsV RL 30 RX4 yX4_use wsX4_use) := goodIn_app (goodIn_of _ (by decide +kernel)) ggL_use_X4_use
theorem dL_use_0 : decode cL_use 0 = .ok (.aload_n 3, 1) := by decide +kernel
theorem dL_use_1 : decode cL_use 1 = .ok (.iconst 0, 1) := by decide +kernel
theorem dL_use_2 : decode cL_use 2 = .ok (.aload_n 0, 1) := by decide +kernel
theorem dL_use_3 : decode cL_use 3 = .ok (.iload_n 1, 1) := by decide +kernel
theorem dL_use_4 : decode cL_use 4 = .ok (.iload_n 2, 1) := by decide +kernel
theorem dL_use_5 : decode cL_use 5 = .ok (.invokevirtual 30, 3) := by decide +kernel
theorem dL_use_8 : decode cL_use 8 = .ok (.ifCond .eq 7, 3) := by decide +kernel
theorem dL_use_11 : decode cL_use 11 = .ok (.lconst 1, 1) := by decide +kernel
theorem dL_use_12 : decode cL_use 12 = .ok (.goto 4, 3) := by decide +kernel
theorem dL_use_15 : decode cL_use 15 = .ok (.lconst 0, 1) := by decide +kernel
theorem dL_use_16 : decode cL_use 16 = .ok (.lastore, 1) := by decide +kernel
theorem dL_use_17 : decode cL_use 17 = .ok (.goto 11, 3) := by decide +kernel
theorem dL_use_20 : decode cL_use 20 = .ok (.astore 4, 2) := by decide +kernel
theorem dL_use_22 : decode cL_use 22 = .ok (.iconst 1, 1) := by decide +kernel
theorem dL_use_23 : decode cL_use 23 = .ok (.ireturn, 1) := by decide +kernel
theorem dL_use_24 : decode cL_use 24 = .ok (.astore 4, 2) := by decide +kernel
theorem dL_use_26 : decode cL_use 26 = .ok (.iconst 2, 1) := by decide +kernel
theorem dL_use_27 : decode cL_use 27 = .ok (.ireturn, 1) := by decide +kernel
theorem dL_use_28 : decode cL_use 28 = .ok (.iconst 0, 1) := by decide +kernel
theorem dL_use_29 : decode cL_use 29 = .ok (.ireturn, 1) := by decide +kernel
set_option maxRecDepth 20000 in
theorem ggL_setRoll_X4_setRoll : GoodIn wsL_setRoll wsX4_setRoll := goodIn_ca (goodIn_r _ [6, 7, 8, 9, 10, 11, 12, 13, 14, 15, 16, 17, 18, 19, 20, 21, 22, 23, 24] (by decide +kernel) (by decide +kernel)) (goodIn_sub (fun _ h => List.mem_cons_of_mem _ (List.mem_append_right _ h)) (by decide +kernel))
set_option maxRecDepth 20000 in
theorem gL_setRoll_X4_setRoll : GoodIn wsL_setRoll (wsV RL 34 RX4 yX4_setRoll wsX4_setRoll) := goodIn_app (goodIn_of _ (by decide +kernel)) ggL_setRoll_X4_setRoll
theorem dL_setRoll_0 : decode cL_setRoll 0 = .ok (.aload_n 3, 1) := by decide +kernel
theorem dL_setRoll_1 : decode cL_setRoll 1 = .ok (.iconst 0, 1) := by decide +kernel
theorem dL_setRoll_2 : decode cL_setRoll 2 = .ok (.aload_n 0, 1) := by decide +kernel
theorem dL_setRoll_3 : decode cL_setRoll 3 = .ok (.iload_n 1, 1) := by decide +kernel
theorem dL_setRoll_4 : decode cL_setRoll 4 = .ok (.iload_n 2, 1) := by decide +kernel
theorem dL_setRoll_5 : decode cL_setRoll 5 = .ok (.invokevirtual 34, 3) := by decide +kernel
theorem dL_setRoll_8 : decode cL_setRoll 8 = .ok (.i2l, 1) := by decide +kernel
theorem dL_setRoll_9 : decode cL_setRoll 9 = .ok (.lastore, 1) := by decide +kernel
theorem dL_setRoll_10 : decode cL_setRoll 10 = .ok (.goto 7, 3) := by decide +kernel
theorem dL_setRoll_13 : decode cL_setRoll 13 = .ok (.astore 4, 2) := by decide +kernel
theorem dL_setRoll_15 : decode cL_setRoll 15 = .ok (.iconst 1, 1) := by decide +kernel
theorem dL_setRoll_16 : decode cL_setRoll 16 = .ok (.ireturn, 1) := by decide +kernel
theorem dL_setRoll_17 : decode cL_setRoll 17 = .ok (.iconst 0, 1) := by decide +kernel
theorem dL_setRoll_18 : decode cL_setRoll 18 = .ok (.ireturn, 1) := by decide +kernel
set_option maxRecDepth 20000 in
theorem ggL_teach_X4_teach : GoodIn wsL_teach wsX4_teach := goodIn_ca (goodIn_ca (goodIn_r _ [7, 8, 9, 10, 11, 12, 13, 14, 6, 15, 16, 17, 18, 19, 20, 21, 22, 23, 24, 25, 26, 27, 28, 29, 30, 31, 32, 33, 34, 35, 36, 37, 38, 39] (by decide +kernel) (by decide +kernel)) (goodIn_sub (fun _ h => List.mem_cons_of_mem _ (List.mem_append_left _ (List.mem_append_right _ h))) (by decide +kernel))) (goodIn_sub (fun _ h => List.mem_cons_of_mem _ (List.mem_append_right _ h)) (by decide +kernel))
set_option maxRecDepth 20000 in
theorem gL_teach_X4_teach : GoodIn wsL_teach (wsV RL 37 RX4 yX4_teach wsX4_teach) := goodIn_app (goodIn_of _ (by decide +kernel)) ggL_teach_X4_teach
theorem dL_teach_0 : decode cL_teach 0 = .ok (.aload_n 3, 1) := by decide +kernel
theorem dL_teach_1 : decode cL_teach 1 = .ok (.iconst 0, 1) := by decide +kernel
theorem dL_teach_2 : decode cL_teach 2 = .ok (.aload_n 0, 1) := by decide +kernel
theorem dL_teach_3 : decode cL_teach 3 = .ok (.iload_n 1, 1) := by decide +kernel
theorem dL_teach_4 : decode cL_teach 4 = .ok (.iload_n 2, 1) := by decide +kernel
theorem dL_teach_5 : decode cL_teach 5 = .ok (.invokevirtual 37, 3) := by decide +kernel
theorem dL_teach_8 : decode cL_teach 8 = .ok (.i2l, 1) := by decide +kernel
theorem dL_teach_9 : decode cL_teach 9 = .ok (.lastore, 1) := by decide +kernel
theorem dL_teach_10 : decode cL_teach 10 = .ok (.goto 11, 3) := by decide +kernel
theorem dL_teach_13 : decode cL_teach 13 = .ok (.astore 4, 2) := by decide +kernel
theorem dL_teach_15 : decode cL_teach 15 = .ok (.iconst 1, 1) := by decide +kernel
theorem dL_teach_16 : decode cL_teach 16 = .ok (.ireturn, 1) := by decide +kernel
theorem dL_teach_17 : decode cL_teach 17 = .ok (.astore 4, 2) := by decide +kernel
theorem dL_teach_19 : decode cL_teach 19 = .ok (.iconst 2, 1) := by decide +kernel
theorem dL_teach_20 : decode cL_teach 20 = .ok (.ireturn, 1) := by decide +kernel
theorem dL_teach_21 : decode cL_teach 21 = .ok (.iconst 0, 1) := by decide +kernel
theorem dL_teach_22 : decode cL_teach 22 = .ok (.ireturn, 1) := by decide +kernel
set_option maxRecDepth 20000 in
theorem ggL_steps_X4_steps : GoodIn wsL_steps wsX4_steps := goodIn_ca (goodIn_r _ [6, 7, 8, 9, 10, 5, 11, 12, 13, 14, 15, 16, 17, 18, 19, 20, 21, 22, 23, 24, 25, 26, 27, 28, 29, 30, 31, 32, 33, 34] (by decide +kernel) (by decide +kernel)) (goodIn_sub (fun _ h => List.mem_cons_of_mem _ (List.mem_append_right _ h)) (by decide +kernel))
set_option maxRecDepth 20000 in
theorem gL_steps_X4_steps : GoodIn wsL_steps (wsV RL 40 RX4 yX4_steps wsX4_steps) := goodIn_app (goodIn_of _ (by decide +kernel)) ggL_steps_X4_steps
theorem dL_steps_0 : decode cL_steps 0 = .ok (.aload_n 2, 1) := by decide +kernel
theorem dL_steps_1 : decode cL_steps 1 = .ok (.iconst 0, 1) := by decide +kernel
theorem dL_steps_2 : decode cL_steps 2 = .ok (.aload_n 0, 1) := by decide +kernel
theorem dL_steps_3 : decode cL_steps 3 = .ok (.iload_n 1, 1) := by decide +kernel
theorem dL_steps_4 : decode cL_steps 4 = .ok (.invokevirtual 40, 3) := by decide +kernel
theorem dL_steps_7 : decode cL_steps 7 = .ok (.i2l, 1) := by decide +kernel
theorem dL_steps_8 : decode cL_steps 8 = .ok (.lastore, 1) := by decide +kernel
theorem dL_steps_9 : decode cL_steps 9 = .ok (.goto 6, 3) := by decide +kernel
theorem dL_steps_12 : decode cL_steps 12 = .ok (.astore_n 3, 1) := by decide +kernel
theorem dL_steps_13 : decode cL_steps 13 = .ok (.iconst 1, 1) := by decide +kernel
theorem dL_steps_14 : decode cL_steps 14 = .ok (.ireturn, 1) := by decide +kernel
theorem dL_steps_15 : decode cL_steps 15 = .ok (.iconst 0, 1) := by decide +kernel
theorem dL_steps_16 : decode cL_steps 16 = .ok (.ireturn, 1) := by decide +kernel
set_option maxRecDepth 20000 in
theorem ggL_places_X4_places : GoodIn wsL_places wsX4_places := goodIn_ca (goodIn_r _ [6, 7, 8, 9, 10, 11, 5, 12, 13, 14, 15, 16, 17, 18, 19, 20, 21, 22, 23, 24, 25, 26, 27, 28, 29, 30, 31, 32, 33, 34, 35, 36, 37, 38, 39, 40, 41] (by decide +kernel) (by decide +kernel)) (goodIn_sub (fun _ h => List.mem_cons_of_mem _ (List.mem_append_right _ h)) (by decide +kernel))
set_option maxRecDepth 20000 in
theorem gL_places_X4_places : GoodIn wsL_places (wsV RL 43 RX4 yX4_places wsX4_places) := goodIn_app (goodIn_of _ (by decide +kernel)) ggL_places_X4_places
theorem dL_places_0 : decode cL_places 0 = .ok (.aload_n 2, 1) := by decide +kernel
theorem dL_places_1 : decode cL_places 1 = .ok (.iconst 0, 1) := by decide +kernel
theorem dL_places_2 : decode cL_places 2 = .ok (.aload_n 0, 1) := by decide +kernel
theorem dL_places_3 : decode cL_places 3 = .ok (.iload_n 1, 1) := by decide +kernel
theorem dL_places_4 : decode cL_places 4 = .ok (.invokevirtual 43, 3) := by decide +kernel
theorem dL_places_7 : decode cL_places 7 = .ok (.i2l, 1) := by decide +kernel
theorem dL_places_8 : decode cL_places 8 = .ok (.lastore, 1) := by decide +kernel
theorem dL_places_9 : decode cL_places 9 = .ok (.goto 6, 3) := by decide +kernel
theorem dL_places_12 : decode cL_places 12 = .ok (.astore_n 3, 1) := by decide +kernel
theorem dL_places_13 : decode cL_places 13 = .ok (.iconst 1, 1) := by decide +kernel
theorem dL_places_14 : decode cL_places 14 = .ok (.ireturn, 1) := by decide +kernel
theorem dL_places_15 : decode cL_places 15 = .ok (.iconst 0, 1) := by decide +kernel
theorem dL_places_16 : decode cL_places 16 = .ok (.ireturn, 1) := by decide +kernel
set_option maxRecDepth 20000 in
theorem ggL_layers_X4_layers : GoodIn wsL_layers wsX4_layers := goodIn_ca (goodIn_r _ [6, 7, 8, 9, 10, 5, 11, 12, 13, 14, 15, 16, 17, 18, 19, 20, 21, 22, 23, 24, 25, 26, 27, 28, 29, 30, 31, 32, 33, 34, 35, 36, 37, 38, 39, 40, 41, 42, 43, 44, 45, 46, 47, 48, 49, 50, 51, 52, 53, 54, 55, 56, 57, 58, 59] (by decide +kernel) (by decide +kernel)) (goodIn_sub (fun _ h => List.mem_cons_of_mem _ (List.mem_append_right _ h)) (by decide +kernel))
set_option maxRecDepth 20000 in
theorem gL_layers_X4_layers : GoodIn wsL_layers (wsV RL 46 RX4 yX4_layers wsX4_layers) := goodIn_app (goodIn_of _ (by decide +kernel)) ggL_layers_X4_layers
theorem dL_layers_0 : decode cL_layers 0 = .ok (.aload_n 2, 1) := by decide +kernel
theorem dL_layers_1 : decode cL_layers 1 = .ok (.iconst 0, 1) := by decide +kernel
theorem dL_layers_2 : decode cL_layers 2 = .ok (.aload_n 0, 1) := by decide +kernel
theorem dL_layers_3 : decode cL_layers 3 = .ok (.iload_n 1, 1) := by decide +kernel
theorem dL_layers_4 : decode cL_layers 4 = .ok (.invokevirtual 46, 3) := by decide +kernel
theorem dL_layers_7 : decode cL_layers 7 = .ok (.i2l, 1) := by decide +kernel
theorem dL_layers_8 : decode cL_layers 8 = .ok (.lastore, 1) := by decide +kernel
theorem dL_layers_9 : decode cL_layers 9 = .ok (.goto 6, 3) := by decide +kernel
theorem dL_layers_12 : decode cL_layers 12 = .ok (.astore_n 3, 1) := by decide +kernel
theorem dL_layers_13 : decode cL_layers 13 = .ok (.iconst 1, 1) := by decide +kernel
theorem dL_layers_14 : decode cL_layers 14 = .ok (.ireturn, 1) := by decide +kernel
theorem dL_layers_15 : decode cL_layers 15 = .ok (.iconst 0, 1) := by decide +kernel
theorem dL_layers_16 : decode cL_layers 16 = .ok (.ireturn, 1) := by decide +kernel
set_option maxRecDepth 20000 in
theorem ggL_cellAt_X4_cellAt : GoodIn wsL_cellAt wsX4_cellAt := goodIn_ca (goodIn_r _ [6, 7, 8, 9, 10, 11, 12, 13, 5, 14, 15, 16, 17, 18, 19, 20, 21, 22, 23, 24, 25, 26, 27, 28, 29, 30, 31, 32, 33, 34, 35, 36, 37, 38, 39, 40, 41, 42, 43, 44, 45, 46, 47, 48, 49, 50, 51, 52, 53, 54, 55, 56, 57, 58] (by decide +kernel) (by decide +kernel)) (goodIn_sub (fun _ h => List.mem_cons_of_mem _ (List.mem_append_right _ h)) (by decide +kernel))
set_option maxRecDepth 20000 in
theorem gL_cellAt_X4_cellAt : GoodIn wsL_cellAt (wsV RL 49 RX4 yX4_cellAt wsX4_cellAt) := goodIn_app (goodIn_of _ (by decide +kernel)) ggL_cellAt_X4_cellAt
theorem dL_cellAt_0 : decode cL_cellAt 0 = .ok (.aload 4, 2) := by decide +kernel
theorem dL_cellAt_2 : decode cL_cellAt 2 = .ok (.iconst 0, 1) := by decide +kernel
theorem dL_cellAt_3 : decode cL_cellAt 3 = .ok (.aload_n 0, 1) := by decide +kernel
theorem dL_cellAt_4 : decode cL_cellAt 4 = .ok (.iload_n 1, 1) := by decide +kernel
theorem dL_cellAt_5 : decode cL_cellAt 5 = .ok (.iload_n 2, 1) := by decide +kernel
theorem dL_cellAt_6 : decode cL_cellAt 6 = .ok (.iload_n 3, 1) := by decide +kernel
theorem dL_cellAt_7 : decode cL_cellAt 7 = .ok (.invokevirtual 49, 3) := by decide +kernel
theorem dL_cellAt_10 : decode cL_cellAt 10 = .ok (.i2l, 1) := by decide +kernel
theorem dL_cellAt_11 : decode cL_cellAt 11 = .ok (.lastore, 1) := by decide +kernel
theorem dL_cellAt_12 : decode cL_cellAt 12 = .ok (.goto 7, 3) := by decide +kernel
theorem dL_cellAt_15 : decode cL_cellAt 15 = .ok (.astore 5, 2) := by decide +kernel
theorem dL_cellAt_17 : decode cL_cellAt 17 = .ok (.iconst 1, 1) := by decide +kernel
theorem dL_cellAt_18 : decode cL_cellAt 18 = .ok (.ireturn, 1) := by decide +kernel
theorem dL_cellAt_19 : decode cL_cellAt 19 = .ok (.iconst 0, 1) := by decide +kernel
theorem dL_cellAt_20 : decode cL_cellAt 20 = .ok (.ireturn, 1) := by decide +kernel
set_option maxRecDepth 20000 in
theorem ggL_placeOf_X4_placeOf : GoodIn wsL_placeOf wsX4_placeOf := goodIn_ca (goodIn_r _ [6, 7, 8, 9, 10, 11, 5, 12, 13, 14, 15, 16, 17, 18, 19, 20, 21, 22, 23, 24, 25, 26, 27, 28, 29, 30, 31, 32, 33, 34, 35, 36, 37, 38, 39, 40, 41, 42, 43, 44, 45, 46, 47, 48, 49, 50, 51, 52, 53, 54, 55, 56, 57, 58, 59, 60, 61, 62, 63, 64, 65, 66] (by decide +kernel) (by decide +kernel)) (goodIn_sub (fun _ h => List.mem_cons_of_mem _ (List.mem_append_right _ h)) (by decide +kernel))
set_option maxRecDepth 20000 in
theorem gL_placeOf_X4_placeOf : GoodIn wsL_placeOf (wsV RL 53 RX4 yX4_placeOf wsX4_placeOf) := goodIn_app (goodIn_of _ (by decide +kernel)) ggL_placeOf_X4_placeOf
theorem dL_placeOf_0 : decode cL_placeOf 0 = .ok (.aload_n 3, 1) := by decide +kernel
theorem dL_placeOf_1 : decode cL_placeOf 1 = .ok (.iconst 0, 1) := by decide +kernel
theorem dL_placeOf_2 : decode cL_placeOf 2 = .ok (.aload_n 0, 1) := by decide +kernel
theorem dL_placeOf_3 : decode cL_placeOf 3 = .ok (.iload_n 1, 1) := by decide +kernel
theorem dL_placeOf_4 : decode cL_placeOf 4 = .ok (.iload_n 2, 1) := by decide +kernel
theorem dL_placeOf_5 : decode cL_placeOf 5 = .ok (.invokevirtual 53, 3) := by decide +kernel
theorem dL_placeOf_8 : decode cL_placeOf 8 = .ok (.i2l, 1) := by decide +kernel
theorem dL_placeOf_9 : decode cL_placeOf 9 = .ok (.lastore, 1) := by decide +kernel
theorem dL_placeOf_10 : decode cL_placeOf 10 = .ok (.goto 7, 3) := by decide +kernel
theorem dL_placeOf_13 : decode cL_placeOf 13 = .ok (.astore 4, 2) := by decide +kernel
theorem dL_placeOf_15 : decode cL_placeOf 15 = .ok (.iconst 1, 1) := by decide +kernel
theorem dL_placeOf_16 : decode cL_placeOf 16 = .ok (.ireturn, 1) := by decide +kernel
theorem dL_placeOf_17 : decode cL_placeOf 17 = .ok (.iconst 0, 1) := by decide +kernel
theorem dL_placeOf_18 : decode cL_placeOf 18 = .ok (.ireturn, 1) := by decide +kernel
set_option maxRecDepth 20000 in
theorem ggL_isTurned_X4_isTurned : GoodIn wsL_isTurned wsX4_isTurned := goodIn_ca (goodIn_r _ [6, 7, 8, 9, 10, 11, 5, 12, 13, 14, 15, 16, 17, 18, 19, 20, 21, 22, 23, 24, 25, 26, 27, 28, 29, 30, 31, 32, 33, 34, 35, 36, 37, 38, 39, 40, 41, 42, 43, 44, 45, 46, 47, 48, 49, 50, 51, 52, 53, 54, 55, 56, 57, 58, 59, 60, 61, 62, 63, 64, 65, 66] (by decide +kernel) (by decide +kernel)) (goodIn_sub (fun _ h => List.mem_cons_of_mem _ (List.mem_append_right _ h)) (by decide +kernel))
set_option maxRecDepth 20000 in
theorem gL_isTurned_X4_isTurned : GoodIn wsL_isTurned (wsV RL 56 RX4 yX4_isTurned wsX4_isTurned) := goodIn_app (goodIn_of _ (by decide +kernel)) ggL_isTurned_X4_isTurned
theorem dL_isTurned_0 : decode cL_isTurned 0 = .ok (.aload_n 3, 1) := by decide +kernel
theorem dL_isTurned_1 : decode cL_isTurned 1 = .ok (.iconst 0, 1) := by decide +kernel
theorem dL_isTurned_2 : decode cL_isTurned 2 = .ok (.aload_n 0, 1) := by decide +kernel
theorem dL_isTurned_3 : decode cL_isTurned 3 = .ok (.iload_n 1, 1) := by decide +kernel
theorem dL_isTurned_4 : decode cL_isTurned 4 = .ok (.iload_n 2, 1) := by decide +kernel
theorem dL_isTurned_5 : decode cL_isTurned 5 = .ok (.invokevirtual 56, 3) := by decide +kernel
theorem dL_isTurned_8 : decode cL_isTurned 8 = .ok (.ifCond .eq 7, 3) := by decide +kernel
theorem dL_isTurned_11 : decode cL_isTurned 11 = .ok (.lconst 1, 1) := by decide +kernel
theorem dL_isTurned_12 : decode cL_isTurned 12 = .ok (.goto 4, 3) := by decide +kernel
theorem dL_isTurned_15 : decode cL_isTurned 15 = .ok (.lconst 0, 1) := by decide +kernel
theorem dL_isTurned_16 : decode cL_isTurned 16 = .ok (.lastore, 1) := by decide +kernel
theorem dL_isTurned_17 : decode cL_isTurned 17 = .ok (.goto 7, 3) := by decide +kernel
theorem dL_isTurned_20 : decode cL_isTurned 20 = .ok (.astore 4, 2) := by decide +kernel
theorem dL_isTurned_22 : decode cL_isTurned 22 = .ok (.iconst 1, 1) := by decide +kernel
theorem dL_isTurned_23 : decode cL_isTurned 23 = .ok (.ireturn, 1) := by decide +kernel
theorem dL_isTurned_24 : decode cL_isTurned 24 = .ok (.iconst 0, 1) := by decide +kernel
theorem dL_isTurned_25 : decode cL_isTurned 25 = .ok (.ireturn, 1) := by decide +kernel
set_option maxRecDepth 20000 in
theorem ggL_layersByFollowing_X4_layersByFollowing : GoodIn wsL_layersByFollowing wsX4_layersByFollowing := goodIn_ca (goodIn_r _ [6, 7, 8, 9, 10, 11, 12, 13, 14, 15, 16, 17, 5, 18, 19, 20, 21, 22, 23, 24, 25, 26, 27, 28, 29, 30, 31, 32, 33, 34, 35, 36, 37, 38, 39, 40, 41, 42, 43, 44, 45, 46, 47, 48, 49, 50, 51, 52, 53, 54, 55, 56, 57, 58, 59, 60, 61, 62, 63, 64] (by decide +kernel) (by decide +kernel)) (goodIn_sub (fun _ h => List.mem_cons_of_mem _ (List.mem_append_right _ h)) (by decide +kernel))
set_option maxRecDepth 20000 in
theorem gL_layersByFollowing_X4_layersByFollowing : GoodIn wsL_layersByFollowing (wsV RL 59 RX4 yX4_layersByFollowing wsX4_layersByFollowing) := goodIn_app (goodIn_of _ (by decide +kernel)) ggL_layersByFollowing_X4_layersByFollowing
theorem dL_layersByFollowing_0 : decode cL_layersByFollowing 0 = .ok (.aload_n 2, 1) := by decide +kernel
theorem dL_layersByFollowing_1 : decode cL_layersByFollowing 1 = .ok (.iconst 0, 1) := by decide +kernel
theorem dL_layersByFollowing_2 : decode cL_layersByFollowing 2 = .ok (.aload_n 0, 1) := by decide +kernel
theorem dL_layersByFollowing_3 : decode cL_layersByFollowing 3 = .ok (.iload_n 1, 1) := by decide +kernel
theorem dL_layersByFollowing_4 : decode cL_layersByFollowing 4 = .ok (.invokevirtual 59, 3) := by decide +kernel
theorem dL_layersByFollowing_7 : decode cL_layersByFollowing 7 = .ok (.i2l, 1) := by decide +kernel
theorem dL_layersByFollowing_8 : decode cL_layersByFollowing 8 = .ok (.lastore, 1) := by decide +kernel
theorem dL_layersByFollowing_9 : decode cL_layersByFollowing 9 = .ok (.goto 6, 3) := by decide +kernel
theorem dL_layersByFollowing_12 : decode cL_layersByFollowing 12 = .ok (.astore_n 3, 1) := by decide +kernel
theorem dL_layersByFollowing_13 : decode cL_layersByFollowing 13 = .ok (.iconst 1, 1) := by decide +kernel
theorem dL_layersByFollowing_14 : decode cL_layersByFollowing 14 = .ok (.ireturn, 1) := by decide +kernel
theorem dL_layersByFollowing_15 : decode cL_layersByFollowing 15 = .ok (.iconst 0, 1) := by decide +kernel
theorem dL_layersByFollowing_16 : decode cL_layersByFollowing 16 = .ok (.ireturn, 1) := by decide +kernel
set_option maxRecDepth 20000 in
theorem ggL_bears_X4_bears : GoodIn wsL_bears wsX4_bears := goodIn_ca (goodIn_ca (goodIn_r _ [7, 8, 9, 10, 11, 12, 13, 14, 15, 16, 17, 6, 18, 19, 20, 21, 22, 23, 24, 25, 26, 27, 28, 29, 30, 31, 32, 33, 34, 35, 36, 37, 38, 39, 40, 41, 42, 43, 44, 45, 46, 47, 48, 49, 50, 51, 52, 53, 54, 55, 56, 57, 58, 59, 60, 61, 62, 63] (by decide +kernel) (by decide +kernel)) (goodIn_sub (fun _ h => List.mem_cons_of_mem _ (List.mem_append_left _ (List.mem_append_right _ h))) (by decide +kernel))) (goodIn_sub (fun _ h => List.mem_cons_of_mem _ (List.mem_append_right _ h)) (by decide +kernel))
set_option maxRecDepth 20000 in
theorem gL_bears_X4_bears : GoodIn wsL_bears (wsV RL 62 RX4 yX4_bears wsX4_bears) := goodIn_app (goodIn_of _ (by decide +kernel)) ggL_bears_X4_bears
theorem dL_bears_0 : decode cL_bears 0 = .ok (.aload_n 3, 1) := by decide +kernel
theorem dL_bears_1 : decode cL_bears 1 = .ok (.iconst 0, 1) := by decide +kernel
theorem dL_bears_2 : decode cL_bears 2 = .ok (.aload_n 0, 1) := by decide +kernel
theorem dL_bears_3 : decode cL_bears 3 = .ok (.iload_n 1, 1) := by decide +kernel
theorem dL_bears_4 : decode cL_bears 4 = .ok (.iload_n 2, 1) := by decide +kernel
theorem dL_bears_5 : decode cL_bears 5 = .ok (.invokevirtual 62, 3) := by decide +kernel
theorem dL_bears_8 : decode cL_bears 8 = .ok (.ifCond .eq 7, 3) := by decide +kernel
theorem dL_bears_11 : decode cL_bears 11 = .ok (.lconst 1, 1) := by decide +kernel
theorem dL_bears_12 : decode cL_bears 12 = .ok (.goto 4, 3) := by decide +kernel
theorem dL_bears_15 : decode cL_bears 15 = .ok (.lconst 0, 1) := by decide +kernel
theorem dL_bears_16 : decode cL_bears 16 = .ok (.lastore, 1) := by decide +kernel
theorem dL_bears_17 : decode cL_bears 17 = .ok (.goto 11, 3) := by decide +kernel
theorem dL_bears_20 : decode cL_bears 20 = .ok (.astore 4, 2) := by decide +kernel
theorem dL_bears_22 : decode cL_bears 22 = .ok (.iconst 1, 1) := by decide +kernel
theorem dL_bears_23 : decode cL_bears 23 = .ok (.ireturn, 1) := by decide +kernel
theorem dL_bears_24 : decode cL_bears 24 = .ok (.astore 4, 2) := by decide +kernel
theorem dL_bears_26 : decode cL_bears 26 = .ok (.iconst 2, 1) := by decide +kernel
theorem dL_bears_27 : decode cL_bears 27 = .ok (.ireturn, 1) := by decide +kernel
theorem dL_bears_28 : decode cL_bears 28 = .ok (.iconst 0, 1) := by decide +kernel
theorem dL_bears_29 : decode cL_bears 29 = .ok (.ireturn, 1) := by decide +kernel
set_option maxRecDepth 20000 in
theorem ggL_kindsOf_X4_kindsOf : GoodIn wsL_kindsOf wsX4_kindsOf := goodIn_ca (goodIn_r _ [6, 7, 8, 9, 5, 10, 11, 12, 13, 14, 15, 16, 17, 18, 19, 20, 21, 22, 23, 24, 25, 26, 27, 28, 29, 30, 31, 32, 33, 34, 35, 36, 37, 38, 39, 40, 41, 42, 43, 44, 45, 46, 47, 48, 49, 50, 51, 52, 53, 54, 55] (by decide +kernel) (by decide +kernel)) (goodIn_sub (fun _ h => List.mem_cons_of_mem _ (List.mem_append_right _ h)) (by decide +kernel))
set_option maxRecDepth 20000 in
theorem gL_kindsOf_X4_kindsOf : GoodIn wsL_kindsOf (wsV RL 65 RX4 yX4_kindsOf wsX4_kindsOf) := goodIn_app (goodIn_of _ (by decide +kernel)) ggL_kindsOf_X4_kindsOf
theorem dL_kindsOf_0 : decode cL_kindsOf 0 = .ok (.aload_n 2, 1) := by decide +kernel
theorem dL_kindsOf_1 : decode cL_kindsOf 1 = .ok (.iconst 0, 1) := by decide +kernel
theorem dL_kindsOf_2 : decode cL_kindsOf 2 = .ok (.aload_n 0, 1) := by decide +kernel
theorem dL_kindsOf_3 : decode cL_kindsOf 3 = .ok (.iload_n 1, 1) := by decide +kernel
theorem dL_kindsOf_4 : decode cL_kindsOf 4 = .ok (.invokevirtual 65, 3) := by decide +kernel
theorem dL_kindsOf_7 : decode cL_kindsOf 7 = .ok (.i2l, 1) := by decide +kernel
theorem dL_kindsOf_8 : decode cL_kindsOf 8 = .ok (.lastore, 1) := by decide +kernel
theorem dL_kindsOf_9 : decode cL_kindsOf 9 = .ok (.goto 6, 3) := by decide +kernel
theorem dL_kindsOf_12 : decode cL_kindsOf 12 = .ok (.astore_n 3, 1) := by decide +kernel
theorem dL_kindsOf_13 : decode cL_kindsOf 13 = .ok (.iconst 1, 1) := by decide +kernel
theorem dL_kindsOf_14 : decode cL_kindsOf 14 = .ok (.ireturn, 1) := by decide +kernel
theorem dL_kindsOf_15 : decode cL_kindsOf 15 = .ok (.iconst 0, 1) := by decide +kernel
theorem dL_kindsOf_16 : decode cL_kindsOf 16 = .ok (.ireturn, 1) := by decide +kernel
set_option maxRecDepth 20000 in
theorem ggL_mayFold_X4_mayFold : GoodIn wsL_mayFold wsX4_mayFold := goodIn_ca (goodIn_r _ [6, 7, 8, 9, 10, 5, 11, 12, 13, 14, 15, 16, 17, 18, 19, 20, 21, 22, 23, 24, 25, 26, 27, 28, 29, 30, 31, 32, 33, 34, 35, 36, 37, 38, 39, 40, 41, 42, 43, 44, 45, 46, 47, 48, 49, 50, 51, 52, 53, 54, 55, 56, 57, 58, 59, 60, 61, 62, 63] (by decide +kernel) (by decide +kernel)) (goodIn_sub (fun _ h => List.mem_cons_of_mem _ (List.mem_append_right _ h)) (by decide +kernel))
set_option maxRecDepth 20000 in
theorem gL_mayFold_X4_mayFold : GoodIn wsL_mayFold (wsV RL 68 RX4 yX4_mayFold wsX4_mayFold) := goodIn_app (goodIn_of _ (by decide +kernel)) ggL_mayFold_X4_mayFold
theorem dL_mayFold_0 : decode cL_mayFold 0 = .ok (.aload_n 3, 1) := by decide +kernel
theorem dL_mayFold_1 : decode cL_mayFold 1 = .ok (.iconst 0, 1) := by decide +kernel
theorem dL_mayFold_2 : decode cL_mayFold 2 = .ok (.aload_n 0, 1) := by decide +kernel
theorem dL_mayFold_3 : decode cL_mayFold 3 = .ok (.iload_n 1, 1) := by decide +kernel
theorem dL_mayFold_4 : decode cL_mayFold 4 = .ok (.iload_n 2, 1) := by decide +kernel
theorem dL_mayFold_5 : decode cL_mayFold 5 = .ok (.invokevirtual 68, 3) := by decide +kernel
theorem dL_mayFold_8 : decode cL_mayFold 8 = .ok (.ifCond .eq 7, 3) := by decide +kernel
theorem dL_mayFold_11 : decode cL_mayFold 11 = .ok (.lconst 1, 1) := by decide +kernel
theorem dL_mayFold_12 : decode cL_mayFold 12 = .ok (.goto 4, 3) := by decide +kernel
theorem dL_mayFold_15 : decode cL_mayFold 15 = .ok (.lconst 0, 1) := by decide +kernel
theorem dL_mayFold_16 : decode cL_mayFold 16 = .ok (.lastore, 1) := by decide +kernel
theorem dL_mayFold_17 : decode cL_mayFold 17 = .ok (.goto 7, 3) := by decide +kernel
theorem dL_mayFold_20 : decode cL_mayFold 20 = .ok (.astore 4, 2) := by decide +kernel
theorem dL_mayFold_22 : decode cL_mayFold 22 = .ok (.iconst 1, 1) := by decide +kernel
theorem dL_mayFold_23 : decode cL_mayFold 23 = .ok (.ireturn, 1) := by decide +kernel
theorem dL_mayFold_24 : decode cL_mayFold 24 = .ok (.iconst 0, 1) := by decide +kernel
theorem dL_mayFold_25 : decode cL_mayFold 25 = .ok (.ireturn, 1) := by decide +kernel
set_option maxRecDepth 20000 in
theorem ggL_lessons_X4_lessons : GoodIn wsL_lessons wsX4_lessons := goodIn_ca (goodIn_r _ [6, 7, 8, 9, 10, 11, 5, 12, 13, 14, 15, 16, 17, 18, 19, 20, 21, 22, 23, 24, 25, 26, 27, 28, 29, 30, 31, 32, 33, 34, 35, 36, 37, 38, 39, 40, 41, 42, 43, 44, 45, 46, 47, 48, 49, 50, 51, 52, 53, 54, 55, 56, 57, 58, 59, 60, 61, 62, 63, 64, 65, 66, 67, 68] (by decide +kernel) (by decide +kernel)) (goodIn_sub (fun _ h => List.mem_cons_of_mem _ (List.mem_append_right _ h)) (by decide +kernel))
set_option maxRecDepth 20000 in
theorem gL_lessons_X4_lessons : GoodIn wsL_lessons (wsV RL 71 RX4 yX4_lessons wsX4_lessons) := goodIn_app (goodIn_of _ (by decide +kernel)) ggL_lessons_X4_lessons
theorem dL_lessons_0 : decode cL_lessons 0 = .ok (.aload_n 3, 1) := by decide +kernel
theorem dL_lessons_1 : decode cL_lessons 1 = .ok (.iconst 0, 1) := by decide +kernel
theorem dL_lessons_2 : decode cL_lessons 2 = .ok (.aload_n 0, 1) := by decide +kernel
theorem dL_lessons_3 : decode cL_lessons 3 = .ok (.iload_n 1, 1) := by decide +kernel
theorem dL_lessons_4 : decode cL_lessons 4 = .ok (.iload_n 2, 1) := by decide +kernel
theorem dL_lessons_5 : decode cL_lessons 5 = .ok (.invokevirtual 71, 3) := by decide +kernel
theorem dL_lessons_8 : decode cL_lessons 8 = .ok (.i2l, 1) := by decide +kernel
theorem dL_lessons_9 : decode cL_lessons 9 = .ok (.lastore, 1) := by decide +kernel
theorem dL_lessons_10 : decode cL_lessons 10 = .ok (.goto 7, 3) := by decide +kernel
theorem dL_lessons_13 : decode cL_lessons 13 = .ok (.astore 4, 2) := by decide +kernel
theorem dL_lessons_15 : decode cL_lessons 15 = .ok (.iconst 1, 1) := by decide +kernel
theorem dL_lessons_16 : decode cL_lessons 16 = .ok (.ireturn, 1) := by decide +kernel
theorem dL_lessons_17 : decode cL_lessons 17 = .ok (.iconst 0, 1) := by decide +kernel
theorem dL_lessons_18 : decode cL_lessons 18 = .ok (.ireturn, 1) := by decide +kernel
set_option maxRecDepth 20000 in
theorem ggL_credit_X4_credit : GoodIn wsL_credit wsX4_credit := goodIn_ca (goodIn_r _ [6, 7, 8, 9, 10, 5, 11, 12, 13, 14, 15, 16, 17, 18, 19, 20, 21, 22, 23, 24, 25, 26, 27, 28, 29, 30, 31, 32, 33, 34, 35, 36, 37, 38, 39, 40, 41, 42, 43, 44, 45, 46, 47, 48, 49, 50, 51, 52, 53] (by decide +kernel) (by decide +kernel)) (goodIn_sub (fun _ h => List.mem_cons_of_mem _ (List.mem_append_right _ h)) (by decide +kernel))
set_option maxRecDepth 20000 in
theorem gL_credit_X4_credit : GoodIn wsL_credit (wsV RL 74 RX4 yX4_credit wsX4_credit) := goodIn_app (goodIn_of _ (by decide +kernel)) ggL_credit_X4_credit
theorem dL_credit_0 : decode cL_credit 0 = .ok (.aload_n 2, 1) := by decide +kernel
theorem dL_credit_1 : decode cL_credit 1 = .ok (.iconst 0, 1) := by decide +kernel
theorem dL_credit_2 : decode cL_credit 2 = .ok (.aload_n 0, 1) := by decide +kernel
theorem dL_credit_3 : decode cL_credit 3 = .ok (.iload_n 1, 1) := by decide +kernel
theorem dL_credit_4 : decode cL_credit 4 = .ok (.invokevirtual 74, 3) := by decide +kernel
theorem dL_credit_7 : decode cL_credit 7 = .ok (.i2l, 1) := by decide +kernel
theorem dL_credit_8 : decode cL_credit 8 = .ok (.lastore, 1) := by decide +kernel
theorem dL_credit_9 : decode cL_credit 9 = .ok (.goto 6, 3) := by decide +kernel
theorem dL_credit_12 : decode cL_credit 12 = .ok (.astore_n 3, 1) := by decide +kernel
theorem dL_credit_13 : decode cL_credit 13 = .ok (.iconst 1, 1) := by decide +kernel
theorem dL_credit_14 : decode cL_credit 14 = .ok (.ireturn, 1) := by decide +kernel
theorem dL_credit_15 : decode cL_credit 15 = .ok (.iconst 0, 1) := by decide +kernel
theorem dL_credit_16 : decode cL_credit 16 = .ok (.ireturn, 1) := by decide +kernel
set_option maxRecDepth 20000 in
theorem ggL_law_X4_init : GoodIn wsL_law wsX4_init := goodIn_r _ [9, 10, 11, 12, 13, 14, 15, 16, 17, 18, 19, 20, 21, 22, 23, 24, 25, 26, 27, 28, 29, 30, 31, 32, 33, 34, 35, 36, 37, 38, 39, 40, 41, 574, 575, 576, 577, 578, 579, 580, 581, 602, 603, 604, 605, 606, 607, 608] (by decide +kernel) (by decide +kernel)
set_option maxRecDepth 20000 in
theorem gL_law_X4_init : GoodIn wsL_law (wsX4_init) := ggL_law_X4_init
set_option maxRecDepth 20000 in
theorem ggL_law_X5_init : GoodIn wsL_law wsX5_init := goodIn_r _ [44, 45, 11, 12, 13, 46, 47, 48, 49, 50, 51, 52, 53, 54, 55, 56, 57, 58, 59, 582, 583, 584, 585, 586, 587, 588, 589, 590, 591, 592, 593, 594, 595, 596, 597, 598, 599, 600, 601] (by decide +kernel) (by decide +kernel)
set_option maxRecDepth 20000 in
theorem gL_law_X5_init : GoodIn wsL_law (wsX5_init) := ggL_law_X5_init
set_option maxRecDepth 20000 in
theorem ggL_law_L_setNeeds : GoodIn wsL_law wsL_setNeeds := goodIn_ca (goodIn_ca (goodIn_r _ [63, 64, 65, 66, 67, 68, 2, 69, 70, 71, 14, 72, 73, 74, 75, 76, 77, 78, 79, 80, 81, 82, 83, 574, 575, 576, 577, 578, 579, 580, 581] (by decide +kernel) (by decide +kernel)) (goodIn_sub (fun _ h => List.mem_append_left _ (List.mem_append_left _ (List.mem_append_right _ h))) (by decide +kernel))) (goodIn_sub (fun _ h => List.mem_append_left _ (List.mem_append_right _ h)) (by decide +kernel))
set_option maxRecDepth 20000 in
theorem gL_law_L_setNeeds : GoodIn wsL_law (va_wsS RL 81 yL_setNeeds wsL_setNeeds) := goodIn_app (goodIn_of _ (by decide +kernel)) ggL_law_L_setNeeds
set_option maxRecDepth 20000 in
theorem ggL_law_X5_setNeeds : GoodIn wsL_law wsX5_setNeeds := goodIn_r _ [87, 88, 46, 89, 90, 5, 91, 92, 93, 94, 95, 96, 97, 98, 99, 582, 583, 584, 585, 586, 587, 588, 589, 590, 591, 592, 593, 594, 595, 596, 597, 598, 599, 600, 601] (by decide +kernel) (by decide +kernel)
set_option maxRecDepth 20000 in
theorem gL_law_X5_setNeeds : GoodIn wsL_law (wsV RL 86 RX5 yX5_setNeeds wsX5_setNeeds) := goodIn_app (goodIn_of _ (by decide +kernel)) ggL_law_X5_setNeeds
set_option maxRecDepth 20000 in
theorem ggL_law_X5_thrown : GoodIn wsL_law wsX5_thrown := goodIn_r _ [103, 88, 582, 583, 584, 585, 586, 587, 588, 589, 590, 591, 592, 593, 594, 595, 596, 597, 598, 599, 600, 601] (by decide +kernel) (by decide +kernel)
set_option maxRecDepth 20000 in
theorem gL_law_X5_thrown : GoodIn wsL_law (wsV RL 87 RX5 yX5_thrown wsX5_thrown) := goodIn_app (goodIn_of _ (by decide +kernel)) ggL_law_X5_thrown
set_option maxRecDepth 20000 in
theorem ggL_law_L_addModel : GoodIn wsL_law wsL_addModel := goodIn_ca (goodIn_ca (goodIn_ca (goodIn_r _ [106, 64, 65, 107, 108, 109, 110, 2, 111, 70, 71, 112, 113, 19, 17, 16, 114, 115, 116, 117, 118, 119, 76, 77, 120, 121, 122, 123, 11, 12, 13, 124, 125, 126, 127, 128, 129, 130, 131, 132, 133, 134, 135, 136, 137, 138, 139, 140, 141, 142, 143, 144, 145, 146, 147, 148, 149, 150, 151, 152, 153, 154, 574, 575, 576, 577, 578, 579, 580, 581, 609, 610, 611, 612, 613, 614, 615, 616, 617, 618, 619, 620, 621] (by decide +kernel) (by decide +kernel)) (goodIn_sub (fun _ h => List.mem_append_left _ (List.mem_append_left _ (List.mem_append_right _ h))) (by decide +kernel))) (goodIn_sub (fun _ h => List.mem_append_right _ h) (by decide +kernel))) (goodIn_sub (fun _ h => List.mem_append_left _ (List.mem_append_right _ h)) (by decide +kernel))
set_option maxRecDepth 20000 in
theorem gL_law_L_addModel : GoodIn wsL_law (va_wsS RL 91 yL_addModel wsL_addModel) := goodIn_app (goodIn_of _ (by decide +kernel)) ggL_law_L_addModel
set_option maxRecDepth 20000 in
theorem ggL_law_X5_addModel : GoodIn wsL_law wsX5_addModel := goodIn_r _ [158, 159, 88, 47, 48, 89, 90, 5, 91, 582, 583, 584, 585, 586, 587, 588, 589, 590, 591, 592, 593, 594, 595, 596, 597, 598, 599, 600, 601] (by decide +kernel) (by decide +kernel)
set_option maxRecDepth 20000 in
theorem gL_law_X5_addModel : GoodIn wsL_law (wsV RL 93 RX5 yX5_addModel wsX5_addModel) := goodIn_app (goodIn_of _ (by decide +kernel)) ggL_law_X5_addModel
set_option maxRecDepth 20000 in
theorem ggL_law_L_fold : GoodIn wsL_law wsL_fold := goodIn_ca (goodIn_ca (goodIn_ca (goodIn_r _ [162, 64, 65, 107, 163, 164, 165, 2, 166, 70, 71, 112, 113, 167, 168, 169, 14, 170, 171, 172, 173, 76, 77, 17, 174, 175, 176, 177, 19, 72, 73, 74, 75, 178, 179, 180, 115, 181, 128, 124, 182, 183, 184, 185, 186, 187, 188, 125, 127, 134, 189, 190, 191, 133, 192, 143, 148, 149, 150, 151, 152, 153, 154, 142, 141, 193, 194, 195, 196, 197, 198, 199, 200, 139, 201, 202, 203, 204, 205, 206, 207, 208, 140, 209, 210, 211, 212, 138, 213, 214, 215, 216, 217, 218, 219, 220, 609, 610, 611, 612, 613, 614, 615, 616, 617, 618, 619, 620, 621, 574, 575, 576, 577, 578, 579, 580, 581] (by decide +kernel) (by decide +kernel)) (goodIn_sub (fun _ h => List.mem_append_left _ (List.mem_append_left _ (List.mem_append_right _ h))) (by decide +kernel))) (goodIn_sub (fun _ h => List.mem_append_right _ h) (by decide +kernel))) (goodIn_sub (fun _ h => List.mem_append_left _ (List.mem_append_right _ h)) (by decide +kernel))
set_option maxRecDepth 20000 in
theorem gL_law_L_fold : GoodIn wsL_law (va_wsS RL 94 yL_fold wsL_fold) := goodIn_app (goodIn_of _ (by decide +kernel)) ggL_law_L_fold
set_option maxRecDepth 20000 in
theorem ggL_law_X5_fold : GoodIn wsL_law wsX5_fold := goodIn_r _ [224, 159, 88, 225, 49, 46, 51, 52, 53, 89, 90, 5, 91, 226, 227, 228, 229, 48, 55, 56, 57, 230, 231, 232, 233, 234, 58, 235, 236, 237, 238, 96, 97, 98, 99, 239, 240, 241, 242, 582, 583, 584, 585, 586, 587, 588, 589, 590, 591, 592, 593, 594, 595, 596, 597, 598, 599, 600, 601] (by decide +kernel) (by decide +kernel)
set_option maxRecDepth 20000 in
theorem gL_law_X5_fold : GoodIn wsL_law (wsV RL 97 RX5 yX5_fold wsX5_fold) := goodIn_app (goodIn_of _ (by decide +kernel)) ggL_law_X5_fold
set_option maxRecDepth 20000 in
theorem ggL_law_L_unfold : GoodIn wsL_law wsL_unfold := goodIn_ca (goodIn_ca (goodIn_r _ [245, 64, 107, 246, 247, 248, 2, 249, 112, 113, 169, 170, 171, 172, 173, 76, 77, 17, 174, 175, 176, 177, 19, 250, 251, 252, 115, 253, 128, 134, 130, 125, 127, 124, 144, 145, 146, 133, 147, 148, 149, 150, 151, 152, 153, 154, 143, 138, 139, 189, 190, 191, 192, 142, 141, 193, 194, 195, 196, 197, 198, 199, 200, 201, 202, 203, 204, 205, 206, 207, 208, 140, 209, 210, 211, 212, 213, 214, 215, 216, 217, 218, 219, 220, 609, 610, 611, 612, 613, 614, 615, 574, 575, 576, 577, 578, 579, 580, 581, 616, 617, 618, 619, 620, 621] (by decide +kernel) (by decide +kernel)) (goodIn_sub (fun _ h => List.mem_append_right _ h) (by decide +kernel))) (goodIn_sub (fun _ h => List.mem_append_left _ (List.mem_append_right _ h)) (by decide +kernel))
set_option maxRecDepth 20000 in
theorem gL_law_L_unfold : GoodIn wsL_law (va_wsS RL 98 yL_unfold wsL_unfold) := goodIn_app (goodIn_of _ (by decide +kernel)) ggL_law_L_unfold
set_option maxRecDepth 20000 in
theorem ggL_law_X5_unfold : GoodIn wsL_law wsX5_unfold := goodIn_r _ [257, 49, 51, 258, 259, 260, 5, 261, 159, 88, 89, 90, 91, 96, 97, 98, 99, 582, 583, 584, 585, 586, 587, 588, 589, 590, 591, 592, 593, 594, 595, 596, 597, 598, 599, 600, 601] (by decide +kernel) (by decide +kernel)
set_option maxRecDepth 20000 in
theorem gL_law_X5_unfold : GoodIn wsL_law (wsV RL 101 RX5 yX5_unfold wsX5_unfold) := goodIn_app (goodIn_of _ (by decide +kernel)) ggL_law_X5_unfold
set_option maxRecDepth 20000 in
theorem ggL_law_L_use : GoodIn wsL_law wsL_use := goodIn_ca (goodIn_ca (goodIn_r _ [264, 64, 65, 265, 266, 267, 2, 268, 70, 71, 18, 174, 175, 176, 177, 76, 77, 19, 269, 270, 271, 272, 78, 79, 80, 81, 82, 83, 574, 575, 576, 577, 578, 579, 580, 581] (by decide +kernel) (by decide +kernel)) (goodIn_sub (fun _ h => List.mem_append_left _ (List.mem_append_left _ (List.mem_append_right _ h))) (by decide +kernel))) (goodIn_sub (fun _ h => List.mem_append_left _ (List.mem_append_right _ h)) (by decide +kernel))
set_option maxRecDepth 20000 in
theorem gL_law_L_use : GoodIn wsL_law (va_wsS RL 102 yL_use wsL_use) := goodIn_app (goodIn_of _ (by decide +kernel)) ggL_law_L_use
set_option maxRecDepth 20000 in
theorem ggL_law_X5_use : GoodIn wsL_law wsX5_use := goodIn_r _ [276, 159, 88, 50, 89, 90, 5, 91, 277, 278, 279, 280, 582, 583, 584, 585, 586, 587, 588, 589, 590, 591, 592, 593, 594, 595, 596, 597, 598, 599, 600, 601] (by decide +kernel) (by decide +kernel)
set_option maxRecDepth 20000 in
theorem gL_law_X5_use : GoodIn wsL_law (wsV RL 104 RX5 yX5_use wsX5_use) := goodIn_app (goodIn_of _ (by decide +kernel)) ggL_law_X5_use
set_option maxRecDepth 20000 in
theorem ggL_law_L_setRoll : GoodIn wsL_law wsL_setRoll := goodIn_ca (goodIn_r _ [283, 65, 284, 285, 286, 2, 287, 70, 71, 288, 28, 289, 290, 574, 575, 576, 577, 578, 579, 580, 581, 605, 606, 607, 608] (by decide +kernel) (by decide +kernel)) (goodIn_sub (fun _ h => List.mem_append_left _ (List.mem_append_left _ (List.mem_append_right _ h))) (by decide +kernel))
set_option maxRecDepth 20000 in
theorem gL_law_L_setRoll : GoodIn wsL_law (va_wsS RL 105 yL_setRoll wsL_setRoll) := goodIn_app (goodIn_of _ (by decide +kernel)) ggL_law_L_setRoll
set_option maxRecDepth 20000 in
theorem ggL_law_X5_setRoll : GoodIn wsL_law wsX5_setRoll := goodIn_r _ [294, 295, 88, 296, 297, 89, 90, 5, 91, 582, 583, 584, 585, 586, 587, 588, 589, 590, 591, 592, 593, 594, 595, 596, 597, 598, 599, 600, 601] (by decide +kernel) (by decide +kernel)
set_option maxRecDepth 20000 in
theorem gL_law_X5_setRoll : GoodIn wsL_law (wsV RL 107 RX5 yX5_setRoll wsX5_setRoll) := goodIn_app (goodIn_of _ (by decide +kernel)) ggL_law_X5_setRoll
set_option maxRecDepth 20000 in
theorem ggL_law_L_teach : GoodIn wsL_law wsL_teach := goodIn_ca (goodIn_ca (goodIn_r _ [300, 64, 107, 301, 302, 303, 2, 304, 112, 113, 15, 14, 305, 306, 307, 308, 76, 77, 72, 73, 74, 75, 182, 183, 184, 309, 310, 311, 312, 313, 314, 315, 574, 575, 576, 577, 578, 579, 580, 581] (by decide +kernel) (by decide +kernel)) (goodIn_sub (fun _ h => List.mem_append_right _ h) (by decide +kernel))) (goodIn_sub (fun _ h => List.mem_append_left _ (List.mem_append_right _ h)) (by decide +kernel))
set_option maxRecDepth 20000 in
theorem gL_law_L_teach : GoodIn wsL_law (va_wsS RL 108 yL_teach wsL_teach) := goodIn_app (goodIn_of _ (by decide +kernel)) ggL_law_L_teach
set_option maxRecDepth 20000 in
theorem ggL_law_X5_teach : GoodIn wsL_law wsX5_teach := goodIn_r _ [319, 46, 54, 88, 89, 90, 5, 91, 320, 321, 322, 582, 583, 584, 585, 586, 587, 588, 589, 590, 591, 592, 593, 594, 595, 596, 597, 598, 599, 600, 601] (by decide +kernel) (by decide +kernel)
set_option maxRecDepth 20000 in
theorem gL_law_X5_teach : GoodIn wsL_law (wsV RL 110 RX5 yX5_teach wsX5_teach) := goodIn_app (goodIn_of _ (by decide +kernel)) ggL_law_X5_teach
set_option maxRecDepth 20000 in
theorem ggL_law_X4_models : GoodIn wsL_law wsX4_models := goodIn_r _ [326, 19, 574, 575, 576, 577, 578, 579, 580, 581] (by decide +kernel) (by decide +kernel)
set_option maxRecDepth 20000 in
theorem gL_law_X4_models : GoodIn wsL_law (wsV RL 111 RX4 yX4_models wsX4_models) := goodIn_app (goodIn_of _ (by decide +kernel)) ggL_law_X4_models
set_option maxRecDepth 20000 in
theorem ggL_law_X5_models : GoodIn wsL_law wsX5_models := goodIn_r _ [330, 88, 159, 582, 583, 584, 585, 586, 587, 588, 589, 590, 591, 592, 593, 594, 595, 596, 597, 598, 599, 600, 601] (by decide +kernel) (by decide +kernel)
set_option maxRecDepth 20000 in
theorem gL_law_X5_models : GoodIn wsL_law (wsV RL 114 RX5 yX5_models wsX5_models) := goodIn_app (goodIn_of _ (by decide +kernel)) ggL_law_X5_models
set_option maxRecDepth 20000 in
theorem ggL_law_L_steps : GoodIn wsL_law wsL_steps := goodIn_ca (goodIn_r _ [333, 64, 334, 335, 336, 2, 337, 169, 170, 171, 172, 173, 76, 77, 17, 174, 175, 176, 177, 19, 609, 610, 611, 612, 613, 614, 615, 574, 575, 576, 577, 578, 579, 580, 581] (by decide +kernel) (by decide +kernel)) (goodIn_sub (fun _ h => List.mem_append_left _ (List.mem_append_right _ h)) (by decide +kernel))
set_option maxRecDepth 20000 in
theorem gL_law_L_steps : GoodIn wsL_law (va_wsS RL 115 yL_steps wsL_steps) := goodIn_app (goodIn_of _ (by decide +kernel)) ggL_law_L_steps
set_option maxRecDepth 20000 in
theorem ggL_law_X5_steps : GoodIn wsL_law wsX5_steps := goodIn_r _ [341, 49, 258, 259, 260, 5, 261, 159, 88, 89, 90, 91, 582, 583, 584, 585, 586, 587, 588, 589, 590, 591, 592, 593, 594, 595, 596, 597, 598, 599, 600, 601] (by decide +kernel) (by decide +kernel)
set_option maxRecDepth 20000 in
theorem gL_law_X5_steps : GoodIn wsL_law (wsV RL 117 RX5 yX5_steps wsX5_steps) := goodIn_app (goodIn_of _ (by decide +kernel)) ggL_law_X5_steps
set_option maxRecDepth 20000 in
theorem ggL_law_L_places : GoodIn wsL_law wsL_places := goodIn_ca (goodIn_r _ [344, 64, 345, 346, 347, 2, 348, 167, 168, 170, 171, 172, 173, 76, 77, 17, 174, 175, 176, 177, 19, 609, 610, 611, 612, 613, 614, 615, 616, 617, 618, 619, 620, 621, 574, 575, 576, 577, 578, 579, 580, 581] (by decide +kernel) (by decide +kernel)) (goodIn_sub (fun _ h => List.mem_append_left _ (List.mem_append_right _ h)) (by decide +kernel))
set_option maxRecDepth 20000 in
theorem gL_law_L_places : GoodIn wsL_law (va_wsS RL 118 yL_places wsL_places) := goodIn_app (goodIn_of _ (by decide +kernel)) ggL_law_L_places
set_option maxRecDepth 20000 in
theorem ggL_law_X5_places : GoodIn wsL_law wsX5_places := goodIn_r _ [352, 225, 258, 259, 260, 5, 261, 159, 88, 89, 90, 91, 226, 227, 228, 229, 48, 55, 56, 57, 230, 49, 52, 53, 231, 232, 233, 234, 58, 235, 236, 237, 238, 582, 583, 584, 585, 586, 587, 588, 589, 590, 591, 592, 593, 594, 595, 596, 597, 598, 599, 600, 601] (by decide +kernel) (by decide +kernel)
set_option maxRecDepth 20000 in
theorem gL_law_X5_places : GoodIn wsL_law (wsV RL 120 RX5 yX5_places wsX5_places) := goodIn_app (goodIn_of _ (by decide +kernel)) ggL_law_X5_places
set_option maxRecDepth 20000 in
theorem ggL_law_L_layers : GoodIn wsL_law wsL_layers := goodIn_ca (goodIn_r _ [355, 64, 356, 357, 358, 2, 359, 167, 170, 171, 172, 173, 76, 77, 17, 174, 175, 176, 177, 19, 360, 361, 362, 133, 363, 143, 152, 153, 150, 154, 197, 198, 199, 200, 139, 201, 202, 203, 204, 609, 610, 611, 612, 613, 614, 615, 574, 575, 576, 577, 578, 579, 580, 581, 616, 617, 618, 619, 620, 621] (by decide +kernel) (by decide +kernel)) (goodIn_sub (fun _ h => List.mem_append_left _ (List.mem_append_right _ h)) (by decide +kernel))
set_option maxRecDepth 20000 in
theorem gL_law_L_layers : GoodIn wsL_law (va_wsS RL 121 yL_layers wsL_layers) := goodIn_app (goodIn_of _ (by decide +kernel)) ggL_law_L_layers
set_option maxRecDepth 20000 in
theorem ggL_law_X5_layers : GoodIn wsL_law wsX5_layers := goodIn_r _ [367, 258, 259, 260, 5, 261, 159, 88, 89, 90, 91, 368, 369, 370, 371, 225, 58, 226, 227, 228, 229, 48, 55, 56, 57, 230, 49, 52, 53, 231, 232, 233, 234, 235, 236, 237, 238, 582, 583, 584, 585, 586, 587, 588, 589, 590, 591, 592, 593, 594, 595, 596, 597, 598, 599, 600, 601] (by decide +kernel) (by decide +kernel)
set_option maxRecDepth 20000 in
theorem gL_law_X5_layers : GoodIn wsL_law (wsV RL 123 RX5 yX5_layers wsX5_layers) := goodIn_app (goodIn_of _ (by decide +kernel)) ggL_law_X5_layers
set_option maxRecDepth 20000 in
theorem ggL_law_L_cellAt : GoodIn wsL_law wsL_cellAt := goodIn_ca (goodIn_r _ [374, 64, 375, 376, 377, 2, 378, 76, 77, 167, 168, 170, 171, 172, 173, 17, 174, 175, 176, 177, 19, 379, 198, 199, 133, 200, 139, 201, 202, 203, 204, 143, 380, 210, 211, 212, 138, 197, 609, 610, 611, 612, 613, 614, 615, 616, 617, 618, 619, 620, 621, 574, 575, 576, 577, 578, 579, 580, 581] (by decide +kernel) (by decide +kernel)) (goodIn_sub (fun _ h => List.mem_append_left _ (List.mem_append_right _ h)) (by decide +kernel))
set_option maxRecDepth 20000 in
theorem gL_law_L_cellAt : GoodIn wsL_law (va_wsS RL 124 yL_cellAt wsL_cellAt) := goodIn_app (goodIn_of _ (by decide +kernel)) ggL_law_L_cellAt
set_option maxRecDepth 20000 in
theorem ggL_law_X5_cellAt : GoodIn wsL_law wsX5_cellAt := goodIn_r _ [384, 48, 55, 56, 258, 259, 260, 5, 261, 159, 88, 89, 90, 91, 226, 227, 228, 229, 57, 225, 230, 49, 52, 53, 231, 232, 233, 234, 58, 235, 236, 237, 238, 96, 97, 98, 99, 582, 583, 584, 585, 586, 587, 588, 589, 590, 591, 592, 593, 594, 595, 596, 597, 598, 599, 600, 601] (by decide +kernel) (by decide +kernel)
set_option maxRecDepth 20000 in
theorem gL_law_X5_cellAt : GoodIn wsL_law (wsV RL 127 RX5 yX5_cellAt wsX5_cellAt) := goodIn_app (goodIn_of _ (by decide +kernel)) ggL_law_X5_cellAt
set_option maxRecDepth 20000 in
theorem ggL_law_L_placeOf : GoodIn wsL_law wsL_placeOf := goodIn_ca (goodIn_r _ [387, 64, 388, 389, 390, 2, 391, 23, 392, 170, 171, 172, 173, 76, 77, 17, 174, 175, 176, 177, 19, 393, 394, 395, 396, 397, 398, 399, 400, 22, 401, 32, 33, 402, 34, 403, 404, 405, 406, 407, 408, 409, 410, 149, 150, 151, 411, 153, 154, 574, 575, 576, 577, 578, 579, 580, 581, 602, 603, 604, 609, 610, 611, 612, 613, 614, 615] (by decide +kernel) (by decide +kernel)) (goodIn_sub (fun _ h => List.mem_append_left _ (List.mem_append_right _ h)) (by decide +kernel))
set_option maxRecDepth 20000 in
theorem gL_law_L_placeOf : GoodIn wsL_law (va_wsS RL 128 yL_placeOf wsL_placeOf) := goodIn_app (goodIn_of _ (by decide +kernel)) ggL_law_L_placeOf
set_option maxRecDepth 20000 in
theorem ggL_law_X5_placeOf : GoodIn wsL_law wsX5_placeOf := goodIn_r _ [415, 55, 416, 417, 418, 5, 419, 159, 48, 88, 89, 90, 91, 226, 227, 228, 229, 56, 57, 225, 230, 49, 52, 53, 231, 232, 233, 234, 58, 235, 236, 237, 238, 582, 583, 584, 585, 586, 587, 588, 589, 590, 591, 592, 593, 594, 595, 596, 597, 598, 599, 600, 601] (by decide +kernel) (by decide +kernel)
set_option maxRecDepth 20000 in
theorem gL_law_X5_placeOf : GoodIn wsL_law (wsV RL 130 RX5 yX5_placeOf wsX5_placeOf) := goodIn_app (goodIn_of _ (by decide +kernel)) ggL_law_X5_placeOf
set_option maxRecDepth 20000 in
theorem ggL_law_L_isTurned : GoodIn wsL_law wsL_isTurned := goodIn_ca (goodIn_r _ [422, 64, 423, 424, 425, 2, 426, 23, 427, 170, 171, 172, 173, 76, 77, 17, 174, 175, 176, 177, 19, 393, 394, 395, 396, 397, 398, 399, 400, 22, 401, 32, 33, 402, 34, 403, 404, 405, 406, 407, 408, 409, 410, 149, 150, 151, 411, 153, 154, 574, 575, 576, 577, 578, 579, 580, 581, 602, 603, 604, 609, 610, 611, 612, 613, 614, 615] (by decide +kernel) (by decide +kernel)) (goodIn_sub (fun _ h => List.mem_append_left _ (List.mem_append_right _ h)) (by decide +kernel))
set_option maxRecDepth 20000 in
theorem gL_law_L_isTurned : GoodIn wsL_law (va_wsS RL 131 yL_isTurned wsL_isTurned) := goodIn_app (goodIn_of _ (by decide +kernel)) ggL_law_L_isTurned
set_option maxRecDepth 20000 in
theorem ggL_law_X5_isTurned : GoodIn wsL_law wsX5_isTurned := goodIn_r _ [431, 57, 416, 417, 418, 5, 419, 159, 48, 88, 89, 90, 91, 226, 227, 228, 229, 55, 56, 225, 230, 49, 52, 53, 231, 232, 233, 234, 58, 235, 236, 237, 238, 582, 583, 584, 585, 586, 587, 588, 589, 590, 591, 592, 593, 594, 595, 596, 597, 598, 599, 600, 601] (by decide +kernel) (by decide +kernel)
set_option maxRecDepth 20000 in
theorem gL_law_X5_isTurned : GoodIn wsL_law (wsV RL 133 RX5 yX5_isTurned wsX5_isTurned) := goodIn_app (goodIn_of _ (by decide +kernel)) ggL_law_X5_isTurned
set_option maxRecDepth 20000 in
theorem ggL_law_L_layersByFollowing : GoodIn wsL_law wsL_layersByFollowing := goodIn_ca (goodIn_r _ [434, 64, 435, 436, 437, 2, 438, 24, 397, 23, 392, 439, 153, 150, 154, 170, 171, 172, 173, 76, 77, 17, 174, 175, 176, 177, 19, 398, 399, 400, 22, 401, 32, 33, 402, 34, 403, 404, 405, 406, 407, 408, 409, 410, 149, 151, 411, 574, 575, 576, 577, 578, 579, 580, 581, 609, 610, 611, 612, 613, 614, 615, 602, 603, 604] (by decide +kernel) (by decide +kernel)) (goodIn_sub (fun _ h => List.mem_append_left _ (List.mem_append_right _ h)) (by decide +kernel))
set_option maxRecDepth 20000 in
theorem gL_law_L_layersByFollowing : GoodIn wsL_law (va_wsS RL 134 yL_layersByFollowing wsL_layersByFollowing) := goodIn_app (goodIn_of _ (by decide +kernel)) ggL_law_L_layersByFollowing
set_option maxRecDepth 20000 in
theorem ggL_law_X5_layersByFollowing : GoodIn wsL_law wsX5_layersByFollowing := goodIn_r _ [443, 258, 259, 260, 5, 261, 159, 88, 89, 90, 91, 368, 369, 370, 371, 225, 58, 226, 227, 228, 229, 48, 55, 56, 57, 230, 49, 52, 53, 231, 232, 233, 234, 235, 236, 237, 238, 582, 583, 584, 585, 586, 587, 588, 589, 590, 591, 592, 593, 594, 595, 596, 597, 598, 599, 600, 601] (by decide +kernel) (by decide +kernel)
set_option maxRecDepth 20000 in
theorem gL_law_X5_layersByFollowing : GoodIn wsL_law (wsV RL 136 RX5 yX5_layersByFollowing wsX5_layersByFollowing) := goodIn_app (goodIn_of _ (by decide +kernel)) ggL_law_X5_layersByFollowing
set_option maxRecDepth 20000 in
theorem ggL_law_L_bears : GoodIn wsL_law wsL_bears := goodIn_ca (goodIn_ca (goodIn_r _ [446, 64, 65, 447, 448, 449, 2, 450, 70, 71, 439, 153, 150, 154, 167, 170, 171, 172, 173, 76, 77, 17, 174, 175, 176, 177, 19, 360, 361, 362, 133, 363, 143, 152, 197, 198, 199, 200, 139, 201, 202, 203, 204, 609, 610, 611, 612, 613, 614, 615, 574, 575, 576, 577, 578, 579, 580, 581, 616, 617, 618, 619, 620, 621] (by decide +kernel) (by decide +kernel)) (goodIn_sub (fun _ h => List.mem_append_left _ (List.mem_append_left _ (List.mem_append_right _ h))) (by decide +kernel))) (goodIn_sub (fun _ h => List.mem_append_left _ (List.mem_append_right _ h)) (by decide +kernel))
set_option maxRecDepth 20000 in
theorem gL_law_L_bears : GoodIn wsL_law (va_wsS RL 137 yL_bears wsL_bears) := goodIn_app (goodIn_of _ (by decide +kernel)) ggL_law_L_bears
set_option maxRecDepth 20000 in
theorem ggL_law_X5_bears : GoodIn wsL_law wsX5_bears := goodIn_r _ [454, 88, 230, 258, 259, 260, 5, 261, 159, 89, 90, 91, 226, 227, 228, 229, 48, 55, 56, 57, 225, 49, 52, 53, 231, 232, 233, 234, 58, 235, 236, 237, 238, 582, 583, 584, 585, 586, 587, 588, 589, 590, 591, 592, 593, 594, 595, 596, 597, 598, 599, 600, 601] (by decide +kernel) (by decide +kernel)
set_option maxRecDepth 20000 in
theorem gL_law_X5_bears : GoodIn wsL_law (wsV RL 139 RX5 yX5_bears wsX5_bears) := goodIn_app (goodIn_of _ (by decide +kernel)) ggL_law_X5_bears
set_option maxRecDepth 20000 in
theorem ggL_law_L_kindsOf : GoodIn wsL_law wsL_kindsOf := goodIn_ca (goodIn_r _ [457, 64, 458, 459, 460, 2, 461, 174, 175, 176, 177, 76, 77, 19, 462, 463, 464, 465, 269, 270, 271, 272, 18, 78, 79, 80, 81, 82, 83, 170, 171, 172, 173, 17, 178, 179, 180, 115, 181, 128, 124, 574, 575, 576, 577, 578, 579, 580, 581, 609, 610, 611, 612, 613, 614, 615] (by decide +kernel) (by decide +kernel)) (goodIn_sub (fun _ h => List.mem_append_left _ (List.mem_append_right _ h)) (by decide +kernel))
set_option maxRecDepth 20000 in
theorem gL_law_L_kindsOf : GoodIn wsL_law (va_wsS RL 140 yL_kindsOf wsL_kindsOf) := goodIn_app (goodIn_of _ (by decide +kernel)) ggL_law_L_kindsOf
set_option maxRecDepth 20000 in
theorem ggL_law_X5_kindsOf : GoodIn wsL_law wsX5_kindsOf := goodIn_r _ [469, 258, 259, 260, 5, 261, 159, 88, 89, 90, 91, 470, 471, 472, 473, 277, 278, 279, 280, 50, 239, 240, 241, 242, 49, 51, 582, 583, 584, 585, 586, 587, 588, 589, 590, 591, 592, 593, 594, 595, 596, 597, 598, 599, 600, 601] (by decide +kernel) (by decide +kernel)
set_option maxRecDepth 20000 in
theorem gL_law_X5_kindsOf : GoodIn wsL_law (wsV RL 142 RX5 yX5_kindsOf wsX5_kindsOf) := goodIn_app (goodIn_of _ (by decide +kernel)) ggL_law_X5_kindsOf
set_option maxRecDepth 20000 in
theorem ggL_law_L_mayFold : GoodIn wsL_law wsL_mayFold := goodIn_ca (goodIn_r _ [476, 64, 477, 478, 479, 2, 480, 15, 305, 306, 307, 308, 76, 77, 174, 175, 176, 177, 19, 462, 463, 464, 465, 269, 270, 271, 272, 18, 78, 79, 80, 81, 82, 83, 170, 171, 172, 173, 17, 178, 179, 180, 115, 181, 128, 124, 182, 183, 184, 574, 575, 576, 577, 578, 579, 580, 581, 609, 610, 611, 612, 613, 614, 615] (by decide +kernel) (by decide +kernel)) (goodIn_sub (fun _ h => List.mem_append_left _ (List.mem_append_right _ h)) (by decide +kernel))
set_option maxRecDepth 20000 in
theorem gL_law_L_mayFold : GoodIn wsL_law (va_wsS RL 143 yL_mayFold wsL_mayFold) := goodIn_app (goodIn_of _ (by decide +kernel)) ggL_law_L_mayFold
set_option maxRecDepth 20000 in
theorem ggL_law_X5_mayFold : GoodIn wsL_law wsX5_mayFold := goodIn_r _ [484, 54, 485, 486, 487, 5, 488, 159, 88, 89, 90, 91, 470, 471, 472, 473, 277, 278, 279, 280, 50, 239, 240, 241, 242, 49, 51, 582, 583, 584, 585, 586, 587, 588, 589, 590, 591, 592, 593, 594, 595, 596, 597, 598, 599, 600, 601] (by decide +kernel) (by decide +kernel)
set_option maxRecDepth 20000 in
theorem gL_law_X5_mayFold : GoodIn wsL_law (wsV RL 145 RX5 yX5_mayFold wsX5_mayFold) := goodIn_app (goodIn_of _ (by decide +kernel)) ggL_law_X5_mayFold
set_option maxRecDepth 20000 in
theorem ggL_law_L_lessons : GoodIn wsL_law wsL_lessons := goodIn_ca (goodIn_r _ [491, 64, 492, 493, 494, 2, 495, 15, 14, 305, 306, 307, 308, 76, 77, 174, 175, 176, 177, 19, 462, 463, 464, 465, 269, 270, 271, 272, 18, 78, 79, 80, 81, 82, 83, 170, 171, 172, 173, 17, 178, 179, 180, 115, 181, 128, 124, 309, 310, 311, 312, 313, 314, 315, 574, 575, 576, 577, 578, 579, 580, 581, 609, 610, 611, 612, 613, 614, 615] (by decide +kernel) (by decide +kernel)) (goodIn_sub (fun _ h => List.mem_append_left _ (List.mem_append_right _ h)) (by decide +kernel))
set_option maxRecDepth 20000 in
theorem gL_law_L_lessons : GoodIn wsL_law (va_wsS RL 146 yL_lessons wsL_lessons) := goodIn_app (goodIn_of _ (by decide +kernel)) ggL_law_L_lessons
set_option maxRecDepth 20000 in
theorem ggL_law_X5_lessons : GoodIn wsL_law wsX5_lessons := goodIn_r _ [499, 54, 46, 485, 486, 487, 5, 488, 159, 88, 89, 90, 91, 470, 471, 472, 473, 277, 278, 279, 280, 50, 239, 240, 241, 242, 49, 51, 320, 321, 322, 582, 583, 584, 585, 586, 587, 588, 589, 590, 591, 592, 593, 594, 595, 596, 597, 598, 599, 600, 601] (by decide +kernel) (by decide +kernel)
set_option maxRecDepth 20000 in
theorem gL_law_X5_lessons : GoodIn wsL_law (wsV RL 148 RX5 yX5_lessons wsX5_lessons) := goodIn_app (goodIn_of _ (by decide +kernel)) ggL_law_X5_lessons
set_option maxRecDepth 20000 in
theorem ggL_law_L_credit : GoodIn wsL_law wsL_credit := goodIn_ca (goodIn_r _ [502, 64, 503, 504, 505, 2, 506, 19, 116, 117, 118, 119, 76, 77, 507, 508, 509, 510, 511, 170, 171, 172, 173, 17, 174, 175, 176, 177, 81, 82, 83, 269, 270, 271, 272, 18, 78, 79, 80, 574, 575, 576, 577, 578, 579, 580, 581, 609, 610, 611, 612, 613, 614, 615] (by decide +kernel) (by decide +kernel)) (goodIn_sub (fun _ h => List.mem_append_left _ (List.mem_append_right _ h)) (by decide +kernel))
set_option maxRecDepth 20000 in
theorem gL_law_L_credit : GoodIn wsL_law (va_wsS RL 149 yL_credit wsL_credit) := goodIn_app (goodIn_of _ (by decide +kernel)) ggL_law_L_credit
set_option maxRecDepth 20000 in
theorem ggL_law_X5_credit : GoodIn wsL_law wsX5_credit := goodIn_r _ [515, 88, 159, 47, 89, 90, 5, 91, 277, 278, 279, 280, 50, 582, 583, 584, 585, 586, 587, 588, 589, 590, 591, 592, 593, 594, 595, 596, 597, 598, 599, 600, 601] (by decide +kernel) (by decide +kernel)
set_option maxRecDepth 20000 in
theorem gL_law_X5_credit : GoodIn wsL_law (wsV RL 151 RX5 yX5_credit wsX5_credit) := goodIn_app (goodIn_of _ (by decide +kernel)) ggL_law_X5_credit
set_option maxRecDepth 20000 in
theorem ggL_law_X4_fewestPieces : GoodIn wsL_law wsX4_fewestPieces := goodIn_r _ [519, 28, 520, 521, 522, 27, 523, 40, 38, 524, 525, 526, 527, 528, 529, 530, 531, 532, 533, 534, 535, 39, 82, 2, 83, 574, 575, 576, 577, 578, 579, 580, 581, 605, 606, 607, 608] (by decide +kernel) (by decide +kernel)
set_option maxRecDepth 20000 in
theorem gL_law_X4_fewestPieces : GoodIn wsL_law (wsV RL 152 RX4 yX4_fewestPieces wsX4_fewestPieces) := goodIn_app (goodIn_of _ (by decide +kernel)) ggL_law_X4_fewestPieces
set_option maxRecDepth 20000 in
theorem ggL_law_X5_fewestPieces : GoodIn wsL_law wsX5_fewestPieces := goodIn_r _ [539, 88, 59, 296, 540, 541, 542, 5, 543, 297, 582, 583, 584, 585, 586, 587, 588, 589, 590, 591, 592, 593, 594, 595, 596, 597, 598, 599, 600, 601] (by decide +kernel) (by decide +kernel)
set_option maxRecDepth 20000 in
theorem gL_law_X5_fewestPieces : GoodIn wsL_law (wsV RL 155 RX5 yX5_fewestPieces wsX5_fewestPieces) := goodIn_app (goodIn_of _ (by decide +kernel)) ggL_law_X5_fewestPieces
set_option maxRecDepth 20000 in
theorem ggL_law_X4_ways : GoodIn wsL_law wsX4_ways := goodIn_r _ [547, 28, 548, 549, 550, 27, 551, 41, 38, 532, 533, 534, 535, 39, 82, 2, 83, 552, 553, 554, 555, 556, 574, 575, 576, 577, 578, 579, 580, 581, 605, 606, 607, 608] (by decide +kernel) (by decide +kernel)
set_option maxRecDepth 20000 in
theorem gL_law_X4_ways : GoodIn wsL_law (wsV RL 156 RX4 yX4_ways wsX4_ways) := goodIn_app (goodIn_of _ (by decide +kernel)) ggL_law_X4_ways
set_option maxRecDepth 20000 in
theorem ggL_law_X5_ways : GoodIn wsL_law wsX5_ways := goodIn_r _ [560, 88, 296, 59, 297, 561, 582, 583, 584, 585, 586, 587, 588, 589, 590, 591, 592, 593, 594, 595, 596, 597, 598, 599, 600, 601] (by decide +kernel) (by decide +kernel)
set_option maxRecDepth 20000 in
theorem gL_law_X5_ways : GoodIn wsL_law (wsV RL 159 RX5 yX5_ways wsX5_ways) := goodIn_app (goodIn_of _ (by decide +kernel)) ggL_law_X5_ways
set_option maxRecDepth 20000 in
theorem ggL_law_X4_leastRest : GoodIn wsL_law wsX4_leastRest := goodIn_r _ [565, 28, 566, 567, 568, 27, 569, 38, 40, 524, 525, 526, 527, 528, 529, 530, 531, 532, 533, 534, 535, 39, 82, 2, 83, 574, 575, 576, 577, 578, 579, 580, 581, 605, 606, 607, 608] (by decide +kernel) (by decide +kernel)
set_option maxRecDepth 20000 in
theorem gL_law_X4_leastRest : GoodIn wsL_law (wsV RL 160 RX4 yX4_leastRest wsX4_leastRest) := goodIn_app (goodIn_of _ (by decide +kernel)) ggL_law_X4_leastRest
set_option maxRecDepth 20000 in
theorem ggL_law_X5_leastRest : GoodIn wsL_law wsX5_leastRest := goodIn_r _ [573, 88, 59, 296, 540, 541, 542, 5, 543, 297, 582, 583, 584, 585, 586, 587, 588, 589, 590, 591, 592, 593, 594, 595, 596, 597, 598, 599, 600, 601] (by decide +kernel) (by decide +kernel)
set_option maxRecDepth 20000 in
theorem gL_law_X5_leastRest : GoodIn wsL_law (wsV RL 163 RX5 yX5_leastRest wsX5_leastRest) := goodIn_app (goodIn_of _ (by decide +kernel)) ggL_law_X5_leastRest
theorem dL_law_0 : decode cL_law 0 = .ok (.new 8, 3) := by decide +kernel
theorem dL_law_3 : decode cL_law 3 = .ok (.dup, 1) := by decide +kernel
theorem dL_law_4 : decode cL_law 4 = .ok (.invokespecial 77, 3) := by decide +kernel
theorem dL_law_7 : decode cL_law 7 = .ok (.astore_n 1, 1) := by decide +kernel
theorem dL_law_8 : decode cL_law 8 = .ok (.new 78, 3) := by decide +kernel
theorem dL_law_11 : decode cL_law 11 = .ok (.dup, 1) := by decide +kernel
theorem dL_law_12 : decode cL_law 12 = .ok (.invokespecial 80, 3) := by decide +kernel
theorem dL_law_15 : decode cL_law 15 = .ok (.astore_n 2, 1) := by decide +kernel
theorem dL_law_16 : decode cL_law 16 = .ok (.iconst 1, 1) := by decide +kernel
theorem dL_law_17 : decode cL_law 17 = .ok (.newarray .long, 2) := by decide +kernel
theorem dL_law_19 : decode cL_law 19 = .ok (.astore_n 3, 1) := by decide +kernel
theorem dL_law_20 : decode cL_law 20 = .ok (.iconst 0, 1) := by decide +kernel
theorem dL_law_21 : decode cL_law 21 = .ok (.istore 4, 2) := by decide +kernel
theorem dL_law_23 : decode cL_law 23 = .ok (.iload 4, 2) := by decide +kernel
theorem dL_law_25 : decode cL_law 25 = .ok (.aload_n 0, 1) := by decide +kernel
theorem dL_law_26 : decode cL_law 26 = .ok (.arraylength, 1) := by decide +kernel
theorem dL_law_27 : decode cL_law 27 = .ok (.iconst 5, 1) := by decide +kernel
theorem dL_law_28 : decode cL_law 28 = .ok (.isub, 1) := by decide +kernel
theorem dL_law_29 : decode cL_law 29 = .ok (.if_icmp .gt 1461, 3) := by decide +kernel
theorem dL_law_32 : decode cL_law 32 = .ok (.aload_n 0, 1) := by decide +kernel
theorem dL_law_33 : decode cL_law 33 = .ok (.iload 4, 2) := by decide +kernel
theorem dL_law_35 : decode cL_law 35 = .ok (.iaload, 1) := by decide +kernel
theorem dL_law_36 : decode cL_law 36 = .ok (.bipush 31, 2) := by decide +kernel
theorem dL_law_38 : decode cL_law 38 = .ok (.iand, 1) := by decide +kernel
theorem dL_law_39 : decode cL_law 39 = .ok (.tableswitch 1445 0 22 #[105, 173, 241, 349, 405, 480, 548, 616, 629, 685, 741, 797, 877, 945, 1020, 1076, 1151, 1207, 1282, 1350, 1406, 1419, 1432], 105) := by decide +kernel
theorem dL_law_144 : decode cL_law 144 = .ok (.aload_n 1, 1) := by decide +kernel
theorem dL_law_145 : decode cL_law 145 = .ok (.aload_n 0, 1) := by decide +kernel
theorem dL_law_146 : decode cL_law 146 = .ok (.iload 4, 2) := by decide +kernel
theorem dL_law_148 : decode cL_law 148 = .ok (.iconst 1, 1) := by decide +kernel
theorem dL_law_149 : decode cL_law 149 = .ok (.iadd, 1) := by decide +kernel
theorem dL_law_150 : decode cL_law 150 = .ok (.iaload, 1) := by decide +kernel
theorem dL_law_151 : decode cL_law 151 = .ok (.aload_n 0, 1) := by decide +kernel
theorem dL_law_152 : decode cL_law 152 = .ok (.iload 4, 2) := by decide +kernel
theorem dL_law_154 : decode cL_law 154 = .ok (.iconst 2, 1) := by decide +kernel
theorem dL_law_155 : decode cL_law 155 = .ok (.iadd, 1) := by decide +kernel
theorem dL_law_156 : decode cL_law 156 = .ok (.iaload, 1) := by decide +kernel
theorem dL_law_157 : decode cL_law 157 = .ok (.aload_n 3, 1) := by decide +kernel
theorem dL_law_158 : decode cL_law 158 = .ok (.invokestatic 81, 3) := by decide +kernel
theorem dL_law_161 : decode cL_law 161 = .ok (.istore 5, 2) := by decide +kernel
theorem dL_law_163 : decode cL_law 163 = .ok (.aload_n 2, 1) := by decide +kernel
theorem dL_law_164 : decode cL_law 164 = .ok (.aload_n 0, 1) := by decide +kernel
theorem dL_law_165 : decode cL_law 165 = .ok (.iload 4, 2) := by decide +kernel
theorem dL_law_167 : decode cL_law 167 = .ok (.iconst 1, 1) := by decide +kernel
theorem dL_law_168 : decode cL_law 168 = .ok (.iadd, 1) := by decide +kernel
theorem dL_law_169 : decode cL_law 169 = .ok (.iaload, 1) := by decide +kernel
theorem dL_law_170 : decode cL_law 170 = .ok (.aload_n 0, 1) := by decide +kernel
theorem dL_law_171 : decode cL_law 171 = .ok (.iload 4, 2) := by decide +kernel
theorem dL_law_173 : decode cL_law 173 = .ok (.iconst 2, 1) := by decide +kernel
theorem dL_law_174 : decode cL_law 174 = .ok (.iadd, 1) := by decide +kernel
theorem dL_law_175 : decode cL_law 175 = .ok (.iaload, 1) := by decide +kernel
theorem dL_law_176 : decode cL_law 176 = .ok (.invokevirtual 86, 3) := by decide +kernel
theorem dL_law_179 : decode cL_law 179 = .ok (.istore 6, 2) := by decide +kernel
theorem dL_law_181 : decode cL_law 181 = .ok (.aload_n 2, 1) := by decide +kernel
theorem dL_law_182 : decode cL_law 182 = .ok (.invokevirtual 87, 3) := by decide +kernel
theorem dL_law_185 : decode cL_law 185 = .ok (.iload 5, 2) := by decide +kernel
theorem dL_law_187 : decode cL_law 187 = .ok (.if_icmp .eq 5, 3) := by decide +kernel
theorem dL_law_190 : decode cL_law 190 = .ok (.iconst 0, 1) := by decide +kernel
theorem dL_law_191 : decode cL_law 191 = .ok (.ireturn, 1) := by decide +kernel
theorem dL_law_192 : decode cL_law 192 = .ok (.iload 5, 2) := by decide +kernel
theorem dL_law_194 : decode cL_law 194 = .ok (.ifCond .ne 15, 3) := by decide +kernel
theorem dL_law_197 : decode cL_law 197 = .ok (.aload_n 3, 1) := by decide +kernel
theorem dL_law_198 : decode cL_law 198 = .ok (.iconst 0, 1) := by decide +kernel
theorem dL_law_199 : decode cL_law 199 = .ok (.laload, 1) := by decide +kernel
theorem dL_law_200 : decode cL_law 200 = .ok (.iload 6, 2) := by decide +kernel
theorem dL_law_202 : decode cL_law 202 = .ok (.i2l, 1) := by decide +kernel
theorem dL_law_203 : decode cL_law 203 = .ok (.lcmp, 1) := by decide +kernel
theorem dL_law_204 : decode cL_law 204 = .ok (.ifCond .eq 5, 3) := by decide +kernel
theorem dL_law_207 : decode cL_law 207 = .ok (.iconst 0, 1) := by decide +kernel
theorem dL_law_208 : decode cL_law 208 = .ok (.ireturn, 1) := by decide +kernel
theorem dL_law_209 : decode cL_law 209 = .ok (.goto 1275, 3) := by decide +kernel
theorem dL_law_212 : decode cL_law 212 = .ok (.aload_n 1, 1) := by decide +kernel
theorem dL_law_213 : decode cL_law 213 = .ok (.aload_n 0, 1) := by decide +kernel
theorem dL_law_214 : decode cL_law 214 = .ok (.iload 4, 2) := by decide +kernel
theorem dL_law_216 : decode cL_law 216 = .ok (.iconst 1, 1) := by decide +kernel
theorem dL_law_217 : decode cL_law 217 = .ok (.iadd, 1) := by decide +kernel
theorem dL_law_218 : decode cL_law 218 = .ok (.iaload, 1) := by decide +kernel
theorem dL_law_219 : decode cL_law 219 = .ok (.aload_n 0, 1) := by decide +kernel
theorem dL_law_220 : decode cL_law 220 = .ok (.iload 4, 2) := by decide +kernel
theorem dL_law_222 : decode cL_law 222 = .ok (.iconst 2, 1) := by decide +kernel
theorem dL_law_223 : decode cL_law 223 = .ok (.iadd, 1) := by decide +kernel
theorem dL_law_224 : decode cL_law 224 = .ok (.iaload, 1) := by decide +kernel
theorem dL_law_225 : decode cL_law 225 = .ok (.aload_n 3, 1) := by decide +kernel
theorem dL_law_226 : decode cL_law 226 = .ok (.invokestatic 91, 3) := by decide +kernel
theorem dL_law_229 : decode cL_law 229 = .ok (.istore 5, 2) := by decide +kernel
theorem dL_law_231 : decode cL_law 231 = .ok (.aload_n 2, 1) := by decide +kernel
theorem dL_law_232 : decode cL_law 232 = .ok (.aload_n 0, 1) := by decide +kernel
theorem dL_law_233 : decode cL_law 233 = .ok (.iload 4, 2) := by decide +kernel
theorem dL_law_235 : decode cL_law 235 = .ok (.iconst 1, 1) := by decide +kernel
theorem dL_law_236 : decode cL_law 236 = .ok (.iadd, 1) := by decide +kernel
theorem dL_law_237 : decode cL_law 237 = .ok (.iaload, 1) := by decide +kernel
theorem dL_law_238 : decode cL_law 238 = .ok (.aload_n 0, 1) := by decide +kernel
theorem dL_law_239 : decode cL_law 239 = .ok (.iload 4, 2) := by decide +kernel
theorem dL_law_241 : decode cL_law 241 = .ok (.iconst 2, 1) := by decide +kernel
theorem dL_law_242 : decode cL_law 242 = .ok (.iadd, 1) := by decide +kernel
theorem dL_law_243 : decode cL_law 243 = .ok (.iaload, 1) := by decide +kernel
theorem dL_law_244 : decode cL_law 244 = .ok (.invokevirtual 93, 3) := by decide +kernel
theorem dL_law_247 : decode cL_law 247 = .ok (.istore 6, 2) := by decide +kernel
theorem dL_law_249 : decode cL_law 249 = .ok (.aload_n 2, 1) := by decide +kernel
theorem dL_law_250 : decode cL_law 250 = .ok (.invokevirtual 87, 3) := by decide +kernel
theorem dL_law_253 : decode cL_law 253 = .ok (.iload 5, 2) := by decide +kernel
theorem dL_law_255 : decode cL_law 255 = .ok (.if_icmp .eq 5, 3) := by decide +kernel
theorem dL_law_258 : decode cL_law 258 = .ok (.iconst 0, 1) := by decide +kernel
theorem dL_law_259 : decode cL_law 259 = .ok (.ireturn, 1) := by decide +kernel
theorem dL_law_260 : decode cL_law 260 = .ok (.iload 5, 2) := by decide +kernel
theorem dL_law_262 : decode cL_law 262 = .ok (.ifCond .ne 15, 3) := by decide +kernel
theorem dL_law_265 : decode cL_law 265 = .ok (.aload_n 3, 1) := by decide +kernel
theorem dL_law_266 : decode cL_law 266 = .ok (.iconst 0, 1) := by decide +kernel
theorem dL_law_267 : decode cL_law 267 = .ok (.laload, 1) := by decide +kernel
theorem dL_law_268 : decode cL_law 268 = .ok (.iload 6, 2) := by decide +kernel
theorem dL_law_270 : decode cL_law 270 = .ok (.i2l, 1) := by decide +kernel
theorem dL_law_271 : decode cL_law 271 = .ok (.lcmp, 1) := by decide +kernel
theorem dL_law_272 : decode cL_law 272 = .ok (.ifCond .eq 5, 3) := by decide +kernel
theorem dL_law_275 : decode cL_law 275 = .ok (.iconst 0, 1) := by decide +kernel
theorem dL_law_276 : decode cL_law 276 = .ok (.ireturn, 1) := by decide +kernel
theorem dL_law_277 : decode cL_law 277 = .ok (.goto 1207, 3) := by decide +kernel
theorem dL_law_280 : decode cL_law 280 = .ok (.aload_n 1, 1) := by decide +kernel
theorem dL_law_281 : decode cL_law 281 = .ok (.aload_n 0, 1) := by decide +kernel
theorem dL_law_282 : decode cL_law 282 = .ok (.iload 4, 2) := by decide +kernel
theorem dL_law_284 : decode cL_law 284 = .ok (.iconst 1, 1) := by decide +kernel
theorem dL_law_285 : decode cL_law 285 = .ok (.iadd, 1) := by decide +kernel
theorem dL_law_286 : decode cL_law 286 = .ok (.iaload, 1) := by decide +kernel
theorem dL_law_287 : decode cL_law 287 = .ok (.aload_n 0, 1) := by decide +kernel
theorem dL_law_288 : decode cL_law 288 = .ok (.iload 4, 2) := by decide +kernel
theorem dL_law_290 : decode cL_law 290 = .ok (.iconst 2, 1) := by decide +kernel
theorem dL_law_291 : decode cL_law 291 = .ok (.iadd, 1) := by decide +kernel
theorem dL_law_292 : decode cL_law 292 = .ok (.iaload, 1) := by decide +kernel
theorem dL_law_293 : decode cL_law 293 = .ok (.aload_n 0, 1) := by decide +kernel
theorem dL_law_294 : decode cL_law 294 = .ok (.iload 4, 2) := by decide +kernel
theorem dL_law_296 : decode cL_law 296 = .ok (.iconst 3, 1) := by decide +kernel
theorem dL_law_297 : decode cL_law 297 = .ok (.iadd, 1) := by decide +kernel
theorem dL_law_298 : decode cL_law 298 = .ok (.iaload, 1) := by decide +kernel
theorem dL_law_299 : decode cL_law 299 = .ok (.aload_n 0, 1) := by decide +kernel
theorem dL_law_300 : decode cL_law 300 = .ok (.iload 4, 2) := by decide +kernel
theorem dL_law_302 : decode cL_law 302 = .ok (.iconst 4, 1) := by decide +kernel
theorem dL_law_303 : decode cL_law 303 = .ok (.iadd, 1) := by decide +kernel
theorem dL_law_304 : decode cL_law 304 = .ok (.iaload, 1) := by decide +kernel
theorem dL_law_305 : decode cL_law 305 = .ok (.ifCond .eq 7, 3) := by decide +kernel
theorem dL_law_308 : decode cL_law 308 = .ok (.iconst 1, 1) := by decide +kernel
theorem dL_law_309 : decode cL_law 309 = .ok (.goto 4, 3) := by decide +kernel
theorem dL_law_312 : decode cL_law 312 = .ok (.iconst 0, 1) := by decide +kernel
theorem dL_law_313 : decode cL_law 313 = .ok (.aload_n 3, 1) := by decide +kernel
theorem dL_law_314 : decode cL_law 314 = .ok (.invokestatic 94, 3) := by decide +kernel
theorem dL_law_317 : decode cL_law 317 = .ok (.istore 5, 2) := by decide +kernel
theorem dL_law_319 : decode cL_law 319 = .ok (.aload_n 2, 1) := by decide +kernel
theorem dL_law_320 : decode cL_law 320 = .ok (.aload_n 0, 1) := by decide +kernel
theorem dL_law_321 : decode cL_law 321 = .ok (.iload 4, 2) := by decide +kernel
theorem dL_law_323 : decode cL_law 323 = .ok (.iconst 1, 1) := by decide +kernel
theorem dL_law_324 : decode cL_law 324 = .ok (.iadd, 1) := by decide +kernel
theorem dL_law_325 : decode cL_law 325 = .ok (.iaload, 1) := by decide +kernel
theorem dL_law_326 : decode cL_law 326 = .ok (.aload_n 0, 1) := by decide +kernel
theorem dL_law_327 : decode cL_law 327 = .ok (.iload 4, 2) := by decide +kernel
theorem dL_law_329 : decode cL_law 329 = .ok (.iconst 2, 1) := by decide +kernel
theorem dL_law_330 : decode cL_law 330 = .ok (.iadd, 1) := by decide +kernel
theorem dL_law_331 : decode cL_law 331 = .ok (.iaload, 1) := by decide +kernel
theorem dL_law_332 : decode cL_law 332 = .ok (.aload_n 0, 1) := by decide +kernel
theorem dL_law_333 : decode cL_law 333 = .ok (.iload 4, 2) := by decide +kernel
theorem dL_law_335 : decode cL_law 335 = .ok (.iconst 3, 1) := by decide +kernel
theorem dL_law_336 : decode cL_law 336 = .ok (.iadd, 1) := by decide +kernel
theorem dL_law_337 : decode cL_law 337 = .ok (.iaload, 1) := by decide +kernel
theorem dL_law_338 : decode cL_law 338 = .ok (.aload_n 0, 1) := by decide +kernel
theorem dL_law_339 : decode cL_law 339 = .ok (.iload 4, 2) := by decide +kernel
theorem dL_law_341 : decode cL_law 341 = .ok (.iconst 4, 1) := by decide +kernel
theorem dL_law_342 : decode cL_law 342 = .ok (.iadd, 1) := by decide +kernel
theorem dL_law_343 : decode cL_law 343 = .ok (.iaload, 1) := by decide +kernel
theorem dL_law_344 : decode cL_law 344 = .ok (.ifCond .eq 7, 3) := by decide +kernel
theorem dL_law_347 : decode cL_law 347 = .ok (.iconst 1, 1) := by decide +kernel
theorem dL_law_348 : decode cL_law 348 = .ok (.goto 4, 3) := by decide +kernel
theorem dL_law_351 : decode cL_law 351 = .ok (.iconst 0, 1) := by decide +kernel
theorem dL_law_352 : decode cL_law 352 = .ok (.invokevirtual 97, 3) := by decide +kernel
theorem dL_law_355 : decode cL_law 355 = .ok (.istore 6, 2) := by decide +kernel
theorem dL_law_357 : decode cL_law 357 = .ok (.aload_n 2, 1) := by decide +kernel
theorem dL_law_358 : decode cL_law 358 = .ok (.invokevirtual 87, 3) := by decide +kernel
theorem dL_law_361 : decode cL_law 361 = .ok (.iload 5, 2) := by decide +kernel
theorem dL_law_363 : decode cL_law 363 = .ok (.if_icmp .eq 5, 3) := by decide +kernel
theorem dL_law_366 : decode cL_law 366 = .ok (.iconst 0, 1) := by decide +kernel
theorem dL_law_367 : decode cL_law 367 = .ok (.ireturn, 1) := by decide +kernel
theorem dL_law_368 : decode cL_law 368 = .ok (.iload 5, 2) := by decide +kernel
theorem dL_law_370 : decode cL_law 370 = .ok (.ifCond .ne 15, 3) := by decide +kernel
theorem dL_law_373 : decode cL_law 373 = .ok (.aload_n 3, 1) := by decide +kernel
theorem dL_law_374 : decode cL_law 374 = .ok (.iconst 0, 1) := by decide +kernel
theorem dL_law_375 : decode cL_law 375 = .ok (.laload, 1) := by decide +kernel
theorem dL_law_376 : decode cL_law 376 = .ok (.iload 6, 2) := by decide +kernel
theorem dL_law_378 : decode cL_law 378 = .ok (.i2l, 1) := by decide +kernel
theorem dL_law_379 : decode cL_law 379 = .ok (.lcmp, 1) := by decide +kernel
theorem dL_law_380 : decode cL_law 380 = .ok (.ifCond .eq 5, 3) := by decide +kernel
theorem dL_law_383 : decode cL_law 383 = .ok (.iconst 0, 1) := by decide +kernel
theorem dL_law_384 : decode cL_law 384 = .ok (.ireturn, 1) := by decide +kernel
theorem dL_law_385 : decode cL_law 385 = .ok (.goto 1099, 3) := by decide +kernel
theorem dL_law_388 : decode cL_law 388 = .ok (.aload_n 1, 1) := by decide +kernel
theorem dL_law_389 : decode cL_law 389 = .ok (.aload_n 0, 1) := by decide +kernel
theorem dL_law_390 : decode cL_law 390 = .ok (.iload 4, 2) := by decide +kernel
theorem dL_law_392 : decode cL_law 392 = .ok (.iconst 1, 1) := by decide +kernel
theorem dL_law_393 : decode cL_law 393 = .ok (.iadd, 1) := by decide +kernel
theorem dL_law_394 : decode cL_law 394 = .ok (.iaload, 1) := by decide +kernel
theorem dL_law_395 : decode cL_law 395 = .ok (.aload_n 3, 1) := by decide +kernel
theorem dL_law_396 : decode cL_law 396 = .ok (.invokestatic 98, 3) := by decide +kernel
theorem dL_law_399 : decode cL_law 399 = .ok (.istore 5, 2) := by decide +kernel
theorem dL_law_401 : decode cL_law 401 = .ok (.aload_n 2, 1) := by decide +kernel
theorem dL_law_402 : decode cL_law 402 = .ok (.aload_n 0, 1) := by decide +kernel
theorem dL_law_403 : decode cL_law 403 = .ok (.iload 4, 2) := by decide +kernel
theorem dL_law_405 : decode cL_law 405 = .ok (.iconst 1, 1) := by decide +kernel
theorem dL_law_406 : decode cL_law 406 = .ok (.iadd, 1) := by decide +kernel
theorem dL_law_407 : decode cL_law 407 = .ok (.iaload, 1) := by decide +kernel
theorem dL_law_408 : decode cL_law 408 = .ok (.invokevirtual 101, 3) := by decide +kernel
theorem dL_law_411 : decode cL_law 411 = .ok (.istore 6, 2) := by decide +kernel
theorem dL_law_413 : decode cL_law 413 = .ok (.aload_n 2, 1) := by decide +kernel
theorem dL_law_414 : decode cL_law 414 = .ok (.invokevirtual 87, 3) := by decide +kernel
theorem dL_law_417 : decode cL_law 417 = .ok (.iload 5, 2) := by decide +kernel
theorem dL_law_419 : decode cL_law 419 = .ok (.if_icmp .eq 5, 3) := by decide +kernel
theorem dL_law_422 : decode cL_law 422 = .ok (.iconst 0, 1) := by decide +kernel
theorem dL_law_423 : decode cL_law 423 = .ok (.ireturn, 1) := by decide +kernel
theorem dL_law_424 : decode cL_law 424 = .ok (.iload 5, 2) := by decide +kernel
theorem dL_law_426 : decode cL_law 426 = .ok (.ifCond .ne 15, 3) := by decide +kernel
theorem dL_law_429 : decode cL_law 429 = .ok (.aload_n 3, 1) := by decide +kernel
theorem dL_law_430 : decode cL_law 430 = .ok (.iconst 0, 1) := by decide +kernel
theorem dL_law_431 : decode cL_law 431 = .ok (.laload, 1) := by decide +kernel
theorem dL_law_432 : decode cL_law 432 = .ok (.iload 6, 2) := by decide +kernel
theorem dL_law_434 : decode cL_law 434 = .ok (.i2l, 1) := by decide +kernel
theorem dL_law_435 : decode cL_law 435 = .ok (.lcmp, 1) := by decide +kernel
theorem dL_law_436 : decode cL_law 436 = .ok (.ifCond .eq 5, 3) := by decide +kernel
theorem dL_law_439 : decode cL_law 439 = .ok (.iconst 0, 1) := by decide +kernel
theorem dL_law_440 : decode cL_law 440 = .ok (.ireturn, 1) := by decide +kernel
theorem dL_law_441 : decode cL_law 441 = .ok (.goto 1043, 3) := by decide +kernel
theorem dL_law_444 : decode cL_law 444 = .ok (.aload_n 1, 1) := by decide +kernel
theorem dL_law_445 : decode cL_law 445 = .ok (.aload_n 0, 1) := by decide +kernel
theorem dL_law_446 : decode cL_law 446 = .ok (.iload 4, 2) := by decide +kernel
theorem dL_law_448 : decode cL_law 448 = .ok (.iconst 1, 1) := by decide +kernel
theorem dL_law_449 : decode cL_law 449 = .ok (.iadd, 1) := by decide +kernel
theorem dL_law_450 : decode cL_law 450 = .ok (.iaload, 1) := by decide +kernel
theorem dL_law_451 : decode cL_law 451 = .ok (.aload_n 0, 1) := by decide +kernel
theorem dL_law_452 : decode cL_law 452 = .ok (.iload 4, 2) := by decide +kernel
theorem dL_law_454 : decode cL_law 454 = .ok (.iconst 2, 1) := by decide +kernel
theorem dL_law_455 : decode cL_law 455 = .ok (.iadd, 1) := by decide +kernel
theorem dL_law_456 : decode cL_law 456 = .ok (.iaload, 1) := by decide +kernel
theorem dL_law_457 : decode cL_law 457 = .ok (.aload_n 3, 1) := by decide +kernel
theorem dL_law_458 : decode cL_law 458 = .ok (.invokestatic 102, 3) := by decide +kernel
theorem dL_law_461 : decode cL_law 461 = .ok (.istore 5, 2) := by decide +kernel
theorem dL_law_463 : decode cL_law 463 = .ok (.aload_n 2, 1) := by decide +kernel
theorem dL_law_464 : decode cL_law 464 = .ok (.aload_n 0, 1) := by decide +kernel
theorem dL_law_465 : decode cL_law 465 = .ok (.iload 4, 2) := by decide +kernel
theorem dL_law_467 : decode cL_law 467 = .ok (.iconst 1, 1) := by decide +kernel
theorem dL_law_468 : decode cL_law 468 = .ok (.iadd, 1) := by decide +kernel
theorem dL_law_469 : decode cL_law 469 = .ok (.iaload, 1) := by decide +kernel
theorem dL_law_470 : decode cL_law 470 = .ok (.aload_n 0, 1) := by decide +kernel
theorem dL_law_471 : decode cL_law 471 = .ok (.iload 4, 2) := by decide +kernel
theorem dL_law_473 : decode cL_law 473 = .ok (.iconst 2, 1) := by decide +kernel
theorem dL_law_474 : decode cL_law 474 = .ok (.iadd, 1) := by decide +kernel
theorem dL_law_475 : decode cL_law 475 = .ok (.iaload, 1) := by decide +kernel
theorem dL_law_476 : decode cL_law 476 = .ok (.invokevirtual 104, 3) := by decide +kernel
theorem dL_law_479 : decode cL_law 479 = .ok (.istore 6, 2) := by decide +kernel
theorem dL_law_481 : decode cL_law 481 = .ok (.aload_n 2, 1) := by decide +kernel
theorem dL_law_482 : decode cL_law 482 = .ok (.invokevirtual 87, 3) := by decide +kernel
theorem dL_law_485 : decode cL_law 485 = .ok (.iload 5, 2) := by decide +kernel
theorem dL_law_487 : decode cL_law 487 = .ok (.if_icmp .eq 5, 3) := by decide +kernel
theorem dL_law_490 : decode cL_law 490 = .ok (.iconst 0, 1) := by decide +kernel
theorem dL_law_491 : decode cL_law 491 = .ok (.ireturn, 1) := by decide +kernel
theorem dL_law_492 : decode cL_law 492 = .ok (.iload 5, 2) := by decide +kernel
theorem dL_law_494 : decode cL_law 494 = .ok (.ifCond .ne 22, 3) := by decide +kernel
theorem dL_law_497 : decode cL_law 497 = .ok (.aload_n 3, 1) := by decide +kernel
theorem dL_law_498 : decode cL_law 498 = .ok (.iconst 0, 1) := by decide +kernel
theorem dL_law_499 : decode cL_law 499 = .ok (.laload, 1) := by decide +kernel
theorem dL_law_500 : decode cL_law 500 = .ok (.iload 6, 2) := by decide +kernel
theorem dL_law_502 : decode cL_law 502 = .ok (.ifCond .eq 7, 3) := by decide +kernel
theorem dL_law_505 : decode cL_law 505 = .ok (.lconst 1, 1) := by decide +kernel
theorem dL_law_506 : decode cL_law 506 = .ok (.goto 4, 3) := by decide +kernel
theorem dL_law_509 : decode cL_law 509 = .ok (.lconst 0, 1) := by decide +kernel
theorem dL_law_510 : decode cL_law 510 = .ok (.lcmp, 1) := by decide +kernel
theorem dL_law_511 : decode cL_law 511 = .ok (.ifCond .eq 5, 3) := by decide +kernel
theorem dL_law_514 : decode cL_law 514 = .ok (.iconst 0, 1) := by decide +kernel
theorem dL_law_515 : decode cL_law 515 = .ok (.ireturn, 1) := by decide +kernel
theorem dL_law_516 : decode cL_law 516 = .ok (.goto 968, 3) := by decide +kernel
theorem dL_law_519 : decode cL_law 519 = .ok (.aload_n 1, 1) := by decide +kernel
theorem dL_law_520 : decode cL_law 520 = .ok (.aload_n 0, 1) := by decide +kernel
theorem dL_law_521 : decode cL_law 521 = .ok (.iload 4, 2) := by decide +kernel
theorem dL_law_523 : decode cL_law 523 = .ok (.iconst 1, 1) := by decide +kernel
theorem dL_law_524 : decode cL_law 524 = .ok (.iadd, 1) := by decide +kernel
theorem dL_law_525 : decode cL_law 525 = .ok (.iaload, 1) := by decide +kernel
theorem dL_law_526 : decode cL_law 526 = .ok (.aload_n 0, 1) := by decide +kernel
theorem dL_law_527 : decode cL_law 527 = .ok (.iload 4, 2) := by decide +kernel
theorem dL_law_529 : decode cL_law 529 = .ok (.iconst 2, 1) := by decide +kernel
theorem dL_law_530 : decode cL_law 530 = .ok (.iadd, 1) := by decide +kernel
theorem dL_law_531 : decode cL_law 531 = .ok (.iaload, 1) := by decide +kernel
theorem dL_law_532 : decode cL_law 532 = .ok (.aload_n 3, 1) := by decide +kernel
theorem dL_law_533 : decode cL_law 533 = .ok (.invokestatic 105, 3) := by decide +kernel
theorem dL_law_536 : decode cL_law 536 = .ok (.istore 5, 2) := by decide +kernel
theorem dL_law_538 : decode cL_law 538 = .ok (.aload_n 2, 1) := by decide +kernel
theorem dL_law_539 : decode cL_law 539 = .ok (.aload_n 0, 1) := by decide +kernel
theorem dL_law_540 : decode cL_law 540 = .ok (.iload 4, 2) := by decide +kernel
theorem dL_law_542 : decode cL_law 542 = .ok (.iconst 1, 1) := by decide +kernel
theorem dL_law_543 : decode cL_law 543 = .ok (.iadd, 1) := by decide +kernel
theorem dL_law_544 : decode cL_law 544 = .ok (.iaload, 1) := by decide +kernel
theorem dL_law_545 : decode cL_law 545 = .ok (.aload_n 0, 1) := by decide +kernel
theorem dL_law_546 : decode cL_law 546 = .ok (.iload 4, 2) := by decide +kernel
theorem dL_law_548 : decode cL_law 548 = .ok (.iconst 2, 1) := by decide +kernel
theorem dL_law_549 : decode cL_law 549 = .ok (.iadd, 1) := by decide +kernel
theorem dL_law_550 : decode cL_law 550 = .ok (.iaload, 1) := by decide +kernel
theorem dL_law_551 : decode cL_law 551 = .ok (.invokevirtual 107, 3) := by decide +kernel
theorem dL_law_554 : decode cL_law 554 = .ok (.istore 6, 2) := by decide +kernel
theorem dL_law_556 : decode cL_law 556 = .ok (.aload_n 2, 1) := by decide +kernel
theorem dL_law_557 : decode cL_law 557 = .ok (.invokevirtual 87, 3) := by decide +kernel
theorem dL_law_560 : decode cL_law 560 = .ok (.iload 5, 2) := by decide +kernel
theorem dL_law_562 : decode cL_law 562 = .ok (.if_icmp .eq 5, 3) := by decide +kernel
theorem dL_law_565 : decode cL_law 565 = .ok (.iconst 0, 1) := by decide +kernel
theorem dL_law_566 : decode cL_law 566 = .ok (.ireturn, 1) := by decide +kernel
theorem dL_law_567 : decode cL_law 567 = .ok (.iload 5, 2) := by decide +kernel
theorem dL_law_569 : decode cL_law 569 = .ok (.ifCond .ne 15, 3) := by decide +kernel
theorem dL_law_572 : decode cL_law 572 = .ok (.aload_n 3, 1) := by decide +kernel
theorem dL_law_573 : decode cL_law 573 = .ok (.iconst 0, 1) := by decide +kernel
theorem dL_law_574 : decode cL_law 574 = .ok (.laload, 1) := by decide +kernel
theorem dL_law_575 : decode cL_law 575 = .ok (.iload 6, 2) := by decide +kernel
theorem dL_law_577 : decode cL_law 577 = .ok (.i2l, 1) := by decide +kernel
theorem dL_law_578 : decode cL_law 578 = .ok (.lcmp, 1) := by decide +kernel
theorem dL_law_579 : decode cL_law 579 = .ok (.ifCond .eq 5, 3) := by decide +kernel
theorem dL_law_582 : decode cL_law 582 = .ok (.iconst 0, 1) := by decide +kernel
theorem dL_law_583 : decode cL_law 583 = .ok (.ireturn, 1) := by decide +kernel
theorem dL_law_584 : decode cL_law 584 = .ok (.goto 900, 3) := by decide +kernel
theorem dL_law_587 : decode cL_law 587 = .ok (.aload_n 1, 1) := by decide +kernel
theorem dL_law_588 : decode cL_law 588 = .ok (.aload_n 0, 1) := by decide +kernel
theorem dL_law_589 : decode cL_law 589 = .ok (.iload 4, 2) := by decide +kernel
theorem dL_law_591 : decode cL_law 591 = .ok (.iconst 1, 1) := by decide +kernel
theorem dL_law_592 : decode cL_law 592 = .ok (.iadd, 1) := by decide +kernel
theorem dL_law_593 : decode cL_law 593 = .ok (.iaload, 1) := by decide +kernel
theorem dL_law_594 : decode cL_law 594 = .ok (.aload_n 0, 1) := by decide +kernel
theorem dL_law_595 : decode cL_law 595 = .ok (.iload 4, 2) := by decide +kernel
theorem dL_law_597 : decode cL_law 597 = .ok (.iconst 2, 1) := by decide +kernel
theorem dL_law_598 : decode cL_law 598 = .ok (.iadd, 1) := by decide +kernel
theorem dL_law_599 : decode cL_law 599 = .ok (.iaload, 1) := by decide +kernel
theorem dL_law_600 : decode cL_law 600 = .ok (.aload_n 3, 1) := by decide +kernel
theorem dL_law_601 : decode cL_law 601 = .ok (.invokestatic 108, 3) := by decide +kernel
theorem dL_law_604 : decode cL_law 604 = .ok (.istore 5, 2) := by decide +kernel
theorem dL_law_606 : decode cL_law 606 = .ok (.aload_n 2, 1) := by decide +kernel
theorem dL_law_607 : decode cL_law 607 = .ok (.aload_n 0, 1) := by decide +kernel
theorem dL_law_608 : decode cL_law 608 = .ok (.iload 4, 2) := by decide +kernel
theorem dL_law_610 : decode cL_law 610 = .ok (.iconst 1, 1) := by decide +kernel
theorem dL_law_611 : decode cL_law 611 = .ok (.iadd, 1) := by decide +kernel
theorem dL_law_612 : decode cL_law 612 = .ok (.iaload, 1) := by decide +kernel
theorem dL_law_613 : decode cL_law 613 = .ok (.aload_n 0, 1) := by decide +kernel
theorem dL_law_614 : decode cL_law 614 = .ok (.iload 4, 2) := by decide +kernel
theorem dL_law_616 : decode cL_law 616 = .ok (.iconst 2, 1) := by decide +kernel
theorem dL_law_617 : decode cL_law 617 = .ok (.iadd, 1) := by decide +kernel
theorem dL_law_618 : decode cL_law 618 = .ok (.iaload, 1) := by decide +kernel
theorem dL_law_619 : decode cL_law 619 = .ok (.invokevirtual 110, 3) := by decide +kernel
theorem dL_law_622 : decode cL_law 622 = .ok (.istore 6, 2) := by decide +kernel
theorem dL_law_624 : decode cL_law 624 = .ok (.aload_n 2, 1) := by decide +kernel
theorem dL_law_625 : decode cL_law 625 = .ok (.invokevirtual 87, 3) := by decide +kernel
theorem dL_law_628 : decode cL_law 628 = .ok (.iload 5, 2) := by decide +kernel
theorem dL_law_630 : decode cL_law 630 = .ok (.if_icmp .eq 5, 3) := by decide +kernel
theorem dL_law_633 : decode cL_law 633 = .ok (.iconst 0, 1) := by decide +kernel
theorem dL_law_634 : decode cL_law 634 = .ok (.ireturn, 1) := by decide +kernel
theorem dL_law_635 : decode cL_law 635 = .ok (.iload 5, 2) := by decide +kernel
theorem dL_law_637 : decode cL_law 637 = .ok (.ifCond .ne 15, 3) := by decide +kernel
theorem dL_law_640 : decode cL_law 640 = .ok (.aload_n 3, 1) := by decide +kernel
theorem dL_law_641 : decode cL_law 641 = .ok (.iconst 0, 1) := by decide +kernel
theorem dL_law_642 : decode cL_law 642 = .ok (.laload, 1) := by decide +kernel
theorem dL_law_643 : decode cL_law 643 = .ok (.iload 6, 2) := by decide +kernel
theorem dL_law_645 : decode cL_law 645 = .ok (.i2l, 1) := by decide +kernel
theorem dL_law_646 : decode cL_law 646 = .ok (.lcmp, 1) := by decide +kernel
theorem dL_law_647 : decode cL_law 647 = .ok (.ifCond .eq 5, 3) := by decide +kernel
theorem dL_law_650 : decode cL_law 650 = .ok (.iconst 0, 1) := by decide +kernel
theorem dL_law_651 : decode cL_law 651 = .ok (.ireturn, 1) := by decide +kernel
theorem dL_law_652 : decode cL_law 652 = .ok (.goto 832, 3) := by decide +kernel
theorem dL_law_655 : decode cL_law 655 = .ok (.aload_n 1, 1) := by decide +kernel
theorem dL_law_656 : decode cL_law 656 = .ok (.invokevirtual 111, 3) := by decide +kernel
theorem dL_law_659 : decode cL_law 659 = .ok (.aload_n 2, 1) := by decide +kernel
theorem dL_law_660 : decode cL_law 660 = .ok (.invokevirtual 114, 3) := by decide +kernel
theorem dL_law_663 : decode cL_law 663 = .ok (.if_icmp .eq 821, 3) := by decide +kernel
theorem dL_law_666 : decode cL_law 666 = .ok (.iconst 0, 1) := by decide +kernel
theorem dL_law_667 : decode cL_law 667 = .ok (.ireturn, 1) := by decide +kernel
theorem dL_law_668 : decode cL_law 668 = .ok (.aload_n 1, 1) := by decide +kernel
theorem dL_law_669 : decode cL_law 669 = .ok (.aload_n 0, 1) := by decide +kernel
theorem dL_law_670 : decode cL_law 670 = .ok (.iload 4, 2) := by decide +kernel
theorem dL_law_672 : decode cL_law 672 = .ok (.iconst 1, 1) := by decide +kernel
theorem dL_law_673 : decode cL_law 673 = .ok (.iadd, 1) := by decide +kernel
theorem dL_law_674 : decode cL_law 674 = .ok (.iaload, 1) := by decide +kernel
theorem dL_law_675 : decode cL_law 675 = .ok (.aload_n 3, 1) := by decide +kernel
theorem dL_law_676 : decode cL_law 676 = .ok (.invokestatic 115, 3) := by decide +kernel
theorem dL_law_679 : decode cL_law 679 = .ok (.istore 5, 2) := by decide +kernel
theorem dL_law_681 : decode cL_law 681 = .ok (.aload_n 2, 1) := by decide +kernel
theorem dL_law_682 : decode cL_law 682 = .ok (.aload_n 0, 1) := by decide +kernel
theorem dL_law_683 : decode cL_law 683 = .ok (.iload 4, 2) := by decide +kernel
theorem dL_law_685 : decode cL_law 685 = .ok (.iconst 1, 1) := by decide +kernel
theorem dL_law_686 : decode cL_law 686 = .ok (.iadd, 1) := by decide +kernel
theorem dL_law_687 : decode cL_law 687 = .ok (.iaload, 1) := by decide +kernel
theorem dL_law_688 : decode cL_law 688 = .ok (.invokevirtual 117, 3) := by decide +kernel
theorem dL_law_691 : decode cL_law 691 = .ok (.istore 6, 2) := by decide +kernel
theorem dL_law_693 : decode cL_law 693 = .ok (.aload_n 2, 1) := by decide +kernel
theorem dL_law_694 : decode cL_law 694 = .ok (.invokevirtual 87, 3) := by decide +kernel
theorem dL_law_697 : decode cL_law 697 = .ok (.iload 5, 2) := by decide +kernel
theorem dL_law_699 : decode cL_law 699 = .ok (.if_icmp .eq 5, 3) := by decide +kernel
theorem dL_law_702 : decode cL_law 702 = .ok (.iconst 0, 1) := by decide +kernel
theorem dL_law_703 : decode cL_law 703 = .ok (.ireturn, 1) := by decide +kernel
theorem dL_law_704 : decode cL_law 704 = .ok (.iload 5, 2) := by decide +kernel
theorem dL_law_706 : decode cL_law 706 = .ok (.ifCond .ne 15, 3) := by decide +kernel
theorem dL_law_709 : decode cL_law 709 = .ok (.aload_n 3, 1) := by decide +kernel
theorem dL_law_710 : decode cL_law 710 = .ok (.iconst 0, 1) := by decide +kernel
theorem dL_law_711 : decode cL_law 711 = .ok (.laload, 1) := by decide +kernel
theorem dL_law_712 : decode cL_law 712 = .ok (.iload 6, 2) := by decide +kernel
theorem dL_law_714 : decode cL_law 714 = .ok (.i2l, 1) := by decide +kernel
theorem dL_law_715 : decode cL_law 715 = .ok (.lcmp, 1) := by decide +kernel
theorem dL_law_716 : decode cL_law 716 = .ok (.ifCond .eq 5, 3) := by decide +kernel
theorem dL_law_719 : decode cL_law 719 = .ok (.iconst 0, 1) := by decide +kernel
theorem dL_law_720 : decode cL_law 720 = .ok (.ireturn, 1) := by decide +kernel
theorem dL_law_721 : decode cL_law 721 = .ok (.goto 763, 3) := by decide +kernel
theorem dL_law_724 : decode cL_law 724 = .ok (.aload_n 1, 1) := by decide +kernel
theorem dL_law_725 : decode cL_law 725 = .ok (.aload_n 0, 1) := by decide +kernel
theorem dL_law_726 : decode cL_law 726 = .ok (.iload 4, 2) := by decide +kernel
theorem dL_law_728 : decode cL_law 728 = .ok (.iconst 1, 1) := by decide +kernel
theorem dL_law_729 : decode cL_law 729 = .ok (.iadd, 1) := by decide +kernel
theorem dL_law_730 : decode cL_law 730 = .ok (.iaload, 1) := by decide +kernel
theorem dL_law_731 : decode cL_law 731 = .ok (.aload_n 3, 1) := by decide +kernel
theorem dL_law_732 : decode cL_law 732 = .ok (.invokestatic 118, 3) := by decide +kernel
theorem dL_law_735 : decode cL_law 735 = .ok (.istore 5, 2) := by decide +kernel
theorem dL_law_737 : decode cL_law 737 = .ok (.aload_n 2, 1) := by decide +kernel
theorem dL_law_738 : decode cL_law 738 = .ok (.aload_n 0, 1) := by decide +kernel
theorem dL_law_739 : decode cL_law 739 = .ok (.iload 4, 2) := by decide +kernel
theorem dL_law_741 : decode cL_law 741 = .ok (.iconst 1, 1) := by decide +kernel
theorem dL_law_742 : decode cL_law 742 = .ok (.iadd, 1) := by decide +kernel
theorem dL_law_743 : decode cL_law 743 = .ok (.iaload, 1) := by decide +kernel
theorem dL_law_744 : decode cL_law 744 = .ok (.invokevirtual 120, 3) := by decide +kernel
theorem dL_law_747 : decode cL_law 747 = .ok (.istore 6, 2) := by decide +kernel
theorem dL_law_749 : decode cL_law 749 = .ok (.aload_n 2, 1) := by decide +kernel
theorem dL_law_750 : decode cL_law 750 = .ok (.invokevirtual 87, 3) := by decide +kernel
theorem dL_law_753 : decode cL_law 753 = .ok (.iload 5, 2) := by decide +kernel
theorem dL_law_755 : decode cL_law 755 = .ok (.if_icmp .eq 5, 3) := by decide +kernel
theorem dL_law_758 : decode cL_law 758 = .ok (.iconst 0, 1) := by decide +kernel
theorem dL_law_759 : decode cL_law 759 = .ok (.ireturn, 1) := by decide +kernel
theorem dL_law_760 : decode cL_law 760 = .ok (.iload 5, 2) := by decide +kernel
theorem dL_law_762 : decode cL_law 762 = .ok (.ifCond .ne 15, 3) := by decide +kernel
theorem dL_law_765 : decode cL_law 765 = .ok (.aload_n 3, 1) := by decide +kernel
theorem dL_law_766 : decode cL_law 766 = .ok (.iconst 0, 1) := by decide +kernel
theorem dL_law_767 : decode cL_law 767 = .ok (.laload, 1) := by decide +kernel
theorem dL_law_768 : decode cL_law 768 = .ok (.iload 6, 2) := by decide +kernel
theorem dL_law_770 : decode cL_law 770 = .ok (.i2l, 1) := by decide +kernel
theorem dL_law_771 : decode cL_law 771 = .ok (.lcmp, 1) := by decide +kernel
theorem dL_law_772 : decode cL_law 772 = .ok (.ifCond .eq 5, 3) := by decide +kernel
theorem dL_law_775 : decode cL_law 775 = .ok (.iconst 0, 1) := by decide +kernel
theorem dL_law_776 : decode cL_law 776 = .ok (.ireturn, 1) := by decide +kernel
theorem dL_law_777 : decode cL_law 777 = .ok (.goto 707, 3) := by decide +kernel
theorem dL_law_780 : decode cL_law 780 = .ok (.aload_n 1, 1) := by decide +kernel
theorem dL_law_781 : decode cL_law 781 = .ok (.aload_n 0, 1) := by decide +kernel
theorem dL_law_782 : decode cL_law 782 = .ok (.iload 4, 2) := by decide +kernel
theorem dL_law_784 : decode cL_law 784 = .ok (.iconst 1, 1) := by decide +kernel
theorem dL_law_785 : decode cL_law 785 = .ok (.iadd, 1) := by decide +kernel
theorem dL_law_786 : decode cL_law 786 = .ok (.iaload, 1) := by decide +kernel
theorem dL_law_787 : decode cL_law 787 = .ok (.aload_n 3, 1) := by decide +kernel
theorem dL_law_788 : decode cL_law 788 = .ok (.invokestatic 121, 3) := by decide +kernel
theorem dL_law_791 : decode cL_law 791 = .ok (.istore 5, 2) := by decide +kernel
theorem dL_law_793 : decode cL_law 793 = .ok (.aload_n 2, 1) := by decide +kernel
theorem dL_law_794 : decode cL_law 794 = .ok (.aload_n 0, 1) := by decide +kernel
theorem dL_law_795 : decode cL_law 795 = .ok (.iload 4, 2) := by decide +kernel
theorem dL_law_797 : decode cL_law 797 = .ok (.iconst 1, 1) := by decide +kernel
theorem dL_law_798 : decode cL_law 798 = .ok (.iadd, 1) := by decide +kernel
theorem dL_law_799 : decode cL_law 799 = .ok (.iaload, 1) := by decide +kernel
theorem dL_law_800 : decode cL_law 800 = .ok (.invokevirtual 123, 3) := by decide +kernel
theorem dL_law_803 : decode cL_law 803 = .ok (.istore 6, 2) := by decide +kernel
theorem dL_law_805 : decode cL_law 805 = .ok (.aload_n 2, 1) := by decide +kernel
theorem dL_law_806 : decode cL_law 806 = .ok (.invokevirtual 87, 3) := by decide +kernel
theorem dL_law_809 : decode cL_law 809 = .ok (.iload 5, 2) := by decide +kernel
theorem dL_law_811 : decode cL_law 811 = .ok (.if_icmp .eq 5, 3) := by decide +kernel
theorem dL_law_814 : decode cL_law 814 = .ok (.iconst 0, 1) := by decide +kernel
theorem dL_law_815 : decode cL_law 815 = .ok (.ireturn, 1) := by decide +kernel
theorem dL_law_816 : decode cL_law 816 = .ok (.iload 5, 2) := by decide +kernel
theorem dL_law_818 : decode cL_law 818 = .ok (.ifCond .ne 15, 3) := by decide +kernel
theorem dL_law_821 : decode cL_law 821 = .ok (.aload_n 3, 1) := by decide +kernel
theorem dL_law_822 : decode cL_law 822 = .ok (.iconst 0, 1) := by decide +kernel
theorem dL_law_823 : decode cL_law 823 = .ok (.laload, 1) := by decide +kernel
theorem dL_law_824 : decode cL_law 824 = .ok (.iload 6, 2) := by decide +kernel
theorem dL_law_826 : decode cL_law 826 = .ok (.i2l, 1) := by decide +kernel
theorem dL_law_827 : decode cL_law 827 = .ok (.lcmp, 1) := by decide +kernel
theorem dL_law_828 : decode cL_law 828 = .ok (.ifCond .eq 5, 3) := by decide +kernel
theorem dL_law_831 : decode cL_law 831 = .ok (.iconst 0, 1) := by decide +kernel
theorem dL_law_832 : decode cL_law 832 = .ok (.ireturn, 1) := by decide +kernel
theorem dL_law_833 : decode cL_law 833 = .ok (.goto 651, 3) := by decide +kernel
theorem dL_law_836 : decode cL_law 836 = .ok (.aload_n 1, 1) := by decide +kernel
theorem dL_law_837 : decode cL_law 837 = .ok (.aload_n 0, 1) := by decide +kernel
theorem dL_law_838 : decode cL_law 838 = .ok (.iload 4, 2) := by decide +kernel
theorem dL_law_840 : decode cL_law 840 = .ok (.iconst 1, 1) := by decide +kernel
theorem dL_law_841 : decode cL_law 841 = .ok (.iadd, 1) := by decide +kernel
theorem dL_law_842 : decode cL_law 842 = .ok (.iaload, 1) := by decide +kernel
theorem dL_law_843 : decode cL_law 843 = .ok (.aload_n 0, 1) := by decide +kernel
theorem dL_law_844 : decode cL_law 844 = .ok (.iload 4, 2) := by decide +kernel
theorem dL_law_846 : decode cL_law 846 = .ok (.iconst 2, 1) := by decide +kernel
theorem dL_law_847 : decode cL_law 847 = .ok (.iadd, 1) := by decide +kernel
theorem dL_law_848 : decode cL_law 848 = .ok (.iaload, 1) := by decide +kernel
theorem dL_law_849 : decode cL_law 849 = .ok (.aload_n 0, 1) := by decide +kernel
theorem dL_law_850 : decode cL_law 850 = .ok (.iload 4, 2) := by decide +kernel
theorem dL_law_852 : decode cL_law 852 = .ok (.iconst 3, 1) := by decide +kernel
theorem dL_law_853 : decode cL_law 853 = .ok (.iadd, 1) := by decide +kernel
theorem dL_law_854 : decode cL_law 854 = .ok (.iaload, 1) := by decide +kernel
theorem dL_law_855 : decode cL_law 855 = .ok (.aload_n 3, 1) := by decide +kernel
theorem dL_law_856 : decode cL_law 856 = .ok (.invokestatic 124, 3) := by decide +kernel
theorem dL_law_859 : decode cL_law 859 = .ok (.istore 5, 2) := by decide +kernel
theorem dL_law_861 : decode cL_law 861 = .ok (.aload_n 2, 1) := by decide +kernel
theorem dL_law_862 : decode cL_law 862 = .ok (.aload_n 0, 1) := by decide +kernel
theorem dL_law_863 : decode cL_law 863 = .ok (.iload 4, 2) := by decide +kernel
theorem dL_law_865 : decode cL_law 865 = .ok (.iconst 1, 1) := by decide +kernel
theorem dL_law_866 : decode cL_law 866 = .ok (.iadd, 1) := by decide +kernel
theorem dL_law_867 : decode cL_law 867 = .ok (.iaload, 1) := by decide +kernel
theorem dL_law_868 : decode cL_law 868 = .ok (.aload_n 0, 1) := by decide +kernel
theorem dL_law_869 : decode cL_law 869 = .ok (.iload 4, 2) := by decide +kernel
theorem dL_law_871 : decode cL_law 871 = .ok (.iconst 2, 1) := by decide +kernel
theorem dL_law_872 : decode cL_law 872 = .ok (.iadd, 1) := by decide +kernel
theorem dL_law_873 : decode cL_law 873 = .ok (.iaload, 1) := by decide +kernel
theorem dL_law_874 : decode cL_law 874 = .ok (.aload_n 0, 1) := by decide +kernel
theorem dL_law_875 : decode cL_law 875 = .ok (.iload 4, 2) := by decide +kernel
theorem dL_law_877 : decode cL_law 877 = .ok (.iconst 3, 1) := by decide +kernel
theorem dL_law_878 : decode cL_law 878 = .ok (.iadd, 1) := by decide +kernel
theorem dL_law_879 : decode cL_law 879 = .ok (.iaload, 1) := by decide +kernel
theorem dL_law_880 : decode cL_law 880 = .ok (.invokevirtual 127, 3) := by decide +kernel
theorem dL_law_883 : decode cL_law 883 = .ok (.istore 6, 2) := by decide +kernel
theorem dL_law_885 : decode cL_law 885 = .ok (.aload_n 2, 1) := by decide +kernel
theorem dL_law_886 : decode cL_law 886 = .ok (.invokevirtual 87, 3) := by decide +kernel
theorem dL_law_889 : decode cL_law 889 = .ok (.iload 5, 2) := by decide +kernel
theorem dL_law_891 : decode cL_law 891 = .ok (.if_icmp .eq 5, 3) := by decide +kernel
theorem dL_law_894 : decode cL_law 894 = .ok (.iconst 0, 1) := by decide +kernel
theorem dL_law_895 : decode cL_law 895 = .ok (.ireturn, 1) := by decide +kernel
theorem dL_law_896 : decode cL_law 896 = .ok (.iload 5, 2) := by decide +kernel
theorem dL_law_898 : decode cL_law 898 = .ok (.ifCond .ne 15, 3) := by decide +kernel
theorem dL_law_901 : decode cL_law 901 = .ok (.aload_n 3, 1) := by decide +kernel
theorem dL_law_902 : decode cL_law 902 = .ok (.iconst 0, 1) := by decide +kernel
theorem dL_law_903 : decode cL_law 903 = .ok (.laload, 1) := by decide +kernel
theorem dL_law_904 : decode cL_law 904 = .ok (.iload 6, 2) := by decide +kernel
theorem dL_law_906 : decode cL_law 906 = .ok (.i2l, 1) := by decide +kernel
theorem dL_law_907 : decode cL_law 907 = .ok (.lcmp, 1) := by decide +kernel
theorem dL_law_908 : decode cL_law 908 = .ok (.ifCond .eq 5, 3) := by decide +kernel
theorem dL_law_911 : decode cL_law 911 = .ok (.iconst 0, 1) := by decide +kernel
theorem dL_law_912 : decode cL_law 912 = .ok (.ireturn, 1) := by decide +kernel
theorem dL_law_913 : decode cL_law 913 = .ok (.goto 571, 3) := by decide +kernel
theorem dL_law_916 : decode cL_law 916 = .ok (.aload_n 1, 1) := by decide +kernel
theorem dL_law_917 : decode cL_law 917 = .ok (.aload_n 0, 1) := by decide +kernel
theorem dL_law_918 : decode cL_law 918 = .ok (.iload 4, 2) := by decide +kernel
theorem dL_law_920 : decode cL_law 920 = .ok (.iconst 1, 1) := by decide +kernel
theorem dL_law_921 : decode cL_law 921 = .ok (.iadd, 1) := by decide +kernel
theorem dL_law_922 : decode cL_law 922 = .ok (.iaload, 1) := by decide +kernel
theorem dL_law_923 : decode cL_law 923 = .ok (.aload_n 0, 1) := by decide +kernel
theorem dL_law_924 : decode cL_law 924 = .ok (.iload 4, 2) := by decide +kernel
theorem dL_law_926 : decode cL_law 926 = .ok (.iconst 2, 1) := by decide +kernel
theorem dL_law_927 : decode cL_law 927 = .ok (.iadd, 1) := by decide +kernel
theorem dL_law_928 : decode cL_law 928 = .ok (.iaload, 1) := by decide +kernel
theorem dL_law_929 : decode cL_law 929 = .ok (.aload_n 3, 1) := by decide +kernel
theorem dL_law_930 : decode cL_law 930 = .ok (.invokestatic 128, 3) := by decide +kernel
theorem dL_law_933 : decode cL_law 933 = .ok (.istore 5, 2) := by decide +kernel
theorem dL_law_935 : decode cL_law 935 = .ok (.aload_n 2, 1) := by decide +kernel
theorem dL_law_936 : decode cL_law 936 = .ok (.aload_n 0, 1) := by decide +kernel
theorem dL_law_937 : decode cL_law 937 = .ok (.iload 4, 2) := by decide +kernel
theorem dL_law_939 : decode cL_law 939 = .ok (.iconst 1, 1) := by decide +kernel
theorem dL_law_940 : decode cL_law 940 = .ok (.iadd, 1) := by decide +kernel
theorem dL_law_941 : decode cL_law 941 = .ok (.iaload, 1) := by decide +kernel
theorem dL_law_942 : decode cL_law 942 = .ok (.aload_n 0, 1) := by decide +kernel
theorem dL_law_943 : decode cL_law 943 = .ok (.iload 4, 2) := by decide +kernel
theorem dL_law_945 : decode cL_law 945 = .ok (.iconst 2, 1) := by decide +kernel
theorem dL_law_946 : decode cL_law 946 = .ok (.iadd, 1) := by decide +kernel
theorem dL_law_947 : decode cL_law 947 = .ok (.iaload, 1) := by decide +kernel
theorem dL_law_948 : decode cL_law 948 = .ok (.invokevirtual 130, 3) := by decide +kernel
theorem dL_law_951 : decode cL_law 951 = .ok (.istore 6, 2) := by decide +kernel
theorem dL_law_953 : decode cL_law 953 = .ok (.aload_n 2, 1) := by decide +kernel
theorem dL_law_954 : decode cL_law 954 = .ok (.invokevirtual 87, 3) := by decide +kernel
theorem dL_law_957 : decode cL_law 957 = .ok (.iload 5, 2) := by decide +kernel
theorem dL_law_959 : decode cL_law 959 = .ok (.if_icmp .eq 5, 3) := by decide +kernel
theorem dL_law_962 : decode cL_law 962 = .ok (.iconst 0, 1) := by decide +kernel
theorem dL_law_963 : decode cL_law 963 = .ok (.ireturn, 1) := by decide +kernel
theorem dL_law_964 : decode cL_law 964 = .ok (.iload 5, 2) := by decide +kernel
theorem dL_law_966 : decode cL_law 966 = .ok (.ifCond .ne 15, 3) := by decide +kernel
theorem dL_law_969 : decode cL_law 969 = .ok (.aload_n 3, 1) := by decide +kernel
theorem dL_law_970 : decode cL_law 970 = .ok (.iconst 0, 1) := by decide +kernel
theorem dL_law_971 : decode cL_law 971 = .ok (.laload, 1) := by decide +kernel
theorem dL_law_972 : decode cL_law 972 = .ok (.iload 6, 2) := by decide +kernel
theorem dL_law_974 : decode cL_law 974 = .ok (.i2l, 1) := by decide +kernel
theorem dL_law_975 : decode cL_law 975 = .ok (.lcmp, 1) := by decide +kernel
theorem dL_law_976 : decode cL_law 976 = .ok (.ifCond .eq 5, 3) := by decide +kernel
theorem dL_law_979 : decode cL_law 979 = .ok (.iconst 0, 1) := by decide +kernel
theorem dL_law_980 : decode cL_law 980 = .ok (.ireturn, 1) := by decide +kernel
theorem dL_law_981 : decode cL_law 981 = .ok (.goto 503, 3) := by decide +kernel
theorem dL_law_984 : decode cL_law 984 = .ok (.aload_n 1, 1) := by decide +kernel
theorem dL_law_985 : decode cL_law 985 = .ok (.aload_n 0, 1) := by decide +kernel
theorem dL_law_986 : decode cL_law 986 = .ok (.iload 4, 2) := by decide +kernel
theorem dL_law_988 : decode cL_law 988 = .ok (.iconst 1, 1) := by decide +kernel
theorem dL_law_989 : decode cL_law 989 = .ok (.iadd, 1) := by decide +kernel
theorem dL_law_990 : decode cL_law 990 = .ok (.iaload, 1) := by decide +kernel
theorem dL_law_991 : decode cL_law 991 = .ok (.aload_n 0, 1) := by decide +kernel
theorem dL_law_992 : decode cL_law 992 = .ok (.iload 4, 2) := by decide +kernel
theorem dL_law_994 : decode cL_law 994 = .ok (.iconst 2, 1) := by decide +kernel
theorem dL_law_995 : decode cL_law 995 = .ok (.iadd, 1) := by decide +kernel
theorem dL_law_996 : decode cL_law 996 = .ok (.iaload, 1) := by decide +kernel
theorem dL_law_997 : decode cL_law 997 = .ok (.aload_n 3, 1) := by decide +kernel
theorem dL_law_998 : decode cL_law 998 = .ok (.invokestatic 131, 3) := by decide +kernel
theorem dL_law_1001 : decode cL_law 1001 = .ok (.istore 5, 2) := by decide +kernel
theorem dL_law_1003 : decode cL_law 1003 = .ok (.aload_n 2, 1) := by decide +kernel
theorem dL_law_1004 : decode cL_law 1004 = .ok (.aload_n 0, 1) := by decide +kernel
theorem dL_law_1005 : decode cL_law 1005 = .ok (.iload 4, 2) := by decide +kernel
theorem dL_law_1007 : decode cL_law 1007 = .ok (.iconst 1, 1) := by decide +kernel
theorem dL_law_1008 : decode cL_law 1008 = .ok (.iadd, 1) := by decide +kernel
theorem dL_law_1009 : decode cL_law 1009 = .ok (.iaload, 1) := by decide +kernel
theorem dL_law_1010 : decode cL_law 1010 = .ok (.aload_n 0, 1) := by decide +kernel
theorem dL_law_1011 : decode cL_law 1011 = .ok (.iload 4, 2) := by decide +kernel
theorem dL_law_1013 : decode cL_law 1013 = .ok (.iconst 2, 1) := by decide +kernel
theorem dL_law_1014 : decode cL_law 1014 = .ok (.iadd, 1) := by decide +kernel
theorem dL_law_1015 : decode cL_law 1015 = .ok (.iaload, 1) := by decide +kernel
theorem dL_law_1016 : decode cL_law 1016 = .ok (.invokevirtual 133, 3) := by decide +kernel
theorem dL_law_1019 : decode cL_law 1019 = .ok (.istore 6, 2) := by decide +kernel
theorem dL_law_1021 : decode cL_law 1021 = .ok (.aload_n 2, 1) := by decide +kernel
theorem dL_law_1022 : decode cL_law 1022 = .ok (.invokevirtual 87, 3) := by decide +kernel
theorem dL_law_1025 : decode cL_law 1025 = .ok (.iload 5, 2) := by decide +kernel
theorem dL_law_1027 : decode cL_law 1027 = .ok (.if_icmp .eq 5, 3) := by decide +kernel
theorem dL_law_1030 : decode cL_law 1030 = .ok (.iconst 0, 1) := by decide +kernel
theorem dL_law_1031 : decode cL_law 1031 = .ok (.ireturn, 1) := by decide +kernel
theorem dL_law_1032 : decode cL_law 1032 = .ok (.iload 5, 2) := by decide +kernel
theorem dL_law_1034 : decode cL_law 1034 = .ok (.ifCond .ne 22, 3) := by decide +kernel
theorem dL_law_1037 : decode cL_law 1037 = .ok (.aload_n 3, 1) := by decide +kernel
theorem dL_law_1038 : decode cL_law 1038 = .ok (.iconst 0, 1) := by decide +kernel
theorem dL_law_1039 : decode cL_law 1039 = .ok (.laload, 1) := by decide +kernel
theorem dL_law_1040 : decode cL_law 1040 = .ok (.iload 6, 2) := by decide +kernel
theorem dL_law_1042 : decode cL_law 1042 = .ok (.ifCond .eq 7, 3) := by decide +kernel
theorem dL_law_1045 : decode cL_law 1045 = .ok (.lconst 1, 1) := by decide +kernel
theorem dL_law_1046 : decode cL_law 1046 = .ok (.goto 4, 3) := by decide +kernel
theorem dL_law_1049 : decode cL_law 1049 = .ok (.lconst 0, 1) := by decide +kernel
theorem dL_law_1050 : decode cL_law 1050 = .ok (.lcmp, 1) := by decide +kernel
theorem dL_law_1051 : decode cL_law 1051 = .ok (.ifCond .eq 5, 3) := by decide +kernel
theorem dL_law_1054 : decode cL_law 1054 = .ok (.iconst 0, 1) := by decide +kernel
theorem dL_law_1055 : decode cL_law 1055 = .ok (.ireturn, 1) := by decide +kernel
theorem dL_law_1056 : decode cL_law 1056 = .ok (.goto 428, 3) := by decide +kernel
theorem dL_law_1059 : decode cL_law 1059 = .ok (.aload_n 1, 1) := by decide +kernel
theorem dL_law_1060 : decode cL_law 1060 = .ok (.aload_n 0, 1) := by decide +kernel
theorem dL_law_1061 : decode cL_law 1061 = .ok (.iload 4, 2) := by decide +kernel
theorem dL_law_1063 : decode cL_law 1063 = .ok (.iconst 1, 1) := by decide +kernel
theorem dL_law_1064 : decode cL_law 1064 = .ok (.iadd, 1) := by decide +kernel
theorem dL_law_1065 : decode cL_law 1065 = .ok (.iaload, 1) := by decide +kernel
theorem dL_law_1066 : decode cL_law 1066 = .ok (.aload_n 3, 1) := by decide +kernel
theorem dL_law_1067 : decode cL_law 1067 = .ok (.invokestatic 134, 3) := by decide +kernel
theorem dL_law_1070 : decode cL_law 1070 = .ok (.istore 5, 2) := by decide +kernel
theorem dL_law_1072 : decode cL_law 1072 = .ok (.aload_n 2, 1) := by decide +kernel
theorem dL_law_1073 : decode cL_law 1073 = .ok (.aload_n 0, 1) := by decide +kernel
theorem dL_law_1074 : decode cL_law 1074 = .ok (.iload 4, 2) := by decide +kernel
theorem dL_law_1076 : decode cL_law 1076 = .ok (.iconst 1, 1) := by decide +kernel
theorem dL_law_1077 : decode cL_law 1077 = .ok (.iadd, 1) := by decide +kernel
theorem dL_law_1078 : decode cL_law 1078 = .ok (.iaload, 1) := by decide +kernel
theorem dL_law_1079 : decode cL_law 1079 = .ok (.invokevirtual 136, 3) := by decide +kernel
theorem dL_law_1082 : decode cL_law 1082 = .ok (.istore 6, 2) := by decide +kernel
theorem dL_law_1084 : decode cL_law 1084 = .ok (.aload_n 2, 1) := by decide +kernel
theorem dL_law_1085 : decode cL_law 1085 = .ok (.invokevirtual 87, 3) := by decide +kernel
theorem dL_law_1088 : decode cL_law 1088 = .ok (.iload 5, 2) := by decide +kernel
theorem dL_law_1090 : decode cL_law 1090 = .ok (.if_icmp .eq 5, 3) := by decide +kernel
theorem dL_law_1093 : decode cL_law 1093 = .ok (.iconst 0, 1) := by decide +kernel
theorem dL_law_1094 : decode cL_law 1094 = .ok (.ireturn, 1) := by decide +kernel
theorem dL_law_1095 : decode cL_law 1095 = .ok (.iload 5, 2) := by decide +kernel
theorem dL_law_1097 : decode cL_law 1097 = .ok (.ifCond .ne 15, 3) := by decide +kernel
theorem dL_law_1100 : decode cL_law 1100 = .ok (.aload_n 3, 1) := by decide +kernel
theorem dL_law_1101 : decode cL_law 1101 = .ok (.iconst 0, 1) := by decide +kernel
theorem dL_law_1102 : decode cL_law 1102 = .ok (.laload, 1) := by decide +kernel
theorem dL_law_1103 : decode cL_law 1103 = .ok (.iload 6, 2) := by decide +kernel
theorem dL_law_1105 : decode cL_law 1105 = .ok (.i2l, 1) := by decide +kernel
theorem dL_law_1106 : decode cL_law 1106 = .ok (.lcmp, 1) := by decide +kernel
theorem dL_law_1107 : decode cL_law 1107 = .ok (.ifCond .eq 5, 3) := by decide +kernel
theorem dL_law_1110 : decode cL_law 1110 = .ok (.iconst 0, 1) := by decide +kernel
theorem dL_law_1111 : decode cL_law 1111 = .ok (.ireturn, 1) := by decide +kernel
theorem dL_law_1112 : decode cL_law 1112 = .ok (.goto 372, 3) := by decide +kernel
theorem dL_law_1115 : decode cL_law 1115 = .ok (.aload_n 1, 1) := by decide +kernel
theorem dL_law_1116 : decode cL_law 1116 = .ok (.aload_n 0, 1) := by decide +kernel
theorem dL_law_1117 : decode cL_law 1117 = .ok (.iload 4, 2) := by decide +kernel
theorem dL_law_1119 : decode cL_law 1119 = .ok (.iconst 1, 1) := by decide +kernel
theorem dL_law_1120 : decode cL_law 1120 = .ok (.iadd, 1) := by decide +kernel
theorem dL_law_1121 : decode cL_law 1121 = .ok (.iaload, 1) := by decide +kernel
theorem dL_law_1122 : decode cL_law 1122 = .ok (.aload_n 0, 1) := by decide +kernel
theorem dL_law_1123 : decode cL_law 1123 = .ok (.iload 4, 2) := by decide +kernel
theorem dL_law_1125 : decode cL_law 1125 = .ok (.iconst 2, 1) := by decide +kernel
theorem dL_law_1126 : decode cL_law 1126 = .ok (.iadd, 1) := by decide +kernel
theorem dL_law_1127 : decode cL_law 1127 = .ok (.iaload, 1) := by decide +kernel
theorem dL_law_1128 : decode cL_law 1128 = .ok (.aload_n 3, 1) := by decide +kernel
theorem dL_law_1129 : decode cL_law 1129 = .ok (.invokestatic 137, 3) := by decide +kernel
theorem dL_law_1132 : decode cL_law 1132 = .ok (.istore 5, 2) := by decide +kernel
theorem dL_law_1134 : decode cL_law 1134 = .ok (.aload_n 2, 1) := by decide +kernel
theorem dL_law_1135 : decode cL_law 1135 = .ok (.aload_n 0, 1) := by decide +kernel
theorem dL_law_1136 : decode cL_law 1136 = .ok (.iload 4, 2) := by decide +kernel
theorem dL_law_1138 : decode cL_law 1138 = .ok (.iconst 1, 1) := by decide +kernel
theorem dL_law_1139 : decode cL_law 1139 = .ok (.iadd, 1) := by decide +kernel
theorem dL_law_1140 : decode cL_law 1140 = .ok (.iaload, 1) := by decide +kernel
theorem dL_law_1141 : decode cL_law 1141 = .ok (.aload_n 0, 1) := by decide +kernel
theorem dL_law_1142 : decode cL_law 1142 = .ok (.iload 4, 2) := by decide +kernel
theorem dL_law_1144 : decode cL_law 1144 = .ok (.iconst 2, 1) := by decide +kernel
theorem dL_law_1145 : decode cL_law 1145 = .ok (.iadd, 1) := by decide +kernel
theorem dL_law_1146 : decode cL_law 1146 = .ok (.iaload, 1) := by decide +kernel
theorem dL_law_1147 : decode cL_law 1147 = .ok (.invokevirtual 139, 3) := by decide +kernel
theorem dL_law_1150 : decode cL_law 1150 = .ok (.istore 6, 2) := by decide +kernel
theorem dL_law_1152 : decode cL_law 1152 = .ok (.aload_n 2, 1) := by decide +kernel
theorem dL_law_1153 : decode cL_law 1153 = .ok (.invokevirtual 87, 3) := by decide +kernel
theorem dL_law_1156 : decode cL_law 1156 = .ok (.iload 5, 2) := by decide +kernel
theorem dL_law_1158 : decode cL_law 1158 = .ok (.if_icmp .eq 5, 3) := by decide +kernel
theorem dL_law_1161 : decode cL_law 1161 = .ok (.iconst 0, 1) := by decide +kernel
theorem dL_law_1162 : decode cL_law 1162 = .ok (.ireturn, 1) := by decide +kernel
theorem dL_law_1163 : decode cL_law 1163 = .ok (.iload 5, 2) := by decide +kernel
theorem dL_law_1165 : decode cL_law 1165 = .ok (.ifCond .ne 22, 3) := by decide +kernel
theorem dL_law_1168 : decode cL_law 1168 = .ok (.aload_n 3, 1) := by decide +kernel
theorem dL_law_1169 : decode cL_law 1169 = .ok (.iconst 0, 1) := by decide +kernel
theorem dL_law_1170 : decode cL_law 1170 = .ok (.laload, 1) := by decide +kernel
theorem dL_law_1171 : decode cL_law 1171 = .ok (.iload 6, 2) := by decide +kernel
theorem dL_law_1173 : decode cL_law 1173 = .ok (.ifCond .eq 7, 3) := by decide +kernel
theorem dL_law_1176 : decode cL_law 1176 = .ok (.lconst 1, 1) := by decide +kernel
theorem dL_law_1177 : decode cL_law 1177 = .ok (.goto 4, 3) := by decide +kernel
theorem dL_law_1180 : decode cL_law 1180 = .ok (.lconst 0, 1) := by decide +kernel
theorem dL_law_1181 : decode cL_law 1181 = .ok (.lcmp, 1) := by decide +kernel
theorem dL_law_1182 : decode cL_law 1182 = .ok (.ifCond .eq 5, 3) := by decide +kernel
theorem dL_law_1185 : decode cL_law 1185 = .ok (.iconst 0, 1) := by decide +kernel
theorem dL_law_1186 : decode cL_law 1186 = .ok (.ireturn, 1) := by decide +kernel
theorem dL_law_1187 : decode cL_law 1187 = .ok (.goto 297, 3) := by decide +kernel
theorem dL_law_1190 : decode cL_law 1190 = .ok (.aload_n 1, 1) := by decide +kernel
theorem dL_law_1191 : decode cL_law 1191 = .ok (.aload_n 0, 1) := by decide +kernel
theorem dL_law_1192 : decode cL_law 1192 = .ok (.iload 4, 2) := by decide +kernel
theorem dL_law_1194 : decode cL_law 1194 = .ok (.iconst 1, 1) := by decide +kernel
theorem dL_law_1195 : decode cL_law 1195 = .ok (.iadd, 1) := by decide +kernel
theorem dL_law_1196 : decode cL_law 1196 = .ok (.iaload, 1) := by decide +kernel
theorem dL_law_1197 : decode cL_law 1197 = .ok (.aload_n 3, 1) := by decide +kernel
theorem dL_law_1198 : decode cL_law 1198 = .ok (.invokestatic 140, 3) := by decide +kernel
theorem dL_law_1201 : decode cL_law 1201 = .ok (.istore 5, 2) := by decide +kernel
theorem dL_law_1203 : decode cL_law 1203 = .ok (.aload_n 2, 1) := by decide +kernel
theorem dL_law_1204 : decode cL_law 1204 = .ok (.aload_n 0, 1) := by decide +kernel
theorem dL_law_1205 : decode cL_law 1205 = .ok (.iload 4, 2) := by decide +kernel
theorem dL_law_1207 : decode cL_law 1207 = .ok (.iconst 1, 1) := by decide +kernel
theorem dL_law_1208 : decode cL_law 1208 = .ok (.iadd, 1) := by decide +kernel
theorem dL_law_1209 : decode cL_law 1209 = .ok (.iaload, 1) := by decide +kernel
theorem dL_law_1210 : decode cL_law 1210 = .ok (.invokevirtual 142, 3) := by decide +kernel
theorem dL_law_1213 : decode cL_law 1213 = .ok (.istore 6, 2) := by decide +kernel
theorem dL_law_1215 : decode cL_law 1215 = .ok (.aload_n 2, 1) := by decide +kernel
theorem dL_law_1216 : decode cL_law 1216 = .ok (.invokevirtual 87, 3) := by decide +kernel
theorem dL_law_1219 : decode cL_law 1219 = .ok (.iload 5, 2) := by decide +kernel
theorem dL_law_1221 : decode cL_law 1221 = .ok (.if_icmp .eq 5, 3) := by decide +kernel
theorem dL_law_1224 : decode cL_law 1224 = .ok (.iconst 0, 1) := by decide +kernel
theorem dL_law_1225 : decode cL_law 1225 = .ok (.ireturn, 1) := by decide +kernel
theorem dL_law_1226 : decode cL_law 1226 = .ok (.iload 5, 2) := by decide +kernel
theorem dL_law_1228 : decode cL_law 1228 = .ok (.ifCond .ne 15, 3) := by decide +kernel
theorem dL_law_1231 : decode cL_law 1231 = .ok (.aload_n 3, 1) := by decide +kernel
theorem dL_law_1232 : decode cL_law 1232 = .ok (.iconst 0, 1) := by decide +kernel
theorem dL_law_1233 : decode cL_law 1233 = .ok (.laload, 1) := by decide +kernel
theorem dL_law_1234 : decode cL_law 1234 = .ok (.iload 6, 2) := by decide +kernel
theorem dL_law_1236 : decode cL_law 1236 = .ok (.i2l, 1) := by decide +kernel
theorem dL_law_1237 : decode cL_law 1237 = .ok (.lcmp, 1) := by decide +kernel
theorem dL_law_1238 : decode cL_law 1238 = .ok (.ifCond .eq 5, 3) := by decide +kernel
theorem dL_law_1241 : decode cL_law 1241 = .ok (.iconst 0, 1) := by decide +kernel
theorem dL_law_1242 : decode cL_law 1242 = .ok (.ireturn, 1) := by decide +kernel
theorem dL_law_1243 : decode cL_law 1243 = .ok (.goto 241, 3) := by decide +kernel
theorem dL_law_1246 : decode cL_law 1246 = .ok (.aload_n 1, 1) := by decide +kernel
theorem dL_law_1247 : decode cL_law 1247 = .ok (.aload_n 0, 1) := by decide +kernel
theorem dL_law_1248 : decode cL_law 1248 = .ok (.iload 4, 2) := by decide +kernel
theorem dL_law_1250 : decode cL_law 1250 = .ok (.iconst 1, 1) := by decide +kernel
theorem dL_law_1251 : decode cL_law 1251 = .ok (.iadd, 1) := by decide +kernel
theorem dL_law_1252 : decode cL_law 1252 = .ok (.iaload, 1) := by decide +kernel
theorem dL_law_1253 : decode cL_law 1253 = .ok (.aload_n 0, 1) := by decide +kernel
theorem dL_law_1254 : decode cL_law 1254 = .ok (.iload 4, 2) := by decide +kernel
theorem dL_law_1256 : decode cL_law 1256 = .ok (.iconst 2, 1) := by decide +kernel
theorem dL_law_1257 : decode cL_law 1257 = .ok (.iadd, 1) := by decide +kernel
theorem dL_law_1258 : decode cL_law 1258 = .ok (.iaload, 1) := by decide +kernel
theorem dL_law_1259 : decode cL_law 1259 = .ok (.aload_n 3, 1) := by decide +kernel
theorem dL_law_1260 : decode cL_law 1260 = .ok (.invokestatic 143, 3) := by decide +kernel
theorem dL_law_1263 : decode cL_law 1263 = .ok (.istore 5, 2) := by decide +kernel
theorem dL_law_1265 : decode cL_law 1265 = .ok (.aload_n 2, 1) := by decide +kernel
theorem dL_law_1266 : decode cL_law 1266 = .ok (.aload_n 0, 1) := by decide +kernel
theorem dL_law_1267 : decode cL_law 1267 = .ok (.iload 4, 2) := by decide +kernel
theorem dL_law_1269 : decode cL_law 1269 = .ok (.iconst 1, 1) := by decide +kernel
theorem dL_law_1270 : decode cL_law 1270 = .ok (.iadd, 1) := by decide +kernel
theorem dL_law_1271 : decode cL_law 1271 = .ok (.iaload, 1) := by decide +kernel
theorem dL_law_1272 : decode cL_law 1272 = .ok (.aload_n 0, 1) := by decide +kernel
theorem dL_law_1273 : decode cL_law 1273 = .ok (.iload 4, 2) := by decide +kernel
theorem dL_law_1275 : decode cL_law 1275 = .ok (.iconst 2, 1) := by decide +kernel
theorem dL_law_1276 : decode cL_law 1276 = .ok (.iadd, 1) := by decide +kernel
theorem dL_law_1277 : decode cL_law 1277 = .ok (.iaload, 1) := by decide +kernel
theorem dL_law_1278 : decode cL_law 1278 = .ok (.invokevirtual 145, 3) := by decide +kernel
theorem dL_law_1281 : decode cL_law 1281 = .ok (.istore 6, 2) := by decide +kernel
theorem dL_law_1283 : decode cL_law 1283 = .ok (.aload_n 2, 1) := by decide +kernel
theorem dL_law_1284 : decode cL_law 1284 = .ok (.invokevirtual 87, 3) := by decide +kernel
theorem dL_law_1287 : decode cL_law 1287 = .ok (.iload 5, 2) := by decide +kernel
theorem dL_law_1289 : decode cL_law 1289 = .ok (.if_icmp .eq 5, 3) := by decide +kernel
theorem dL_law_1292 : decode cL_law 1292 = .ok (.iconst 0, 1) := by decide +kernel
theorem dL_law_1293 : decode cL_law 1293 = .ok (.ireturn, 1) := by decide +kernel
theorem dL_law_1294 : decode cL_law 1294 = .ok (.iload 5, 2) := by decide +kernel
theorem dL_law_1296 : decode cL_law 1296 = .ok (.ifCond .ne 22, 3) := by decide +kernel
theorem dL_law_1299 : decode cL_law 1299 = .ok (.aload_n 3, 1) := by decide +kernel
theorem dL_law_1300 : decode cL_law 1300 = .ok (.iconst 0, 1) := by decide +kernel
theorem dL_law_1301 : decode cL_law 1301 = .ok (.laload, 1) := by decide +kernel
theorem dL_law_1302 : decode cL_law 1302 = .ok (.iload 6, 2) := by decide +kernel
theorem dL_law_1304 : decode cL_law 1304 = .ok (.ifCond .eq 7, 3) := by decide +kernel
theorem dL_law_1307 : decode cL_law 1307 = .ok (.lconst 1, 1) := by decide +kernel
theorem dL_law_1308 : decode cL_law 1308 = .ok (.goto 4, 3) := by decide +kernel
theorem dL_law_1311 : decode cL_law 1311 = .ok (.lconst 0, 1) := by decide +kernel
theorem dL_law_1312 : decode cL_law 1312 = .ok (.lcmp, 1) := by decide +kernel
theorem dL_law_1313 : decode cL_law 1313 = .ok (.ifCond .eq 5, 3) := by decide +kernel
theorem dL_law_1316 : decode cL_law 1316 = .ok (.iconst 0, 1) := by decide +kernel
theorem dL_law_1317 : decode cL_law 1317 = .ok (.ireturn, 1) := by decide +kernel
theorem dL_law_1318 : decode cL_law 1318 = .ok (.goto 166, 3) := by decide +kernel
theorem dL_law_1321 : decode cL_law 1321 = .ok (.aload_n 1, 1) := by decide +kernel
theorem dL_law_1322 : decode cL_law 1322 = .ok (.aload_n 0, 1) := by decide +kernel
theorem dL_law_1323 : decode cL_law 1323 = .ok (.iload 4, 2) := by decide +kernel
theorem dL_law_1325 : decode cL_law 1325 = .ok (.iconst 1, 1) := by decide +kernel
theorem dL_law_1326 : decode cL_law 1326 = .ok (.iadd, 1) := by decide +kernel
theorem dL_law_1327 : decode cL_law 1327 = .ok (.iaload, 1) := by decide +kernel
theorem dL_law_1328 : decode cL_law 1328 = .ok (.aload_n 0, 1) := by decide +kernel
theorem dL_law_1329 : decode cL_law 1329 = .ok (.iload 4, 2) := by decide +kernel
theorem dL_law_1331 : decode cL_law 1331 = .ok (.iconst 2, 1) := by decide +kernel
theorem dL_law_1332 : decode cL_law 1332 = .ok (.iadd, 1) := by decide +kernel
theorem dL_law_1333 : decode cL_law 1333 = .ok (.iaload, 1) := by decide +kernel
theorem dL_law_1334 : decode cL_law 1334 = .ok (.aload_n 3, 1) := by decide +kernel
theorem dL_law_1335 : decode cL_law 1335 = .ok (.invokestatic 146, 3) := by decide +kernel
theorem dL_law_1338 : decode cL_law 1338 = .ok (.istore 5, 2) := by decide +kernel
theorem dL_law_1340 : decode cL_law 1340 = .ok (.aload_n 2, 1) := by decide +kernel
theorem dL_law_1341 : decode cL_law 1341 = .ok (.aload_n 0, 1) := by decide +kernel
theorem dL_law_1342 : decode cL_law 1342 = .ok (.iload 4, 2) := by decide +kernel
theorem dL_law_1344 : decode cL_law 1344 = .ok (.iconst 1, 1) := by decide +kernel
theorem dL_law_1345 : decode cL_law 1345 = .ok (.iadd, 1) := by decide +kernel
theorem dL_law_1346 : decode cL_law 1346 = .ok (.iaload, 1) := by decide +kernel
theorem dL_law_1347 : decode cL_law 1347 = .ok (.aload_n 0, 1) := by decide +kernel
theorem dL_law_1348 : decode cL_law 1348 = .ok (.iload 4, 2) := by decide +kernel
theorem dL_law_1350 : decode cL_law 1350 = .ok (.iconst 2, 1) := by decide +kernel
theorem dL_law_1351 : decode cL_law 1351 = .ok (.iadd, 1) := by decide +kernel
theorem dL_law_1352 : decode cL_law 1352 = .ok (.iaload, 1) := by decide +kernel
theorem dL_law_1353 : decode cL_law 1353 = .ok (.invokevirtual 148, 3) := by decide +kernel
theorem dL_law_1356 : decode cL_law 1356 = .ok (.istore 6, 2) := by decide +kernel
theorem dL_law_1358 : decode cL_law 1358 = .ok (.aload_n 2, 1) := by decide +kernel
theorem dL_law_1359 : decode cL_law 1359 = .ok (.invokevirtual 87, 3) := by decide +kernel
theorem dL_law_1362 : decode cL_law 1362 = .ok (.iload 5, 2) := by decide +kernel
theorem dL_law_1364 : decode cL_law 1364 = .ok (.if_icmp .eq 5, 3) := by decide +kernel
theorem dL_law_1367 : decode cL_law 1367 = .ok (.iconst 0, 1) := by decide +kernel
theorem dL_law_1368 : decode cL_law 1368 = .ok (.ireturn, 1) := by decide +kernel
theorem dL_law_1369 : decode cL_law 1369 = .ok (.iload 5, 2) := by decide +kernel
theorem dL_law_1371 : decode cL_law 1371 = .ok (.ifCond .ne 15, 3) := by decide +kernel
theorem dL_law_1374 : decode cL_law 1374 = .ok (.aload_n 3, 1) := by decide +kernel
theorem dL_law_1375 : decode cL_law 1375 = .ok (.iconst 0, 1) := by decide +kernel
theorem dL_law_1376 : decode cL_law 1376 = .ok (.laload, 1) := by decide +kernel
theorem dL_law_1377 : decode cL_law 1377 = .ok (.iload 6, 2) := by decide +kernel
theorem dL_law_1379 : decode cL_law 1379 = .ok (.i2l, 1) := by decide +kernel
theorem dL_law_1380 : decode cL_law 1380 = .ok (.lcmp, 1) := by decide +kernel
theorem dL_law_1381 : decode cL_law 1381 = .ok (.ifCond .eq 5, 3) := by decide +kernel
theorem dL_law_1384 : decode cL_law 1384 = .ok (.iconst 0, 1) := by decide +kernel
theorem dL_law_1385 : decode cL_law 1385 = .ok (.ireturn, 1) := by decide +kernel
theorem dL_law_1386 : decode cL_law 1386 = .ok (.goto 98, 3) := by decide +kernel
theorem dL_law_1389 : decode cL_law 1389 = .ok (.aload_n 1, 1) := by decide +kernel
theorem dL_law_1390 : decode cL_law 1390 = .ok (.aload_n 0, 1) := by decide +kernel
theorem dL_law_1391 : decode cL_law 1391 = .ok (.iload 4, 2) := by decide +kernel
theorem dL_law_1393 : decode cL_law 1393 = .ok (.iconst 1, 1) := by decide +kernel
theorem dL_law_1394 : decode cL_law 1394 = .ok (.iadd, 1) := by decide +kernel
theorem dL_law_1395 : decode cL_law 1395 = .ok (.iaload, 1) := by decide +kernel
theorem dL_law_1396 : decode cL_law 1396 = .ok (.aload_n 3, 1) := by decide +kernel
theorem dL_law_1397 : decode cL_law 1397 = .ok (.invokestatic 149, 3) := by decide +kernel
theorem dL_law_1400 : decode cL_law 1400 = .ok (.istore 5, 2) := by decide +kernel
theorem dL_law_1402 : decode cL_law 1402 = .ok (.aload_n 2, 1) := by decide +kernel
theorem dL_law_1403 : decode cL_law 1403 = .ok (.aload_n 0, 1) := by decide +kernel
theorem dL_law_1404 : decode cL_law 1404 = .ok (.iload 4, 2) := by decide +kernel
theorem dL_law_1406 : decode cL_law 1406 = .ok (.iconst 1, 1) := by decide +kernel
theorem dL_law_1407 : decode cL_law 1407 = .ok (.iadd, 1) := by decide +kernel
theorem dL_law_1408 : decode cL_law 1408 = .ok (.iaload, 1) := by decide +kernel
theorem dL_law_1409 : decode cL_law 1409 = .ok (.invokevirtual 151, 3) := by decide +kernel
theorem dL_law_1412 : decode cL_law 1412 = .ok (.istore 6, 2) := by decide +kernel
theorem dL_law_1414 : decode cL_law 1414 = .ok (.aload_n 2, 1) := by decide +kernel
theorem dL_law_1415 : decode cL_law 1415 = .ok (.invokevirtual 87, 3) := by decide +kernel
theorem dL_law_1418 : decode cL_law 1418 = .ok (.iload 5, 2) := by decide +kernel
theorem dL_law_1420 : decode cL_law 1420 = .ok (.if_icmp .eq 5, 3) := by decide +kernel
theorem dL_law_1423 : decode cL_law 1423 = .ok (.iconst 0, 1) := by decide +kernel
theorem dL_law_1424 : decode cL_law 1424 = .ok (.ireturn, 1) := by decide +kernel
theorem dL_law_1425 : decode cL_law 1425 = .ok (.iload 5, 2) := by decide +kernel
theorem dL_law_1427 : decode cL_law 1427 = .ok (.ifCond .ne 15, 3) := by decide +kernel
theorem dL_law_1430 : decode cL_law 1430 = .ok (.aload_n 3, 1) := by decide +kernel
theorem dL_law_1431 : decode cL_law 1431 = .ok (.iconst 0, 1) := by decide +kernel
theorem dL_law_1432 : decode cL_law 1432 = .ok (.laload, 1) := by decide +kernel
theorem dL_law_1433 : decode cL_law 1433 = .ok (.iload 6, 2) := by decide +kernel
theorem dL_law_1435 : decode cL_law 1435 = .ok (.i2l, 1) := by decide +kernel
theorem dL_law_1436 : decode cL_law 1436 = .ok (.lcmp, 1) := by decide +kernel
theorem dL_law_1437 : decode cL_law 1437 = .ok (.ifCond .eq 5, 3) := by decide +kernel
theorem dL_law_1440 : decode cL_law 1440 = .ok (.iconst 0, 1) := by decide +kernel
theorem dL_law_1441 : decode cL_law 1441 = .ok (.ireturn, 1) := by decide +kernel
theorem dL_law_1442 : decode cL_law 1442 = .ok (.goto 42, 3) := by decide +kernel
theorem dL_law_1445 : decode cL_law 1445 = .ok (.aload_n 1, 1) := by decide +kernel
theorem dL_law_1446 : decode cL_law 1446 = .ok (.invokevirtual 152, 3) := by decide +kernel
theorem dL_law_1449 : decode cL_law 1449 = .ok (.aload_n 2, 1) := by decide +kernel
theorem dL_law_1450 : decode cL_law 1450 = .ok (.invokevirtual 155, 3) := by decide +kernel
theorem dL_law_1453 : decode cL_law 1453 = .ok (.if_icmp .eq 31, 3) := by decide +kernel
theorem dL_law_1456 : decode cL_law 1456 = .ok (.iconst 0, 1) := by decide +kernel
theorem dL_law_1457 : decode cL_law 1457 = .ok (.ireturn, 1) := by decide +kernel
theorem dL_law_1458 : decode cL_law 1458 = .ok (.aload_n 1, 1) := by decide +kernel
theorem dL_law_1459 : decode cL_law 1459 = .ok (.invokevirtual 156, 3) := by decide +kernel
theorem dL_law_1462 : decode cL_law 1462 = .ok (.aload_n 2, 1) := by decide +kernel
theorem dL_law_1463 : decode cL_law 1463 = .ok (.invokevirtual 159, 3) := by decide +kernel
theorem dL_law_1466 : decode cL_law 1466 = .ok (.if_icmp .eq 18, 3) := by decide +kernel
theorem dL_law_1469 : decode cL_law 1469 = .ok (.iconst 0, 1) := by decide +kernel
theorem dL_law_1470 : decode cL_law 1470 = .ok (.ireturn, 1) := by decide +kernel
theorem dL_law_1471 : decode cL_law 1471 = .ok (.aload_n 1, 1) := by decide +kernel
theorem dL_law_1472 : decode cL_law 1472 = .ok (.invokevirtual 160, 3) := by decide +kernel
theorem dL_law_1475 : decode cL_law 1475 = .ok (.aload_n 2, 1) := by decide +kernel
theorem dL_law_1476 : decode cL_law 1476 = .ok (.invokevirtual 163, 3) := by decide +kernel
theorem dL_law_1479 : decode cL_law 1479 = .ok (.if_icmp .eq 5, 3) := by decide +kernel
theorem dL_law_1482 : decode cL_law 1482 = .ok (.iconst 0, 1) := by decide +kernel
theorem dL_law_1483 : decode cL_law 1483 = .ok (.ireturn, 1) := by decide +kernel
theorem dL_law_1484 : decode cL_law 1484 = .ok (.iinc 4 5, 3) := by decide +kernel
theorem dL_law_1487 : decode cL_law 1487 = .ok (.goto (-1464), 3) := by decide +kernel
theorem dL_law_1490 : decode cL_law 1490 = .ok (.iconst 1, 1) := by decide +kernel
theorem dL_law_1491 : decode cL_law 1491 = .ok (.ireturn, 1) := by decide +kernel
end
section
/-! THE LAYER: the machine's W over a list of cells (the world), a list of locals and a stack alone. zG E Q cells slots ws lv pc st: from any heap that holds the world ws and any locals that hold lv, the frame at pc with the stack st comes to Q. -/
abbrev zE : Type := Program × Launch × Env × Room × State × MethodId × Array Value × List Frame × Method × Code × va_G × List (ClassId × FieldType) × (Nat → Prop) × Nat
/-- the locals, slot by slot; none: not known. Values of one slot alone. -/
def zL (nL : Nat) (ls : Array Slot) (lv : List (Option Value)) : Prop := lv.length = nL ∧ ∃ l : List (Nat × Value), lv_has ls nL l ∧ ∀ (i : Nat) (v : Value), lv[i]? = some (some v) → (i, v) ∈ l ∧ v.category = 1
theorem zL.at {nL : Nat} {ls : Array Slot} {lv : List (Option Value)} (h : zL nL ls lv) {i : Nat} {v : Value} (hi : lv[i]? = some (some v)) : ls[i]? = some (.val v) := by
  obtain ⟨-, l, h1, h2⟩ := h
  exact h1.2.2 (i, v) (h2 i v hi).1
theorem zL.size {nL : Nat} {ls : Array Slot} {lv : List (Option Value)} (h : zL nL ls lv) : ls.size = nL := by
  obtain ⟨-, l, h1, -⟩ := h
  exact h1.1
theorem zL.set {nL : Nat} {ls : Array Slot} {lv : List (Option Value)} {i : Nat} {v : Value} (h2 : ∀ (i : Nat) (v : Value), lv[i]? = some (some v) → v.category = 1) (hlen : lv.length = nL) (hv : v.category = 1) {l : List (Nat × Value)} (hl : ∀ (i : Nat) (v : Value), lv[i]? = some (some v) → (i, v) ∈ l) (h : lv_has ls nL ((i, v) :: l.filter (fun q => !(q.1 == i) && !(q.1 + 1 == i && q.2.category == 2)))) : zL nL ls (lv.set i (some v)) := by
  refine ⟨by rw [List.length_set]; exact hlen, _, h, fun j w hj => ?_⟩
  by_cases hji : i = j
  · subst hji
    rw [List.getElem?_set] at hj
    by_cases hlt : i < lv.length
    · simp [hlt] at hj
      subst hj
      exact ⟨List.mem_cons_self, hv⟩
    · simp [hlt] at hj
  · rw [List.getElem?_set_ne hji] at hj
    have hc := h2 j w hj
    refine ⟨List.mem_cons_of_mem _ (List.mem_filter.mpr ⟨hl j w hj, ?_⟩), hc⟩
    have : j ≠ i := fun q => hji q.symm
    simp [this, hc]
/-- fewer locals are known -/
def zLe : List (Option Value) → List (Option Value) → Prop
  | [], [] => True
  | a :: l, b :: r => (b = none ∨ b = a) ∧ zLe l r
  | _, _ => False
theorem zLe.len : ∀ {l r : List (Option Value)}, zLe l r → r.length = l.length
  | [], [], _ => rfl
  | _ :: _, _ :: _, h => by rw [List.length_cons, List.length_cons, zLe.len h.2]
theorem zLe.get : ∀ {l r : List (Option Value)}, zLe l r → ∀ {i : Nat} {v : Value}, r[i]? = some (some v) → l[i]? = some (some v)
  | [], [], _, i, v, hr => by simp at hr
  | a :: l, b :: r, h, 0, v, hr => by
    have hb : b = some v := by simpa using hr
    rcases h.1 with h1 | h1
    · rw [h1] at hb; cases hb
    · rw [← h1, hb]; rfl
  | a :: l, b :: r, h, i + 1, v, hr => by
    have := zLe.get h.2 (i := i) (v := v) (by simpa using hr)
    simpa using this
theorem zL.le {nL : Nat} {ls : Array Slot} {l r : List (Option Value)} (h : zL nL ls l) (hle : zLe l r) : zL nL ls r := by
  obtain ⟨h1, l0, h2, h3⟩ := h
  exact ⟨hle.len.trans h1, l0, h2, fun i v hi => h3 i v (hle.get hi)⟩
/-- the frame, its state and what it may write -/
def zG (E : zE) (Q : State → Prop) (cells slots : Nat) (ws : va_W) (lv : List (Option Value)) (pc : Nat) (st : List Value) : Prop :=
  match E with
  | (p, l, e, R, s, m, args, below, meth, c, D, _, A, nL) => ∀ (H : Heap) (locs : List Loc) (ls : Array Slot), va_P D vwCl ws H → va_D A ws → va_S A s.heap H locs → zL nL ls lv → W p l e R s m args below meth c H locs cells slots Q (F0 m pc ls st)
/-- what a method's walk rests on: its code cc, its class, its words, its room -/
def zC (E : zE) (cc : ByteArray) (own : String) (Ts : List Cond) (rm : Room) : Prop :=
  match E with
  | (p, _, _, R, s, m, args, _, meth, c, D, tys, A, nL) => p.tables.exec = Jvm.exec ∧ c.code = cc ∧ c.maxLocals = nL ∧ s.vm.findClass own = some m.cls ∧ (∀ w ∈ Ts, w.before args s = true) ∧ va_K D vwCl tys s ∧ (∀ q : Nat, s.heap.size ≤ q → A q) ∧ meth.locks = false ∧ R = rm
/-- the types of the arrays' classes -/
def zT (E : zE) (t0 : Nat) (cA : ClassId) (ty : FieldType) : Prop :=
  match E with
  | (_, _, _, _, _, _, _, _, _, _, _, tys, _, _) => tys[t0]? = some (cA, ty)
section ZI
variable {E : zE} {Q : State → Prop} {cells slots : Nat} {ws : va_W} {lv : List (Option Value)} {pc : Nat} {st : List Value} {cc : ByteArray} {own : String} {Ts : List Cond} {rm : Room}
theorem z_le {r : List (Option Value)} (hle : zLe lv r) (k : zG E Q cells slots ws r pc st) : zG E Q cells slots ws lv pc st := by
  obtain ⟨p, l, e, R, s, m, args, below, meth, c, D, tys, A, nL⟩ := E
  intro H locs ls hP hD hS hL
  exact k H locs ls hP hD hS (hL.le hle)
theorem z_eq {ws' : va_W} {st' : List Value} (h1 : ws = ws') (h2 : st = st') (k : zG E Q cells slots ws' lv pc st') : zG E Q cells slots ws lv pc st := by
  subst h1; subst h2; exact k
theorem z_top {x y : Int32} (h : x = y) (k : zG E Q cells slots ws lv pc (.int y :: st)) : zG E Q cells slots ws lv pc (.int x :: st) := by
  subst h; exact k
theorem z_widen {k n : Nat} (h1 : cells ≤ k) (h2 : slots ≤ n) (kk : zG E Q k n ws lv pc st) : zG E Q cells slots ws lv pc st := by
  obtain ⟨p, l, e, R, s, m, args, below, meth, c, D, tys, A, nL⟩ := E
  intro H locs ls hP hD hS hL
  exact W.widen h1 h2 (kk H locs ls hP hD hS hL)
theorem z_iconst (C : zC E cc own Ts rm) {n : Int} {v : Int32} (hdg : decode cc pc = .ok (.iconst n, 1)) (hv : Int32.ofInt n = v) (k : zG E Q cells slots ws lv (pc + 1) (.int v :: st)) : zG E Q cells slots ws lv pc st := by
  obtain ⟨p, l, e, R, s, m, args, below, meth, c, D, tys, A, nL⟩ := E
  intro H locs ls hP hD hS hL
  exact lv_iconst C.1 C.2.1 hdg hv (k H locs ls hP hD hS hL)
theorem z_bipush (C : zC E cc own Ts rm) {n : Int} {v : Int32} (hdg : decode cc pc = .ok (.bipush n, 2)) (hv : (Int8.ofInt n).toInt32 = v) (k : zG E Q cells slots ws lv (pc + 2) (.int v :: st)) : zG E Q cells slots ws lv pc st := by
  obtain ⟨p, l, e, R, s, m, args, below, meth, c, D, tys, A, nL⟩ := E
  intro H locs ls hP hD hS hL
  exact lv_bipush C.1 C.2.1 hdg hv (k H locs ls hP hD hS hL)
theorem z_sipush (C : zC E cc own Ts rm) {n : Int} {v : Int32} (hdg : decode cc pc = .ok (.sipush n, 3)) (hv : (Int16.ofInt n).toInt32 = v) (k : zG E Q cells slots ws lv (pc + 3) (.int v :: st)) : zG E Q cells slots ws lv pc st := by
  obtain ⟨p, l, e, R, s, m, args, below, meth, c, D, tys, A, nL⟩ := E
  intro H locs ls hP hD hS hL
  exact lv_sipush C.1 C.2.1 hdg hv (k H locs ls hP hD hS hL)
theorem z_ldc (C : zC E cc own Ts rm) {index : Nat} {v : Int32} (hdg : decode cc pc = .ok (.ldc index, 2)) (hc : Cond.constant own index v ∈ Ts) (k : zG E Q cells slots ws lv (pc + 2) (.int v :: st)) : zG E Q cells slots ws lv pc st := by
  obtain ⟨p, l, e, R, s, m, args, below, meth, c, D, tys, A, nL⟩ := E
  intro H locs ls hP hD hS hL
  exact lv_ldc C.1 C.2.1 C.2.2.2.1 (C.2.2.2.2.1 _ hc) hdg (k H locs ls hP hD hS hL)
theorem z_lconst (C : zC E cc own Ts rm) {n : Fin 2} {v : Int64} (hdg : decode cc pc = .ok (.lconst n, 1)) (hv : Int64.ofNat (n : Nat) = v) (k : zG E Q cells slots ws lv (pc + 1) (.long v :: st)) : zG E Q cells slots ws lv pc st := by
  obtain ⟨p, l, e, R, s, m, args, below, meth, c, D, tys, A, nL⟩ := E
  intro H locs ls hP hD hS hL
  exact lv_lconst C.1 C.2.1 hdg hv (k H locs ls hP hD hS hL)
theorem z_iload_n (C : zC E cc own Ts rm) {kk : Fin 4} {i : Nat} {x : Int32} (hdg : decode cc pc = .ok (.iload_n kk, 1)) (hi : (kk : Nat) = i) (hl : lv[i]? = some (some (.int x))) (k : zG E Q cells slots ws lv (pc + 1) (.int x :: st)) : zG E Q cells slots ws lv pc st := by
  obtain ⟨p, l, e, R, s, m, args, below, meth, c, D, tys, A, nL⟩ := E
  intro H locs ls hP hD hS hL
  exact lv_iload_n C.1 C.2.1 hdg hi (hL.at hl) (k H locs ls hP hD hS hL)
theorem z_iload (C : zC E cc own Ts rm) {i : Nat} {x : Int32} (hdg : decode cc pc = .ok (.iload i, 2)) (hl : lv[i]? = some (some (.int x))) (k : zG E Q cells slots ws lv (pc + 2) (.int x :: st)) : zG E Q cells slots ws lv pc st := by
  obtain ⟨p, l, e, R, s, m, args, below, meth, c, D, tys, A, nL⟩ := E
  intro H locs ls hP hD hS hL
  exact lv_iload C.1 C.2.1 hdg (hL.at hl) (k H locs ls hP hD hS hL)
theorem z_aload_n (C : zC E cc own Ts rm) {kk : Fin 4} {i : Nat} {x : Nat} (hdg : decode cc pc = .ok (.aload_n kk, 1)) (hi : (kk : Nat) = i) (hl : lv[i]? = some (some (.ref x))) (k : zG E Q cells slots ws lv (pc + 1) (.ref x :: st)) : zG E Q cells slots ws lv pc st := by
  obtain ⟨p, l, e, R, s, m, args, below, meth, c, D, tys, A, nL⟩ := E
  intro H locs ls hP hD hS hL
  exact lv_aload_n C.1 C.2.1 hdg hi (hL.at hl) (k H locs ls hP hD hS hL)
theorem z_aload (C : zC E cc own Ts rm) {i : Nat} {x : Nat} (hdg : decode cc pc = .ok (.aload i, 2)) (hl : lv[i]? = some (some (.ref x))) (k : zG E Q cells slots ws lv (pc + 2) (.ref x :: st)) : zG E Q cells slots ws lv pc st := by
  obtain ⟨p, l, e, R, s, m, args, below, meth, c, D, tys, A, nL⟩ := E
  intro H locs ls hP hD hS hL
  exact lv_aload C.1 C.2.1 hdg (hL.at hl) (k H locs ls hP hD hS hL)
theorem zL.lt {nL : Nat} {ls : Array Slot} {i : Nat} {x : Option Value} (h : zL nL ls lv) (hi : lv[i]? = some x) : i < nL := by
  rw [← h.1]
  exact (List.getElem?_eq_some_iff.mp hi).1
theorem z_istore_n (C : zC E cc own Ts rm) {kk : Fin 4} {i : Nat} {x : Int32} {o : Option Value} {lv' : List (Option Value)} (hdg : decode cc pc = .ok (.istore_n kk, 1)) (hi : (kk : Nat) = i) (hl : lv[i]? = some o) (hs : lv.set i (some (.int x)) = lv') (k : zG E Q cells slots ws lv' (pc + 1) st) : zG E Q cells slots ws lv pc (.int x :: st) := by
  obtain ⟨p, l, e, R, s, m, args, below, meth, c, D, tys, A, nL⟩ := E
  intro H locs ls hP hD hS hL
  subst hs
  obtain ⟨h1, l0, h2, h3⟩ := id hL
  exact lv_istore_n C.1 C.2.1 hdg hi h2 (hL.lt hl) rfl (fun ls' hl' => k H locs ls' hP hD hS (zL.set (fun i v h => (h3 i v h).2) h1 rfl (fun i v h => (h3 i v h).1) hl'))
theorem z_istore (C : zC E cc own Ts rm) {i : Nat} {x : Int32} {o : Option Value} {lv' : List (Option Value)} (hdg : decode cc pc = .ok (.istore i, 2)) (hl : lv[i]? = some o) (hs : lv.set i (some (.int x)) = lv') (k : zG E Q cells slots ws lv' (pc + 2) st) : zG E Q cells slots ws lv pc (.int x :: st) := by
  obtain ⟨p, l, e, R, s, m, args, below, meth, c, D, tys, A, nL⟩ := E
  intro H locs ls hP hD hS hL
  subst hs
  obtain ⟨h1, l0, h2, h3⟩ := id hL
  exact lv_istore C.1 C.2.1 hdg h2 (hL.lt hl) rfl (fun ls' hl' => k H locs ls' hP hD hS (zL.set (fun i v h => (h3 i v h).2) h1 rfl (fun i v h => (h3 i v h).1) hl'))
theorem z_astore_n (C : zC E cc own Ts rm) {kk : Fin 4} {i : Nat} {x : Nat} {o : Option Value} {lv' : List (Option Value)} (hdg : decode cc pc = .ok (.astore_n kk, 1)) (hi : (kk : Nat) = i) (hl : lv[i]? = some o) (hs : lv.set i (some (.ref x)) = lv') (k : zG E Q cells slots ws lv' (pc + 1) st) : zG E Q cells slots ws lv pc (.ref x :: st) := by
  obtain ⟨p, l, e, R, s, m, args, below, meth, c, D, tys, A, nL⟩ := E
  intro H locs ls hP hD hS hL
  subst hs
  obtain ⟨h1, l0, h2, h3⟩ := id hL
  exact lv_astore_n C.1 C.2.1 hdg hi h2 (hL.lt hl) rfl (fun ls' hl' => k H locs ls' hP hD hS (zL.set (fun i v h => (h3 i v h).2) h1 rfl (fun i v h => (h3 i v h).1) hl'))
theorem z_astore (C : zC E cc own Ts rm) {i : Nat} {x : Nat} {o : Option Value} {lv' : List (Option Value)} (hdg : decode cc pc = .ok (.astore i, 2)) (hl : lv[i]? = some o) (hs : lv.set i (some (.ref x)) = lv') (k : zG E Q cells slots ws lv' (pc + 2) st) : zG E Q cells slots ws lv pc (.ref x :: st) := by
  obtain ⟨p, l, e, R, s, m, args, below, meth, c, D, tys, A, nL⟩ := E
  intro H locs ls hP hD hS hL
  subst hs
  obtain ⟨h1, l0, h2, h3⟩ := id hL
  exact lv_astore C.1 C.2.1 hdg h2 (hL.lt hl) rfl (fun ls' hl' => k H locs ls' hP hD hS (zL.set (fun i v h => (h3 i v h).2) h1 rfl (fun i v h => (h3 i v h).1) hl'))
theorem z_iinc (C : zC E cc own Ts rm) {i : Nat} {n : Int} {x v : Int32} {lv' : List (Option Value)} (hdg : decode cc pc = .ok (.iinc i n, 3)) (hl : lv[i]? = some (some (.int x))) (hv : x + Int32.ofInt n = v) (hs : lv.set i (some (.int v)) = lv') (k : zG E Q cells slots ws lv' (pc + 3) st) : zG E Q cells slots ws lv pc st := by
  obtain ⟨p, l, e, R, s, m, args, below, meth, c, D, tys, A, nL⟩ := E
  intro H locs ls hP hD hS hL
  subst hs
  obtain ⟨h1, l0, h2, h3⟩ := id hL
  obtain ⟨k0, hk0⟩ := List.getElem?_of_mem (h3 i _ hl).1
  exact lv_iinc C.1 C.2.1 hdg h2 hk0 hv (hL.lt hl) rfl (fun ls' hl' => k H locs ls' hP hD hS (zL.set (fun i v h => (h3 i v h).2) h1 rfl (fun i v h => (h3 i v h).1) hl'))
theorem z_iadd (C : zC E cc own Ts rm) {x y : Int32} (hdg : decode cc pc = .ok (.iadd, 1)) (k : zG E Q cells slots ws lv (pc + 1) (.int (x + y) :: st)) : zG E Q cells slots ws lv pc (.int y :: .int x :: st) := by
  obtain ⟨p, l, e, R, s, m, args, below, meth, c, D, tys, A, nL⟩ := E
  intro H locs ls hP hD hS hL
  exact lv_iadd C.1 C.2.1 hdg (k H locs ls hP hD hS hL)
theorem z_isub (C : zC E cc own Ts rm) {x y : Int32} (hdg : decode cc pc = .ok (.isub, 1)) (k : zG E Q cells slots ws lv (pc + 1) (.int (x - y) :: st)) : zG E Q cells slots ws lv pc (.int y :: .int x :: st) := by
  obtain ⟨p, l, e, R, s, m, args, below, meth, c, D, tys, A, nL⟩ := E
  intro H locs ls hP hD hS hL
  exact lv_isub C.1 C.2.1 hdg (k H locs ls hP hD hS hL)
theorem z_imul (C : zC E cc own Ts rm) {x y : Int32} (hdg : decode cc pc = .ok (.imul, 1)) (k : zG E Q cells slots ws lv (pc + 1) (.int (x * y) :: st)) : zG E Q cells slots ws lv pc (.int y :: .int x :: st) := by
  obtain ⟨p, l, e, R, s, m, args, below, meth, c, D, tys, A, nL⟩ := E
  intro H locs ls hP hD hS hL
  exact lv_imul C.1 C.2.1 hdg (k H locs ls hP hD hS hL)
theorem z_iand (C : zC E cc own Ts rm) {x y : Int32} (hdg : decode cc pc = .ok (.iand, 1)) (k : zG E Q cells slots ws lv (pc + 1) (.int (x &&& y) :: st)) : zG E Q cells slots ws lv pc (.int y :: .int x :: st) := by
  obtain ⟨p, l, e, R, s, m, args, below, meth, c, D, tys, A, nL⟩ := E
  intro H locs ls hP hD hS hL
  exact lv_iand C.1 C.2.1 hdg (k H locs ls hP hD hS hL)
theorem z_ior (C : zC E cc own Ts rm) {x y : Int32} (hdg : decode cc pc = .ok (.ior, 1)) (k : zG E Q cells slots ws lv (pc + 1) (.int (x ||| y) :: st)) : zG E Q cells slots ws lv pc (.int y :: .int x :: st) := by
  obtain ⟨p, l, e, R, s, m, args, below, meth, c, D, tys, A, nL⟩ := E
  intro H locs ls hP hD hS hL
  exact lv_ior C.1 C.2.1 hdg (k H locs ls hP hD hS hL)
theorem z_ixor (C : zC E cc own Ts rm) {x y : Int32} (hdg : decode cc pc = .ok (.ixor, 1)) (k : zG E Q cells slots ws lv (pc + 1) (.int (x ^^^ y) :: st)) : zG E Q cells slots ws lv pc (.int y :: .int x :: st) := by
  obtain ⟨p, l, e, R, s, m, args, below, meth, c, D, tys, A, nL⟩ := E
  intro H locs ls hP hD hS hL
  exact lv_ixor C.1 C.2.1 hdg (k H locs ls hP hD hS hL)
theorem z_ishl (C : zC E cc own Ts rm) {x y : Int32} (hdg : decode cc pc = .ok (.ishl, 1)) (k : zG E Q cells slots ws lv (pc + 1) (.int (x <<< (y &&& 31)) :: st)) : zG E Q cells slots ws lv pc (.int y :: .int x :: st) := by
  obtain ⟨p, l, e, R, s, m, args, below, meth, c, D, tys, A, nL⟩ := E
  intro H locs ls hP hD hS hL
  exact lv_ishl C.1 C.2.1 hdg (k H locs ls hP hD hS hL)
theorem z_ishr (C : zC E cc own Ts rm) {x y : Int32} (hdg : decode cc pc = .ok (.ishr, 1)) (k : zG E Q cells slots ws lv (pc + 1) (.int (x >>> (y &&& 31)) :: st)) : zG E Q cells slots ws lv pc (.int y :: .int x :: st) := by
  obtain ⟨p, l, e, R, s, m, args, below, meth, c, D, tys, A, nL⟩ := E
  intro H locs ls hP hD hS hL
  exact lv_ishr C.1 C.2.1 hdg (k H locs ls hP hD hS hL)
theorem z_irem (C : zC E cc own Ts rm) {x y : Int32} (hdg : decode cc pc = .ok (.irem, 1)) (hne : ¬ y = 0) (k : zG E Q cells slots ws lv (pc + 1) (.int (x - x / y * y) :: st)) : zG E Q cells slots ws lv pc (.int y :: .int x :: st) := by
  obtain ⟨p, l, e, R, s, m, args, below, meth, c, D, tys, A, nL⟩ := E
  intro H locs ls hP hD hS hL
  exact lv_irem C.1 C.2.1 hdg hne (k H locs ls hP hD hS hL)
theorem z_iushr (C : zC E cc own Ts rm) {x y v : Int32} (hdg : decode cc pc = .ok (.iushr, 1)) (hv : (x.toUInt32 >>> (y.toUInt32 &&& Int32.toUInt32 31)).toInt32 = v) (k : zG E Q cells slots ws lv (pc + 1) (.int v :: st)) : zG E Q cells slots ws lv pc (.int y :: .int x :: st) := by
  obtain ⟨p, l, e, R, s, m, args, below, meth, c, D, tys, A, nL⟩ := E
  intro H locs ls hP hD hS hL
  exact lv_iushr C.1 C.2.1 hdg hv (k H locs ls hP hD hS hL)
theorem z_i2l (C : zC E cc own Ts rm) {x : Int32} {v : Int64} (hdg : decode cc pc = .ok (.i2l, 1)) (hv : x.toInt64 = v) (k : zG E Q cells slots ws lv (pc + 1) (.long v :: st)) : zG E Q cells slots ws lv pc (.int x :: st) := by
  obtain ⟨p, l, e, R, s, m, args, below, meth, c, D, tys, A, nL⟩ := E
  intro H locs ls hP hD hS hL
  exact lv_i2l C.1 C.2.1 hdg hv (k H locs ls hP hD hS hL)
theorem z_dup (C : zC E cc own Ts rm) {v : Value} (hdg : decode cc pc = .ok (.dup, 1)) (hv : v.category = 1) (k : zG E Q cells slots ws lv (pc + 1) (v :: v :: st)) : zG E Q cells slots ws lv pc (v :: st) := by
  obtain ⟨p, l, e, R, s, m, args, below, meth, c, D, tys, A, nL⟩ := E
  intro H locs ls hP hD hS hL
  exact lv_dup C.1 C.2.1 hdg hv (k H locs ls hP hD hS hL)
theorem z_dup2 (C : zC E cc own Ts rm) {v w : Value} (hdg : decode cc pc = .ok (.dup2, 1)) (hv : v.category = 1) (hw : w.category = 1) (k : zG E Q cells slots ws lv (pc + 1) (v :: w :: v :: w :: st)) : zG E Q cells slots ws lv pc (v :: w :: st) := by
  obtain ⟨p, l, e, R, s, m, args, below, meth, c, D, tys, A, nL⟩ := E
  intro H locs ls hP hD hS hL
  exact lv_dup2_11 C.1 C.2.1 hdg hv hw (k H locs ls hP hD hS hL)
theorem z_if_eq (C : zC E cc own Ts rm) {x : Int32} {off : Int} {tgt : Nat} (hdg : decode cc pc = .ok (.ifCond .eq off, 3)) (ht : (pc : Int) + off = (tgt : Int)) (kt : x = 0 → zG E Q cells slots ws lv tgt st) (kf : ¬ x = 0 → zG E Q cells slots ws lv (pc + 3) st) : zG E Q cells slots ws lv pc (.int x :: st) := by
  obtain ⟨p, l, e, R, s, m, args, below, meth, c, D, tys, A, nL⟩ := E
  intro H locs ls hP hD hS hL
  exact lv_if_eq C.1 C.2.1 hdg ht (fun h => kt h H locs ls hP hD hS hL) (fun h => kf h H locs ls hP hD hS hL)
theorem z_icmp_eq (C : zC E cc own Ts rm) {x y : Int32} {off : Int} {tgt : Nat} (hdg : decode cc pc = .ok (.if_icmp .eq off, 3)) (ht : (pc : Int) + off = (tgt : Int)) (kt : x = y → zG E Q cells slots ws lv tgt st) (kf : ¬ x = y → zG E Q cells slots ws lv (pc + 3) st) : zG E Q cells slots ws lv pc (.int y :: .int x :: st) := by
  obtain ⟨p, l, e, R, s, m, args, below, meth, c, D, tys, A, nL⟩ := E
  intro H locs ls hP hD hS hL
  exact lv_icmp_eq C.1 C.2.1 hdg ht (fun h => kt h H locs ls hP hD hS hL) (fun h => kf h H locs ls hP hD hS hL)
theorem z_if_ne (C : zC E cc own Ts rm) {x : Int32} {off : Int} {tgt : Nat} (hdg : decode cc pc = .ok (.ifCond .ne off, 3)) (ht : (pc : Int) + off = (tgt : Int)) (kt : ¬ x = 0 → zG E Q cells slots ws lv tgt st) (kf : x = 0 → zG E Q cells slots ws lv (pc + 3) st) : zG E Q cells slots ws lv pc (.int x :: st) := by
  obtain ⟨p, l, e, R, s, m, args, below, meth, c, D, tys, A, nL⟩ := E
  intro H locs ls hP hD hS hL
  exact lv_if_ne C.1 C.2.1 hdg ht (fun h => kt h H locs ls hP hD hS hL) (fun h => kf h H locs ls hP hD hS hL)
theorem z_icmp_ne (C : zC E cc own Ts rm) {x y : Int32} {off : Int} {tgt : Nat} (hdg : decode cc pc = .ok (.if_icmp .ne off, 3)) (ht : (pc : Int) + off = (tgt : Int)) (kt : ¬ x = y → zG E Q cells slots ws lv tgt st) (kf : x = y → zG E Q cells slots ws lv (pc + 3) st) : zG E Q cells slots ws lv pc (.int y :: .int x :: st) := by
  obtain ⟨p, l, e, R, s, m, args, below, meth, c, D, tys, A, nL⟩ := E
  intro H locs ls hP hD hS hL
  exact lv_icmp_ne C.1 C.2.1 hdg ht (fun h => kt h H locs ls hP hD hS hL) (fun h => kf h H locs ls hP hD hS hL)
theorem z_if_lt (C : zC E cc own Ts rm) {x : Int32} {off : Int} {tgt : Nat} (hdg : decode cc pc = .ok (.ifCond .lt off, 3)) (ht : (pc : Int) + off = (tgt : Int)) (kt : x < 0 → zG E Q cells slots ws lv tgt st) (kf : ¬ x < 0 → zG E Q cells slots ws lv (pc + 3) st) : zG E Q cells slots ws lv pc (.int x :: st) := by
  obtain ⟨p, l, e, R, s, m, args, below, meth, c, D, tys, A, nL⟩ := E
  intro H locs ls hP hD hS hL
  exact lv_if_lt C.1 C.2.1 hdg ht (fun h => kt h H locs ls hP hD hS hL) (fun h => kf h H locs ls hP hD hS hL)
theorem z_icmp_lt (C : zC E cc own Ts rm) {x y : Int32} {off : Int} {tgt : Nat} (hdg : decode cc pc = .ok (.if_icmp .lt off, 3)) (ht : (pc : Int) + off = (tgt : Int)) (kt : x < y → zG E Q cells slots ws lv tgt st) (kf : ¬ x < y → zG E Q cells slots ws lv (pc + 3) st) : zG E Q cells slots ws lv pc (.int y :: .int x :: st) := by
  obtain ⟨p, l, e, R, s, m, args, below, meth, c, D, tys, A, nL⟩ := E
  intro H locs ls hP hD hS hL
  exact lv_icmp_lt C.1 C.2.1 hdg ht (fun h => kt h H locs ls hP hD hS hL) (fun h => kf h H locs ls hP hD hS hL)
theorem z_if_ge (C : zC E cc own Ts rm) {x : Int32} {off : Int} {tgt : Nat} (hdg : decode cc pc = .ok (.ifCond .ge off, 3)) (ht : (pc : Int) + off = (tgt : Int)) (kt : 0 ≤ x → zG E Q cells slots ws lv tgt st) (kf : ¬ 0 ≤ x → zG E Q cells slots ws lv (pc + 3) st) : zG E Q cells slots ws lv pc (.int x :: st) := by
  obtain ⟨p, l, e, R, s, m, args, below, meth, c, D, tys, A, nL⟩ := E
  intro H locs ls hP hD hS hL
  exact lv_if_ge C.1 C.2.1 hdg ht (fun h => kt h H locs ls hP hD hS hL) (fun h => kf h H locs ls hP hD hS hL)
theorem z_icmp_ge (C : zC E cc own Ts rm) {x y : Int32} {off : Int} {tgt : Nat} (hdg : decode cc pc = .ok (.if_icmp .ge off, 3)) (ht : (pc : Int) + off = (tgt : Int)) (kt : y ≤ x → zG E Q cells slots ws lv tgt st) (kf : ¬ y ≤ x → zG E Q cells slots ws lv (pc + 3) st) : zG E Q cells slots ws lv pc (.int y :: .int x :: st) := by
  obtain ⟨p, l, e, R, s, m, args, below, meth, c, D, tys, A, nL⟩ := E
  intro H locs ls hP hD hS hL
  exact lv_icmp_ge C.1 C.2.1 hdg ht (fun h => kt h H locs ls hP hD hS hL) (fun h => kf h H locs ls hP hD hS hL)
theorem z_if_gt (C : zC E cc own Ts rm) {x : Int32} {off : Int} {tgt : Nat} (hdg : decode cc pc = .ok (.ifCond .gt off, 3)) (ht : (pc : Int) + off = (tgt : Int)) (kt : 0 < x → zG E Q cells slots ws lv tgt st) (kf : ¬ 0 < x → zG E Q cells slots ws lv (pc + 3) st) : zG E Q cells slots ws lv pc (.int x :: st) := by
  obtain ⟨p, l, e, R, s, m, args, below, meth, c, D, tys, A, nL⟩ := E
  intro H locs ls hP hD hS hL
  exact lv_if_gt C.1 C.2.1 hdg ht (fun h => kt h H locs ls hP hD hS hL) (fun h => kf h H locs ls hP hD hS hL)
theorem z_icmp_gt (C : zC E cc own Ts rm) {x y : Int32} {off : Int} {tgt : Nat} (hdg : decode cc pc = .ok (.if_icmp .gt off, 3)) (ht : (pc : Int) + off = (tgt : Int)) (kt : y < x → zG E Q cells slots ws lv tgt st) (kf : ¬ y < x → zG E Q cells slots ws lv (pc + 3) st) : zG E Q cells slots ws lv pc (.int y :: .int x :: st) := by
  obtain ⟨p, l, e, R, s, m, args, below, meth, c, D, tys, A, nL⟩ := E
  intro H locs ls hP hD hS hL
  exact lv_icmp_gt C.1 C.2.1 hdg ht (fun h => kt h H locs ls hP hD hS hL) (fun h => kf h H locs ls hP hD hS hL)
theorem z_if_le (C : zC E cc own Ts rm) {x : Int32} {off : Int} {tgt : Nat} (hdg : decode cc pc = .ok (.ifCond .le off, 3)) (ht : (pc : Int) + off = (tgt : Int)) (kt : x ≤ 0 → zG E Q cells slots ws lv tgt st) (kf : ¬ x ≤ 0 → zG E Q cells slots ws lv (pc + 3) st) : zG E Q cells slots ws lv pc (.int x :: st) := by
  obtain ⟨p, l, e, R, s, m, args, below, meth, c, D, tys, A, nL⟩ := E
  intro H locs ls hP hD hS hL
  exact lv_if_le C.1 C.2.1 hdg ht (fun h => kt h H locs ls hP hD hS hL) (fun h => kf h H locs ls hP hD hS hL)
theorem z_icmp_le (C : zC E cc own Ts rm) {x y : Int32} {off : Int} {tgt : Nat} (hdg : decode cc pc = .ok (.if_icmp .le off, 3)) (ht : (pc : Int) + off = (tgt : Int)) (kt : x ≤ y → zG E Q cells slots ws lv tgt st) (kf : ¬ x ≤ y → zG E Q cells slots ws lv (pc + 3) st) : zG E Q cells slots ws lv pc (.int y :: .int x :: st) := by
  obtain ⟨p, l, e, R, s, m, args, below, meth, c, D, tys, A, nL⟩ := E
  intro H locs ls hP hD hS hL
  exact lv_icmp_le C.1 C.2.1 hdg ht (fun h => kt h H locs ls hP hD hS hL) (fun h => kf h H locs ls hP hD hS hL)
theorem z_goto (C : zC E cc own Ts rm) {off : Int} {tgt : Nat} (hdg : decode cc pc = .ok (.goto off, 3)) (ht : (pc : Int) + off = (tgt : Int)) (k : zG E Q cells slots ws lv tgt st) : zG E Q cells slots ws lv pc st := by
  obtain ⟨p, l, e, R, s, m, args, below, meth, c, D, tys, A, nL⟩ := E
  intro H locs ls hP hD hS hL
  exact lv_goto C.1 C.2.1 hdg ht (k H locs ls hP hD hS hL)
theorem z_ifnonnull (C : zC E cc own Ts rm) {x : Nat} {off : Int} {tgt : Nat} (hdg : decode cc pc = .ok (.ifnonnull off, 3)) (ht : (pc : Int) + off = (tgt : Int)) (k : zG E Q cells slots ws lv tgt st) : zG E Q cells slots ws lv pc (.ref x :: st) := by
  obtain ⟨p, l, e, R, s, m, args, below, meth, c, D, tys, A, nL⟩ := E
  intro H locs ls hP hD hS hL
  exact lv_ifnonnull C.1 C.2.1 hdg ht (k H locs ls hP hD hS hL)
theorem z_lcmp (C : zC E cc own Ts rm) {x y : Int64} (hdg : decode cc pc = .ok (.lcmp, 1)) (k : zG E Q cells slots ws lv (pc + 1) (.int (lg_cmp x y) :: st)) : zG E Q cells slots ws lv pc (.long y :: .long x :: st) := by
  obtain ⟨p, l, e, R, s, m, args, below, meth, c, D, tys, A, nL⟩ := E
  intro H locs ls hP hD hS hL
  exact W.lcmp C.1 C.2.1 hdg (k H locs ls hP hD hS hL)
end ZI
end
section
/-! THE LAYER, second part: fields, arrays, new cells. -/
section ZH
variable {E : zE} {Q : State → Prop} {cells slots : Nat} {ws ws' : va_W} {lv : List (Option Value)} {pc : Nat} {st : List Value} {cc : ByteArray} {own : String} {Ts : List Cond} {rm : Room}
theorem z_get (C : zC E cc own Ts rm) {Cn : String} {T : u_T} {N ci index : Nat} {a : Nat} {fs : List Value} {v : Value} (hin : ∀ w ∈ u_ws Cn T N, w ∈ Ts) (q0 : Nat) (he : ws[q0]? = some (a, .inr (ci, fs))) (hc : vwCl[ci]? = some (Cn, T, N)) (k : Nat) (hk : k < N) (hlink : Cond.fieldLink own index (T k).1 (T k).2.1 (T k).2.2.1 ∈ Ts) (hv : fs[k]? = some v) (hdg : decode cc pc = .ok (.getfield index, 3)) (kk : zG E Q cells slots ws lv (pc + 3) (v :: st)) : zG E Q cells slots ws lv pc (.ref a :: st) := by
  obtain ⟨p, l, e, R, s, m, args, below, meth, c, D, tys, A, nL⟩ := E
  intro H locs ls hP hD hS hL
  exact va_get C.1 C.2.1 C.2.2.2.2.1 hin C.2.2.2.1 C.2.2.2.2.2.1 hP q0 he hc k hk (C.2.2.2.2.1 _ hlink) (fun _ h => h) hv hdg (kk H locs ls hP hD hS hL)
theorem z_put (C : zC E cc own Ts rm) {Cn : String} {T : u_T} {N ci index : Nat} {a : Nat} {fs : List Value} {v : Value} {ty : FieldType} {ty0 : Nat → FieldType} (hin : ∀ w ∈ u_ws Cn T N, w ∈ Ts) (hty : ∀ k, k < N → parseFieldDescriptor (T k).2.2.1 = some (ty0 k)) (hnm : ∀ a, a < N → ∀ b, b < N → a ≠ b → (T a).2.1 ≠ (T b).2.1) (q0 : Nat) (he : ws[q0]? = some (a, .inr (ci, fs))) (hc : vwCl[ci]? = some (Cn, T, N)) (k : Nat) (hk : k < N) (hlink : Cond.fieldLink own index (T k).1 (T k).2.1 (T k).2.2.1 ∈ Ts) (hfin : (T k).2.2.2 = false) (hd : parseFieldDescriptor (T k).2.2.1 = some ty) (hn : narrow ty v = v) (hfit : fits ty v = true) (hl : k < fs.length) (hs : ws.set q0 (a, .inr (ci, fs.set k v)) = ws') (hdg : decode cc pc = .ok (.putfield index, 3)) (kk : zG E Q cells slots ws' lv (pc + 3) st) : zG E Q cells slots ws lv pc (v :: .ref a :: st) := by
  obtain ⟨p, l, e, R, s, m, args, below, meth, c, D, tys, A, nL⟩ := E
  intro H locs ls hP hD hS hL
  subst hs
  exact va_put C.1 C.2.1 C.2.2.2.2.1 hin ty0 hty hnm C.2.2.2.1 C.2.2.2.2.2.1 hP hD hS q0 he hc k hk (C.2.2.2.2.1 _ hlink) (fun _ h => h) hfin hd hn hfit hl hdg (fun H1 locs1 hP hD hS => kk H1 locs1 ls hP hD hS hL)
/-- in a constructor: E's method is <init> -/
def zInit (E : zE) : Prop :=
  match E with
  | (_, _, _, _, _, _, _, _, meth, _, _, _, _, _) => meth.name = "<init>"
theorem z_putF (C : zC E cc own Ts rm) (hI : zInit E) {Cn : String} {T : u_T} {N ci index : Nat} {a : Nat} {fs : List Value} {v : Value} {ty : FieldType} {ty0 : Nat → FieldType} (hin : ∀ w ∈ u_ws Cn T N, w ∈ Ts) (hty : ∀ k, k < N → parseFieldDescriptor (T k).2.2.1 = some (ty0 k)) (hnm : ∀ a, a < N → ∀ b, b < N → a ≠ b → (T a).2.1 ≠ (T b).2.1) (q0 : Nat) (he : ws[q0]? = some (a, .inr (ci, fs))) (hc : vwCl[ci]? = some (Cn, T, N)) (k : Nat) (hk : k < N) (hlink : Cond.fieldLink own index (T k).1 (T k).2.1 (T k).2.2.1 ∈ Ts) (hfin : (T k).2.2.2 = true) (hdecl : (T k).1 = own) (hd : parseFieldDescriptor (T k).2.2.1 = some ty) (hn : narrow ty v = v) (hfit : fits ty v = true) (hl : k < fs.length) (hs : ws.set q0 (a, .inr (ci, fs.set k v)) = ws') (hdg : decode cc pc = .ok (.putfield index, 3)) (kk : zG E Q cells slots ws' lv (pc + 3) st) : zG E Q cells slots ws lv pc (v :: .ref a :: st) := by
  obtain ⟨p, l, e, R, s, m, args, below, meth, c, D, tys, A, nL⟩ := E
  intro H locs ls hP hD hS hL
  subst hs
  exact va_putF C.1 C.2.1 C.2.2.2.2.1 hin ty0 hty hnm C.2.2.2.1 C.2.2.2.2.2.1 hP hD hS q0 he hc k hk (C.2.2.2.2.1 _ hlink) (fun _ h => h) hfin hI hdecl hd hn hfit hl hdg (fun H1 locs1 hP hD hS => kk H1 locs1 ls hP hD hS hL)
/-- whole numbers as machine numbers -/
def iI (z : Int) : Int32 := Int32.ofInt z
/-- in an int's range -/
abbrev iR (z : Int) : Prop := -2147483648 ≤ z ∧ z < 2147483648
theorem iI_toInt {z : Int} (h : iR z) : (iI z).toInt = z := by
  obtain ⟨h1, h2⟩ := h
  exact Int32.toInt_ofInt_of_le (by omega) (by omega)
theorem iI_of (x : Int32) : x = iI x.toInt := (Int32.ofInt_toInt x).symm
theorem iI_rng (x : Int32) : iR x.toInt := ⟨Int32.le_toInt x, Int32.toInt_lt x⟩
theorem iI_clamp {z : Int} (h0 : 0 ≤ z) (h : z < 2147483648) : ((iI z).toNatClampNeg : Int) = z := by
  show (((iI z).toInt.toNat : Nat) : Int) = z
  rw [iI_toInt ⟨by omega, h⟩]
  omega
theorem iI_in {z : Int} {n : Nat} (h0 : 0 ≤ z) (h : z < n) (hn : n ≤ 2147483647) : vp_in (iI z) n := by
  rw [vp_in_iff, iI_toInt ⟨by omega, by omega⟩]
  omega
/-- an array of ints, its places numbered by whole numbers -/
def ar (cA : ClassId) (n : Nat) (f : Int → Int32) : va_E := .inl (cA, (n, .inl (fun k : Nat => f (k : Int))))
/-- an array of references -/
def rr (cA : ClassId) (n : Nat) (f : Int → Option Nat) : va_E := .inl (cA, (n, .inr (.inr (.inr (.inr (fun k : Nat => f (k : Int)))))))
/-- an array of longs -/
def lr (cA : ClassId) (n : Nat) (f : Int → Int64) : va_E := .inl (cA, (n, .inr (.inl (fun k : Nat => f (k : Int)))))
def zup {α : Type} (f : Int → α) (z : Int) (x : α) : Int → α := fun j => if j = z then x else f j
theorem zup_self {α : Type} (f : Int → α) (z : Int) (x : α) : zup f z x z = x := if_pos rfl
theorem zup_ne {α : Type} (f : Int → α) {z j : Int} (x : α) (h : j ≠ z) : zup f z x j = f j := if_neg h
theorem zup_upd (f : Int → Int32) {z : Int} (h0 : 0 ≤ z) (h : z < 2147483648) (x : Int32) : upd (fun k : Nat => f (k : Int)) (iI z).toNatClampNeg x = fun k : Nat => zup f z x (k : Int) := by
  funext k
  have hc := iI_clamp h0 h
  show (if k = (iI z).toNatClampNeg then x else f (k : Int)) = if (k : Int) = z then x else f (k : Int)
  by_cases hk : k = (iI z).toNatClampNeg
  · rw [if_pos hk, if_pos (by omega)]
  · rw [if_neg hk, if_neg (by omega)]
theorem zup_vaup {α : Type} (f : Int → α) {z : Int} (h0 : 0 ≤ z) (h : z < 2147483648) (x : α) : va_up (fun k : Nat => f (k : Int)) (iI z).toNatClampNeg x = fun k : Nat => zup f z x (k : Int) := by
  funext k
  have hc := iI_clamp h0 h
  show (if k = (iI z).toNatClampNeg then x else f (k : Int)) = if (k : Int) = z then x else f (k : Int)
  by_cases hk : k = (iI z).toNatClampNeg
  · rw [if_pos hk, if_pos (by omega)]
  · rw [if_neg hk, if_neg (by omega)]
theorem z_iaload (C : zC E cc own Ts rm) {a n t0 : Nat} {cA : ClassId} {f : Int → Int32} {z : Int} (q0 : Nat) (he : ws[q0]? = some (a, ar cA n f)) (ht : zT E t0 cA .int) (h0 : 0 ≤ z) (h : z < n) (hn : n ≤ 2147483647) (hdg : decode cc pc = .ok (.iaload, 1)) (kk : zG E Q cells slots ws lv (pc + 1) (.int (f z) :: st)) : zG E Q cells slots ws lv pc (.int (iI z) :: .ref a :: st) := by
  obtain ⟨p, l, e, R, s, m, args, below, meth, c, D, tys, A, nL⟩ := E
  intro H locs ls hP hD hS hL
  refine va_iald C.1 C.2.1 C.2.2.2.2.2.1 hP q0 t0 he ht (iI_in h0 h hn) hdg ?_
  rw [iI_clamp h0 (by omega)]
  exact kk H locs ls hP hD hS hL
theorem z_baload (C : zC E cc own Ts rm) {a n t0 : Nat} {cA : ClassId} {f : Int → Int32} {z : Int} (q0 : Nat) (he : ws[q0]? = some (a, ar cA n f)) (ht : zT E t0 cA .boolean) (h0 : 0 ≤ z) (h : z < n) (hn : n ≤ 2147483647) (hdg : decode cc pc = .ok (.baload, 1)) (kk : zG E Q cells slots ws lv (pc + 1) (.int (f z) :: st)) : zG E Q cells slots ws lv pc (.int (iI z) :: .ref a :: st) := by
  obtain ⟨p, l, e, R, s, m, args, below, meth, c, D, tys, A, nL⟩ := E
  intro H locs ls hP hD hS hL
  refine va_zald C.1 C.2.1 C.2.2.2.2.2.1 hP q0 t0 he ht (iI_in h0 h hn) hdg ?_
  rw [iI_clamp h0 (by omega)]
  exact kk H locs ls hP hD hS hL
theorem z_laload (C : zC E cc own Ts rm) {a n t0 : Nat} {cA : ClassId} {f : Int → Int64} {z : Int} (q0 : Nat) (he : ws[q0]? = some (a, lr cA n f)) (ht : zT E t0 cA .long) (h0 : 0 ≤ z) (h : z < n) (hn : n ≤ 2147483647) (hdg : decode cc pc = .ok (.laload, 1)) (kk : zG E Q cells slots ws lv (pc + 1) (.long (f z) :: st)) : zG E Q cells slots ws lv pc (.int (iI z) :: .ref a :: st) := by
  obtain ⟨p, l, e, R, s, m, args, below, meth, c, D, tys, A, nL⟩ := E
  intro H locs ls hP hD hS hL
  refine va_lald C.1 C.2.1 C.2.2.2.2.2.1 hP q0 t0 he ht (iI_in h0 h hn) hdg ?_
  rw [iI_clamp h0 (by omega)]
  exact kk H locs ls hP hD hS hL
theorem z_aaload (C : zC E cc own Ts rm) {a n t0 : Nat} {cA : ClassId} {Cn : String} {f : Int → Option Nat} {z : Int} (q0 : Nat) (he : ws[q0]? = some (a, rr cA n f)) (ht : zT E t0 cA (.object Cn)) (h0 : 0 ≤ z) (h : z < n) (hn : n ≤ 2147483647) (hdg : decode cc pc = .ok (.aaload, 1)) (kk : zG E Q cells slots ws lv (pc + 1) (va_rf (f z) :: st)) : zG E Q cells slots ws lv pc (.int (iI z) :: .ref a :: st) := by
  obtain ⟨p, l, e, R, s, m, args, below, meth, c, D, tys, A, nL⟩ := E
  intro H locs ls hP hD hS hL
  refine va_aldq C.1 C.2.1 C.2.2.2.2.2.1 hP q0 t0 he ht (iI_in h0 h hn) hdg ?_
  rw [iI_clamp h0 (by omega)]
  exact kk H locs ls hP hD hS hL
theorem z_iastore (C : zC E cc own Ts rm) {a n t0 : Nat} {cA : ClassId} {f : Int → Int32} {z : Int} {x : Int32} (q0 : Nat) (he : ws[q0]? = some (a, ar cA n f)) (ht : zT E t0 cA .int) (h0 : 0 ≤ z) (h : z < n) (hn : n ≤ 2147483647) (hs : ws.set q0 (a, ar cA n (zup f z x)) = ws') (hdg : decode cc pc = .ok (.iastore, 1)) (kk : zG E Q cells slots ws' lv (pc + 1) st) : zG E Q cells slots ws lv pc (.int x :: .int (iI z) :: .ref a :: st) := by
  obtain ⟨p, l, e, R, s, m, args, below, meth, c, D, tys, A, nL⟩ := E
  intro H locs ls hP hD hS hL
  subst hs
  refine va_iast C.1 C.2.1 C.2.2.2.2.2.1 hP hD hS q0 t0 he ht (iI_in h0 h hn) hdg ?_
  rw [zup_upd f h0 (by omega)]
  exact fun H1 locs1 hP hD hS => kk H1 locs1 ls hP hD hS hL
theorem z_bastore (C : zC E cc own Ts rm) {a n t0 : Nat} {cA : ClassId} {f : Int → Int32} {z : Int} {x : Int32} (q0 : Nat) (he : ws[q0]? = some (a, ar cA n f)) (ht : zT E t0 cA .boolean) (h0 : 0 ≤ z) (h : z < n) (hn : n ≤ 2147483647) (hx : vp_nar .boolean x = x) (hs : ws.set q0 (a, ar cA n (zup f z x)) = ws') (hdg : decode cc pc = .ok (.bastore, 1)) (kk : zG E Q cells slots ws' lv (pc + 1) st) : zG E Q cells slots ws lv pc (.int x :: .int (iI z) :: .ref a :: st) := by
  obtain ⟨p, l, e, R, s, m, args, below, meth, c, D, tys, A, nL⟩ := E
  intro H locs ls hP hD hS hL
  subst hs
  refine va_zast C.1 C.2.1 C.2.2.2.2.2.1 hP hD hS q0 t0 he ht (iI_in h0 h hn) hdg ?_
  rw [hx, zup_upd f h0 (by omega)]
  exact fun H1 locs1 hP hD hS => kk H1 locs1 ls hP hD hS hL
theorem z_lastore (C : zC E cc own Ts rm) {a n t0 : Nat} {cA : ClassId} {f : Int → Int64} {z : Int} {x : Int64} (q0 : Nat) (he : ws[q0]? = some (a, lr cA n f)) (ht : zT E t0 cA .long) (h0 : 0 ≤ z) (h : z < n) (hn : n ≤ 2147483647) (hs : ws.set q0 (a, lr cA n (zup f z x)) = ws') (hdg : decode cc pc = .ok (.lastore, 1)) (kk : zG E Q cells slots ws' lv (pc + 1) st) : zG E Q cells slots ws lv pc (.long x :: .int (iI z) :: .ref a :: st) := by
  obtain ⟨p, l, e, R, s, m, args, below, meth, c, D, tys, A, nL⟩ := E
  intro H locs ls hP hD hS hL
  subst hs
  refine va_last C.1 C.2.1 C.2.2.2.2.2.1 hP hD hS q0 t0 he ht (iI_in h0 h hn) hdg ?_
  rw [show vp_updL (fun k : Nat => f (k : Int)) (iI z).toNatClampNeg x = fun k : Nat => zup f z x (k : Int) from zup_vaup f h0 (by omega) x]
  exact fun H1 locs1 hP hD hS => kk H1 locs1 ls hP hD hS hL
theorem z_aastore (C : zC E cc own Ts rm) {a n t0 ci v : Nat} {cA : ClassId} {r : vw_C} {vs : List Value} {f : Int → Option Nat} {z : Int} (q0 qk : Nat) (he : ws[q0]? = some (a, rr cA n f)) (ht : zT E t0 cA (.object r.1)) (hv : ws[qk]? = some (v, .inr (ci, vs))) (hc : vwCl[ci]? = some r) (h0 : 0 ≤ z) (h : z < n) (hn : n ≤ 2147483647) (hs : ws.set q0 (a, rr cA n (zup f z (some v))) = ws') (hdg : decode cc pc = .ok (.aastore, 1)) (kk : zG E Q cells slots ws' lv (pc + 1) st) : zG E Q cells slots ws lv pc (.ref v :: .int (iI z) :: .ref a :: st) := by
  obtain ⟨p, l, e, R, s, m, args, below, meth, c, D, tys, A, nL⟩ := E
  intro H locs ls hP hD hS hL
  subst hs
  refine va_astq C.1 C.2.1 C.2.2.2.2.2.1 hP hD hS q0 t0 qk ci he ht hv hc (iI_in h0 h hn) hdg ?_
  rw [zup_vaup f h0 (by omega)]
  exact fun H1 locs1 hP hD hS => kk H1 locs1 ls hP hD hS hL
theorem z_alen (C : zC E cc own Ts rm) {a t0 : Nat} {cA : ClassId} {x : vp_A} {ty : FieldType} {v : Int32} (q0 : Nat) (he : ws[q0]? = some (a, .inl (cA, x))) (ht : zT E t0 cA ty) (hv : Int32.ofNat x.1 = v) (hdg : decode cc pc = .ok (.arraylength, 1)) (kk : zG E Q cells slots ws lv (pc + 1) (.int v :: st)) : zG E Q cells slots ws lv pc (.ref a :: st) := by
  obtain ⟨p, l, e, R, s, m, args, below, meth, c, D, tys, A, nL⟩ := E
  intro H locs ls hP hD hS hL
  exact va_alen C.1 C.2.1 C.2.2.2.2.2.1 hP q0 t0 he ht hv hdg (kk H locs ls hP hD hS hL)
theorem z_new (C : zC E cc own Ts rm) {Cn : String} {T : u_T} {N ci index : Nat} {fs : List Value} {ty : Nat → FieldType} (hin : ∀ w ∈ u_ws Cn T N, w ∈ Ts) (hty : ∀ k, k < N → parseFieldDescriptor (T k).2.2.1 = some (ty k)) (hcl : Cond.classLink own index Cn ∈ Ts) (hinst : Cond.instantiable Cn N ∈ Ts) (hini : Cond.initialized Cn ∈ Ts) (hc : vwCl[ci]? = some (Cn, T, N)) (hfs : ∀ j, j < N → defaultValue (ty j) = vp_V fs j) (hcells : cells + 1 ≤ rm.cells) (hslots : slots + N ≤ rm.slots) (hdg : decode cc pc = .ok (.new index, 3)) (kk : ∀ q : Nat, zG E Q (cells + 1) (slots + N) (ws ++ [(q, .inr (ci, fs))]) lv (pc + 3) (.ref q :: st)) : zG E Q cells slots ws lv pc st := by
  obtain ⟨p, l, e, R, s, m, args, below, meth, c, D, tys, A, nL⟩ := E
  intro H locs ls hP hD hS hL
  have hR : R = rm := C.2.2.2.2.2.2.2.2
  exact va_new C.1 C.2.1 C.2.2.2.2.1 hin ty hty C.2.2.2.1 (C.2.2.2.2.1 _ hcl) (C.2.2.2.2.1 _ hinst) (C.2.2.2.2.1 _ hini) C.2.2.2.2.2.1 hP hD hS C.2.2.2.2.2.2.1 hc hfs (by rw [hR]; exact hcells) (by rw [hR]; exact hslots) hdg (fun q H1 hP hD hS => kk q H1 locs ls hP hD hS hL)
theorem z_cA {D : va_G} {tys : List (ClassId × FieldType)} {s : State} {cA cB : ClassId} {ty : FieldType} {t0 : Nat} (hK : va_K D vwCl (tys ++ [(cA, ty)]) s) (ht : tys[t0]? = some (cB, ty)) (hne : ∀ C : String, ty ≠ .object C) : cA = cB := by
  have h1 := (hK.2 tys.length (cA, ty) (by simp)).2
  have h2 := (hK.2 t0 (cB, ty) (by rw [List.getElem?_append_left (List.getElem?_eq_some_iff.mp ht).1]; exact ht)).2
  cases ty with
  | object C => exact absurd rfl (hne C)
  | _ =>
    have e1 : s.vm.findClass _ = some cA := h1
    have e2 : s.vm.findClass _ = some cB := h2
    exact Option.some.inj (e1.symm.trans e2)
theorem z_newarr (C : zC E cc own Ts rm) {atype : ArrayType} {t0 N : Nat} {cA : ClassId} {ty : FieldType} {z : Int} (harr : Cond.arrayClass (newarray.typeOf atype) ∈ Ts) (hty : newarray.typeOf atype = ty) (hne : ∀ C : String, ty ≠ .object C) (ht : zT E t0 cA ty) (ha : ∀ cB : ClassId, vp_cell cB (N, .inl (fun _ => 0)) = arrV cB N (fun _ => defaultValue ty)) (hz : z = N) (hN : N ≤ 1000) (hbytes : N * componentBytes ty ≤ 536870912) (hcells : cells + 1 ≤ rm.cells) (hslots : slots + N ≤ rm.slots) (hdg : decode cc pc = .ok (.newarray atype, 2)) (kk : ∀ q : Nat, zG E Q (cells + 1) (slots + N) (ws ++ [(q, ar cA N (fun _ => 0))]) lv (pc + 2) (.ref q :: st)) : zG E Q cells slots ws lv pc (.int (iI z) :: st) := by
  obtain ⟨p, l, e, R, s, m, args, below, meth, c, D, tys, A, nL⟩ := E
  intro H locs ls hP hD hS hL
  have hR : R = rm := C.2.2.2.2.2.2.2.2
  have hcl := iI_clamp (z := z) (by omega) (by omega)
  have hlt : ¬ iI z < 0 := by
    rw [Int32.lt_iff_toInt_lt, iI_toInt ⟨by omega, by omega⟩]
    show ¬ z < 0
    omega
  refine va_newa C.1 C.2.1 (C.2.2.2.2.1 _ harr) hty C.2.2.2.2.2.1 hP hD hS C.2.2.2.2.2.2.1 ha hlt (by omega) hbytes (by rw [hR]; exact hcells) (by rw [hR]; exact hslots) hdg (fun q cB H1 hK hP hD hS => ?_)
  have he : cB = cA := z_cA hK ht hne
  subst he
  exact kk q H1 locs ls hP hD hS hL
theorem z_newlong (C : zC E cc own Ts rm) {t0 N : Nat} {cA : ClassId} {z : Int} (harr : Cond.arrayClass .long ∈ Ts) (ht : zT E t0 cA .long) (hz : z = N) (hN : N ≤ 1000) (hcells : cells + 1 ≤ rm.cells) (hslots : slots + N ≤ rm.slots) (hdg : decode cc pc = .ok (.newarray .long, 2)) (kk : ∀ q : Nat, zG E Q (cells + 1) (slots + N) (ws ++ [(q, lr cA N (fun _ => 0))]) lv (pc + 2) (.ref q :: st)) : zG E Q cells slots ws lv pc (.int (iI z) :: st) := by
  obtain ⟨p, l, e, R, s, m, args, below, meth, c, D, tys, A, nL⟩ := E
  intro H locs ls hP hD hS hL
  have hR : R = rm := C.2.2.2.2.2.2.2.2
  have hcl := iI_clamp (z := z) (by omega) (by omega)
  have hlt : ¬ iI z < 0 := by
    rw [Int32.lt_iff_toInt_lt, iI_toInt ⟨by omega, by omega⟩]
    show ¬ z < 0
    omega
  refine va_newa (atype := .long) (a0 := (N, .inr (.inl (fun _ => 0)))) C.1 C.2.1 (C.2.2.2.2.1 _ harr) rfl C.2.2.2.2.2.1 hP hD hS C.2.2.2.2.2.2.1 (fun _ => rfl) hlt (by omega) (by show N * 8 ≤ 536870912; omega) (by rw [hR]; exact hcells) (by rw [hR]; exact hslots) hdg (fun q cB H1 hK hP hD hS => ?_)
  have he : cB = cA := z_cA hK ht (fun C h => by cases h)
  subst he
  exact kk q H1 locs ls hP hD hS hL
end ZH
end
section
/-! THE LAYER, third part: worlds up to their order, contracts, calls, ends. -/
theorem zP_mem {D : va_G} {ws : va_W} {H : Heap} : va_P D vwCl ws H ↔ ∀ q ∈ ws, va_at D vwCl q H := by
  constructor
  · intro h q hq
    obtain ⟨k, hk⟩ := List.getElem?_of_mem hq
    exact h k q hk
  · intro h k q hk
    exact h q (List.mem_of_getElem? hk)
theorem zD_mem {A : Nat → Prop} {ws : va_W} : va_D A ws ↔ (ws.map (·.1)).Nodup ∧ ∀ q ∈ ws, A q.1 := by
  constructor
  · intro h
    refine ⟨?_, fun q hq => ?_⟩
    · refine List.pairwise_iff_getElem.mpr fun i j hi hj hij he => ?_
      rw [List.length_map] at hi hj
      rw [List.getElem_map, List.getElem_map] at he
      have := h.1 i j _ _ (List.getElem?_eq_getElem hi) (List.getElem?_eq_getElem hj) he
      omega
    · obtain ⟨k, hk⟩ := List.getElem?_of_mem hq
      exact h.2 k q hk
  · intro ⟨h1, h2⟩
    refine ⟨fun i j p q hp hq he => ?_, fun k q hk => h2 q (List.mem_of_getElem? hk)⟩
    have h1' := List.pairwise_iff_getElem.mp h1
    have hi := (List.getElem?_eq_some_iff.mp hp)
    have hj := (List.getElem?_eq_some_iff.mp hq)
    obtain ⟨hi, ei⟩ := hi
    obtain ⟨hj, ej⟩ := hj
    subst ei; subst ej
    have key : ∀ (i j : Nat) (hi : i < ws.length) (hj : j < ws.length), i < j → ws[i].1 ≠ ws[j].1 := by
      intro i j hi hj hij
      have := h1' i j (by rw [List.length_map]; exact hi) (by rw [List.length_map]; exact hj) hij
      rw [List.getElem_map, List.getElem_map] at this
      exact this
    rcases Nat.lt_trichotomy i j with hij | hij | hij
    · exact absurd he (key i j hi hj hij)
    · exact hij
    · exact absurd he.symm (key j i hj hi hij)
theorem zP_perm {D : va_G} {ws ws' : va_W} {H : Heap} (h : ws.Perm ws') (hP : va_P D vwCl ws H) : va_P D vwCl ws' H := zP_mem.mpr fun q hq => zP_mem.mp hP q (h.mem_iff.mpr hq)
theorem zD_perm {A : Nat → Prop} {ws ws' : va_W} (h : ws.Perm ws') (hD : va_D A ws) : va_D A ws' := by
  obtain ⟨h1, h2⟩ := zD_mem.mp hD
  exact zD_mem.mpr ⟨(h.map _).nodup_iff.mp h1, fun q hq => h2 q (h.mem_iff.mpr hq)⟩
theorem zA_mem {ws : va_W} {sz q : Nat} : va_A ws sz q ↔ (∃ e, (q, e) ∈ ws) ∨ sz ≤ q := by
  constructor
  · rintro (⟨k, e, h⟩ | h)
    · exact Or.inl ⟨e, List.mem_of_getElem? h⟩
    · exact Or.inr h
  · rintro (⟨e, h⟩ | h)
    · obtain ⟨k, hk⟩ := List.getElem?_of_mem h
      exact Or.inl ⟨k, e, hk⟩
    · exact Or.inr h
/-- the frame rule -/
theorem z_frame {D : va_G} {A0 : Nat → Prop} {w0 w1 fr : va_W} {H H1 : Heap} (hP : va_P D vwCl (w0 ++ fr) H) (hD : va_D A0 (w0 ++ fr)) (hF : ∀ q, va_A w0 H.size q → A0 q) (hk : ∀ q : Nat, q < H.size → ¬ va_A w0 H.size q → H1[q]? = H[q]?) (hP1 : va_P D vwCl w1 H1) (hD1 : va_D (va_A w0 H.size) w1) : va_P D vwCl (w1 ++ fr) H1 ∧ va_D A0 (w1 ++ fr) := by
  have hPm := zP_mem.mp hP
  obtain ⟨n1, n2⟩ := zD_mem.mp hD
  obtain ⟨m1, m2⟩ := zD_mem.mp hD1
  rw [List.map_append, List.nodup_append] at n1
  obtain ⟨a1, a2, a3⟩ := n1
  have out : ∀ q ∈ fr, q.1 < H.size ∧ ¬ va_A w0 H.size q.1 := by
    intro q hq
    have hl := (hPm q (List.mem_append_right _ hq)).lt
    refine ⟨hl, fun h => ?_⟩
    rcases zA_mem.mp h with ⟨e, h⟩ | h
    · exact a3 q.1 (List.mem_map.mpr ⟨_, h, rfl⟩) q.1 (List.mem_map.mpr ⟨q, hq, rfl⟩) rfl
    · omega
  refine ⟨zP_mem.mpr fun q hq => ?_, zD_mem.mpr ⟨?_, fun q hq => ?_⟩⟩
  · rcases List.mem_append.mp hq with h | h
    · exact zP_mem.mp hP1 q h
    · exact (hPm q (List.mem_append_right _ h)).kept (hk q.1 (out q h).1 (out q h).2)
  · rw [List.map_append, List.nodup_append]
    refine ⟨m1, a2, fun x hx y hy hxy => ?_⟩
    obtain ⟨p, hp, rfl⟩ := List.mem_map.mp hx
    obtain ⟨q, hq, rfl⟩ := List.mem_map.mp hy
    exact (out q hq).2 (by rw [← hxy]; exact m2 p hp)
  · rcases List.mem_append.mp hq with h | h
    · exact hF q.1 (m2 q h)
    · exact n2 q (List.mem_append_right _ h)
/-- the words that the good ones don't hold -/
def zNs : List Cond := [.methodLinkNest RX4 31 yX0_init "PaperGuild", .methodLinkNest RX4 41 yX1_init "PaperGuild", .methodLinkNest RX1 41 yX4_holds "PaperGuild", .methodLinkNest RX2 34 yX3_init "PaperGuild",
  .declares (Bundle.initS "java/lang/RuntimeException"), .declares (Bundle.initS "java/lang/Exception"), .declares (Bundle.initS Bundle.tN),
  .castable "java/lang/IndexOutOfBoundsException" "java/lang/IndexOutOfBoundsException", .castable "java/lang/IllegalArgumentException" "java/lang/IllegalArgumentException", .castable "java/lang/IllegalStateException" "java/lang/IllegalStateException"]
def zSt : List (Nat × String) := [(202, "no such kind"), (52, "needs out of range"), (65, "kinds would need one another round"), (204, "no such author"), (70, "length out of range"), (74, "no room for another model"), (208, "no such model"), (93, "place out of range"), (98, "no room for another step"), (107, "a kind that is needed is missing"), (113, "no steps"), (125, "models would use one another round"), (128, "set out of range"), (206, "no such pupil"), (139, "a kind that is needed is not known"), (151, "no such place"), (157, "not so many cells"), (210, "no such cell"), (185, "age out of range")]
def zNo : List (String × String) := [("java/lang/IllegalArgumentException", "java/lang/IndexOutOfBoundsException"), ("java/lang/IllegalStateException", "java/lang/IndexOutOfBoundsException"), ("java/lang/IllegalStateException", "java/lang/IllegalArgumentException")]
/-- what every method's start gives beside its words -/
def zX (A : Nat → Prop) (U : State) : Prop :=
  (∀ w ∈ zNs, va_Nw w U) ∧ va_AO "PaperGuild$Model" U ∧ (∀ q ∈ zSt, ∃ a : Nat, vk_R RX4 q.1 q.2 a U) ∧ (∀ q ∈ zNo, va_Nc q.1 q.2 U) ∧ vx_Zq Bundle.tN "UNASSIGNED_STACK" Bundle.steD A U U.heap ∧ vx_Zq Bundle.tN "SUPPRESSED_SENTINEL" Bundle.listD A U U.heap
theorem zNs_warm {s U : State} (hW : s.WarmedH U.vm) : ∀ w ∈ zNs, va_Nw w s → va_Nw w U := by
  intro w hw h
  simp only [zNs, List.mem_cons, List.not_mem_nil, or_false] at hw
  rcases hw with rfl | rfl | rfl | rfl | rfl | rfl | rfl | rfl | rfl | rfl
  · exact h.warmM hW
  · exact h.warmM hW
  · exact h.warmM hW
  · exact h.warmM hW
  · exact h.warmD hW
  · exact h.warmD hW
  · exact h.warmD hW
  · exact h.warmC hW
  · exact h.warmC hW
  · exact h.warmC hW
theorem zNs_tables : ∀ w ∈ zNs, w.onTables = true := by decide +kernel
theorem zX.go {A B : Nat → Prop} {s U : State} {H : Heap} {locs : List Loc} (h : zX A s) (hS : va_S A s.heap H locs) (hU : U.heap = H) (hW : s.WarmedH U.vm) (hAB : ∀ q, B q → A q) : zX B U := by
  obtain ⟨h1, h2, h3, h4, h5, h6⟩ := h
  have hk : ∀ a : Nat, a < s.heap.size → ¬ A a → U.heap[a]? = s.heap[a]? := fun a h h' => by rw [hU]; exact hS.2.1 a h h'
  refine ⟨fun w hw => zNs_warm hW w hw (h1 w hw), va_AO.moved hW.alike h2, fun q hq => ?_, fun q hq => va_Nc.moved hW.alike (h4 q hq), ((h5.moved hW.alike).kept hk).narrow hAB, ((h6.moved hW.alike).kept hk).narrow hAB⟩
  obtain ⟨a, ha⟩ := h3 q hq
  exact ⟨a, ha.warm hW⟩
theorem zX.calling {A : Nat → Prop} {U : State} (h : zX A U) (g : JFrame) (mk : MethodId) (a : Array Value) : zX A (U.calling g mk a) := by
  obtain ⟨h1, h2, h3, h4, h5, h6⟩ := h
  refine ⟨fun w hw => va_Nw.same (u := U) (zNs_tables w hw) rfl (h1 w hw), va_AO.moved (u := U) (Vm.Alike.refl U.vm) h2, fun q hq => ?_, fun q hq => va_Nc.moved (u := U) (Vm.Alike.refl U.vm) (h4 q hq), h5.moved (u := U) (Vm.Alike.refl U.vm), h6.moved (u := U) (Vm.Alike.refl U.vm)⟩
  obtain ⟨b, hb⟩ := h3 q hq
  exact ⟨b, vk_R.same (u := U) rfl hb⟩
/-- a contract's start: the world w0 -/
def zPre (D : va_G) (tys : List (ClassId × FieldType)) (w0 : va_W) (sz : Nat) : State → Prop := fun U => U.heap.size = sz ∧ va_P D vwCl w0 U.heap ∧ va_K D vwCl tys U ∧ va_D (fun _ => True) w0 ∧ zX (va_A w0 sz) U
/-- its end: an answer and a world -/
def zQ (D : va_G) (post : Option Value → va_W → Prop) (A : Nat → Prop) : Array Value → State → Outcome → State → Prop := fun _ st oc t => (∃ (r : Option Value) (w1 : va_W), oc = .returned r ∧ post r w1 ∧ va_P D vwCl w1 t.heap ∧ va_D A w1) ∧ va_F A st t
/-- its throw: a class, the world as it was -/
def zXC (D : va_G) (w0 : va_W) (px : String → Prop) (A : Nat → Prop) : String → State → State → Prop := fun E st t => px E ∧ va_P D vwCl w0 t.heap ∧ va_F A st t
def zN (l : Launch) (y : MethodName) (wl : List Cond) (rm : Room) (D : va_G) (tys : List (ClassId × FieldType)) (av : List Value) (w0 : va_W) (post : Option Value → va_W → Prop) (mc ms : Nat) : Prop :=
  ∀ sz : Nat, Met l y wl rm (va_Pc av (zPre D tys w0 sz)) (zQ D post (va_A w0 sz)) mc ms (va_A w0 sz)
def zNX (l : Launch) (y : MethodName) (wl : List Cond) (rm : Room) (D : va_G) (tys : List (ClassId × FieldType)) (av : List Value) (w0 : va_W) (post : Option Value → va_W → Prop) (px : String → Prop) (mc ms : Nat) : Prop :=
  ∀ sz : Nat, vx_Met l y wl rm (va_Pc av (zPre D tys w0 sz)) (zQ D post (va_A w0 sz)) (zXC D w0 px (va_A w0 sz)) mc ms (va_A w0 sz)
theorem zPre_blind {D : va_G} {tys : List (ClassId × FieldType)} {w0 : va_W} {sz : Nat} {av : List Value} : FrameBlind (va_Pc av (zPre D tys w0 sz)) := by
  intro a U g mk h
  obtain ⟨h0, h1, h2, h3, h4, h5⟩ := h
  exact ⟨h0, h1, h2, va_K.moved (u := U) (U := U.calling g mk a) (Vm.Alike.refl U.vm) h3, h4, h5.calling g mk a⟩
/-- E is of this launch, these classes -/
def zOf (E : zE) (l : Launch) (D : va_G) (tys : List (ClassId × FieldType)) : Prop :=
  match E with
  | (_, l', _, _, s, _, _, _, _, _, D', tys', A, _) => l' = l ∧ D' = D ∧ tys' = tys ∧ zX A s
theorem zT_of {E : zE} {l : Launch} {D : va_G} {tys : List (ClassId × FieldType)} {t0 : Nat} {cA : ClassId} {ty : FieldType} (h : zOf E l D tys) (ht : tys[t0]? = some (cA, ty)) : zT E t0 cA ty := by
  obtain ⟨p, l, e, R, s, m, args, below, meth, c, D, tys, A, nL⟩ := E
  obtain ⟨rfl, rfl, rfl, -⟩ := h
  exact ht
/-- how E's method may end -/
def zRet (E : zE) (Q : State → Prop) (ret : Option FieldType) (post : Option Value → va_W → Prop) (mc ms : Nat) : Prop :=
  match E with
  | (p, l, e, R, s, m, args, below, meth, c, D, _, A, _) => meth.sig.returnType = ret ∧ ∀ (H : Heap) (locs : List Loc) (g : JFrame), W p l e R s m args below meth c H locs mc ms (MQ below (zQ D post A) args s mc ms A) g → W p l e R s m args below meth c H locs mc ms Q g
/-- q, thrown over the frame at pc -/
def zV (E : zE) (Q : State → Prop) (cells slots : Nat) (ws : va_W) (lv : List (Option Value)) (pc : Nat) (st : List Value) (Ex : String) : Prop :=
  match E with
  | (p, l, e, R, s, m, args, below, meth, c, D, _, A, nL) => ∀ (H : Heap) (locs : List Loc) (ls : Array Slot) (q : Nat) (ce : Cell), va_P D vwCl ws H → va_D A ws → va_S A s.heap H locs → zL nL ls lv → H[q]? = some ce → ce.vm = .none → s.vm.findClass Ex = some ce.cls → vx_W p l e R s m args below meth c H locs cells slots Q (F0 m pc ls st) q
/-- how E's method may throw -/
def zThr (E : zE) (Q : State → Prop) (w0 : va_W) (px : String → Prop) (mc ms : Nat) : Prop :=
  match E with
  | (_, l, _, _, s, _, args, below, _, c, D, _, A, _) => (∀ x ∈ c.exceptionTable.toList, False) ∧ l.stackTraces = false ∧ ∃ post : Option Value → va_W → Prop, Q = vx_MQ below (zQ D post A) (zXC D w0 px A) args s mc ms A
section ZC
variable {E : zE} {Q : State → Prop} {cells slots : Nat} {ws ws' : va_W} {lv : List (Option Value)} {pc : Nat} {st : List Value} {cc : ByteArray} {own : String} {Ts : List Cond} {rm : Room}
variable {l : Launch} {D : va_G} {tys : List (ClassId × FieldType)} {post : Option Value → va_W → Prop} {mc ms : Nat}
theorem z_perm (h : ws.Perm ws') (k : zG E Q cells slots ws' lv pc st) : zG E Q cells slots ws lv pc st := by
  obtain ⟨p, l, e, R, s, m, args, below, meth, c, D, tys, A, nL⟩ := E
  intro H locs ls hP hD hS hL
  exact k H locs ls (zP_perm h hP) (zD_perm h hD) hS hL
theorem z_iret (C : zC E cc own Ts rm) (hR : zRet E Q (some .int) post mc ms) {v : Int32} (hdg : decode cc pc = .ok (.ireturn, 1)) (hc : cells ≤ mc) (hs : slots ≤ ms) (hp : post (some (.int v)) ws) : zG E Q cells slots ws lv pc [.int v] := by
  obtain ⟨p, l, e, R, s, m, args, below, meth, c, D, tys, A, nL⟩ := E
  intro H locs ls hP hD hS hL
  refine W.widen hc hs (hR.2 H locs _ ?_)
  exact W.iret C.1 C.2.1 hR.1 (fun t ht _ => ⟨⟨_, ws, rfl, hp, by rw [ht]; exact hP, hD⟩, hS.F ht⟩) hS.2.2 hdg C.2.2.2.2.2.2.2.1
theorem z_zret (C : zC E cc own Ts rm) (hR : zRet E Q (some .boolean) post mc ms) {v : Int32} (hn : narrow .boolean (.int v) = .int v) (hdg : decode cc pc = .ok (.ireturn, 1)) (hc : cells ≤ mc) (hs : slots ≤ ms) (hp : post (some (.int v)) ws) : zG E Q cells slots ws lv pc [.int v] := by
  obtain ⟨p, l, e, R, s, m, args, below, meth, c, D, tys, A, nL⟩ := E
  intro H locs ls hP hD hS hL
  refine W.widen hc hs (hR.2 H locs _ ?_)
  exact W.zret C.1 C.2.1 hR.1 hn (fun t ht _ => ⟨⟨_, ws, rfl, hp, by rw [ht]; exact hP, hD⟩, hS.F ht⟩) hS.2.2 hdg C.2.2.2.2.2.2.2.1
theorem z_vret (C : zC E cc own Ts rm) (hR : zRet E Q none post mc ms) (hdg : decode cc pc = .ok (.return_, 1)) (hc : cells ≤ mc) (hs : slots ≤ ms) (hp : post none ws) : zG E Q cells slots ws lv pc [] := by
  obtain ⟨p, l, e, R, s, m, args, below, meth, c, D, tys, A, nL⟩ := E
  intro H locs ls hP hD hS hL
  refine W.widen hc hs (hR.2 H locs _ ?_)
  exact W.vret C.1 C.2.1 hR.1 (fun t ht _ => ⟨⟨_, ws, rfl, hp, by rw [ht]; exact hP, hD⟩, hS.F ht⟩) hS.2.2 hdg C.2.2.2.2.2.2.2.1
theorem z_aret (C : zC E cc own Ts rm) {rt : String} (hR : zRet E Q (some (.object rt)) post mc ms) {a : Nat} (hdg : decode cc pc = .ok (.areturn, 1)) (hc : cells ≤ mc) (hs : slots ≤ ms) (hp : post (some (.ref a)) ws) : zG E Q cells slots ws lv pc [.ref a] := by
  obtain ⟨p, l, e, R, s, m, args, below, meth, c, D, tys, A, nL⟩ := E
  intro H locs ls hP hD hS hL
  refine W.widen hc hs (hR.2 H locs _ ?_)
  exact W.aret C.1 C.2.1 hR.1 (Or.inl ⟨rt, rfl⟩) (Or.inr ⟨a, rfl⟩) (fun t ht _ => ⟨⟨_, ws, rfl, hp, by rw [ht]; exact hP, hD⟩, hS.F ht⟩) hS.2.2 hdg C.2.2.2.2.2.2.2.1
/-- the entry's locals -/
theorem z_args {vs : List Value} : ∀ (k : Nat), vs.all (fun v => v.category == 1) = true → (lg_sl vs).length = vs.length ∧ ∀ (i : Nat) (v : Value), vs[i]? = some v → (k + i, v) ∈ lv_args k vs ∧ v.category = 1 := by
  induction vs with
  | nil => intro k _; exact ⟨rfl, fun i v h => by simp at h⟩
  | cons a r ih =>
    intro k h
    rw [List.all_cons, Bool.and_eq_true, beq_iff_eq] at h
    have hne : ¬ a.category = 2 := by omega
    obtain ⟨g1, g2⟩ := ih (k + 1) h.2
    refine ⟨by simp [lg_sl, hne] at g1 ⊢; omega, fun i v hi => ?_⟩
    simp only [lv_args, hne, if_false]
    cases i with
    | zero =>
      have : a = v := by simpa using hi
      subst this
      exact ⟨List.mem_cons_self, h.1⟩
    | succ i =>
      have hi' : r[i]? = some v := by simpa using hi
      obtain ⟨q1, q2⟩ := g2 i v hi'
      refine ⟨List.mem_cons_of_mem _ ?_, q2⟩
      rw [show k + (i + 1) = k + 1 + i by omega]
      exact q1
theorem z_entry {vs : List Value} {n : Nat} {lv : List (Option Value)} (hc : vs.all (fun v => v.category == 1) = true) (hn : vs.length ≤ n) (hlv : vs.map some ++ List.replicate (n - vs.length) none = lv) : zL n ((lg_sl vs ++ List.replicate (n - (lg_sl vs).length) Slot.unset).toArray) lv := by
  obtain ⟨g1, g2⟩ := z_args 0 hc
  subst hlv
  refine ⟨by simp; omega, _, lv_entry vs (by rw [g1]; exact hn), fun i v hi => ?_⟩
  by_cases hlt : i < vs.length
  · rw [List.getElem?_append_left (by simpa using hlt)] at hi
    have h9 : vs[i]? = some v := by
      rw [List.getElem?_map] at hi
      cases hv : vs[i]? with
      | none => rw [hv] at hi; cases hi
      | some w => rw [hv] at hi; simpa using hi
    have := g2 i v h9
    rw [Nat.zero_add] at this
    exact this
  · rw [List.getElem?_append_right (by simp; omega), List.getElem?_replicate] at hi
    split at hi <;> simp at hi
theorem zN_of {y : MethodName} {wl wl' : List Cond} {rm : Room} {vs : List Value} {w0 : va_W} {cc : ByteArray} {maxL : Nat} {ret : Option FieldType} {lv0 : List (Option Value)} (hy : plainName y.cls = true) (hw : wl = Cond.code y cc maxL ret :: wl') (hcat : vs.all (fun v => v.category == 1) = true) (hlen : vs.length ≤ maxL) (hlv : vs.map some ++ List.replicate (maxL - vs.length) none = lv0)
    (body : ∀ (E : zE) (Q : State → Prop), zC E cc y.cls wl rm → zOf E l D tys → zRet E Q ret post mc ms → (y.name = "<init>" → zInit E) → zG E Q 0 0 w0 lv0 0 []) : zN l y wl rm D tys vs w0 post mc ms := by
  intro sz
  refine Met.ofW (cc := cc) (maxL := maxL) (ret := ret) hy hw ?_
  intro p e s m args below meth c s₁ B hml hv
  obtain ⟨rfl, hsz, hP, hK, hD0, hX⟩ := hv
  have hts := atoms_spec (ws := wl) B.pre
  have hown : s.vm.findClass y.cls = some m.cls := findClass_of_methodNamed B.named
  subst hsz
  have hD := hD0.self (sz := s.heap.size)
  rw [lg_entry_eq]
  have hA : ∀ q : Nat, s.heap.size ≤ q → va_A w0 s.heap.size q := fun q h => Or.inr h
  exact body (p, l, e, (headSpec wl rm).room, s, m, vs.toArray, below, meth, c, D, tys, va_A w0 s.heap.size, maxL) _ ⟨B.exec, B.bytes, hml, hown, hts, hK, hA, B.notSynchronized, rfl⟩ ⟨rfl, rfl, rfl, hX⟩ ⟨B.returns, fun _ _ _ h => h⟩ (fun hn => (name_of_methodNamed B.named B.method).1.trans hn) s.heap [] _ hP hD va_S.rf (z_entry hcat hlen hlv)
theorem zNX_of {y : MethodName} {wl wl' : List Cond} {rm : Room} {vs : List Value} {w0 : va_W} {px : String → Prop} {cc : ByteArray} {maxL : Nat} {ret : Option FieldType} {lv0 : List (Option Value)} (hl : l.stackTraces = false) (hy : plainName y.cls = true) (hw : wl = Cond.code y cc maxL ret :: wl') (hcat : vs.all (fun v => v.category == 1) = true) (hlen : vs.length ≤ maxL) (hlv : vs.map some ++ List.replicate (maxL - vs.length) none = lv0)
    (body : ∀ (E : zE) (Q : State → Prop), zC E cc y.cls wl rm → zOf E l D tys → zRet E Q ret post mc ms → zThr E Q w0 px mc ms → zG E Q 0 0 w0 lv0 0 []) : zNX l y wl rm D tys vs w0 post px mc ms := by
  intro sz
  refine vx_ofW (cc := cc) (maxL := maxL) (ret := ret) hy hw ?_
  intro p e s m args below meth c s₁ B hml hno hv
  obtain ⟨rfl, hsz, hP, hK, hD0, hX⟩ := hv
  have hts := atoms_spec (ws := wl) B.pre
  have hown : s.vm.findClass y.cls = some m.cls := findClass_of_methodNamed B.named
  subst hsz
  have hD := hD0.self (sz := s.heap.size)
  rw [lg_entry_eq]
  have hA : ∀ q : Nat, s.heap.size ≤ q → va_A w0 s.heap.size q := fun q h => Or.inr h
  exact body (p, l, e, (headSpec wl rm).room, s, m, vs.toArray, below, meth, c, D, tys, va_A w0 s.heap.size, maxL) _ ⟨B.exec, B.bytes, hml, hown, hts, hK, hA, B.notSynchronized, rfl⟩ ⟨rfl, rfl, rfl, hX⟩ ⟨B.returns, fun _ _ _ h => vx_ret h⟩ ⟨hno, hl, post, rfl⟩ s.heap [] _ hP hD va_S.rf (z_entry hcat hlen hlv)
end ZC
end
section
/-! THE LAYER, fourth part: calls, throws, catches. -/
section ZK
variable {p : Program} {l : Launch} {e : Env} {R : Room} {s : State} {m : MethodId} {args : Array Value} {below : List Frame} {meth : Method} {c : Code} {H : Heap} {locs : List Loc} {cells slots : Nat} {Q : State → Prop}
theorem z_hF {D : va_G} {A0 : Nat → Prop} {ws w0 fr : va_W} (hD : va_D A0 ws) (hS : va_S A0 s.heap H locs) (hA : ∀ q, s.heap.size ≤ q → A0 q) (hperm : ws.Perm (w0 ++ fr)) : ∀ q, va_A w0 H.size q → A0 q := by
  intro q hq
  rcases zA_mem.mp hq with ⟨e, h⟩ | h
  · exact (zD_mem.mp hD).2 (q, e) (hperm.mem_iff.mpr (List.mem_append_left _ h))
  · exact hA q (Nat.le_trans hS.1 h)
theorem z_pre {D : va_G} {tys : List (ClassId × FieldType)} {A0 : Nat → Prop} {ws w0 fr : va_W} (hP : va_P D vwCl ws H) (hD : va_D A0 ws) (hK : va_K D vwCl tys s) (hX : zX A0 s) (hS : va_S A0 s.heap H locs) (hA : ∀ q, s.heap.size ≤ q → A0 q) (hperm : ws.Perm (w0 ++ fr)) (U : State) (hU : U.heap = H) (hW : s.WarmedH U.vm) : zPre D tys w0 H.size U := by
  have hP2 := zP_mem.mp (zP_perm hperm hP)
  obtain ⟨n1, n2⟩ := zD_mem.mp (zD_perm hperm hD)
  rw [List.map_append, List.nodup_append] at n1
  exact ⟨by rw [hU], zP_mem.mpr fun q hq => by rw [hU]; exact hP2 q (List.mem_append_left _ hq), va_K.moved hW.alike hK, zD_mem.mpr ⟨n1.1, fun _ _ => trivial⟩, hX.go hS hU hW (z_hF (D := D) hD hS hA hperm)⟩
theorem z_ret {D : va_G} {A0 : Nat → Prop} {ws w0 fr : va_W} {pc : Nat} {ls : Array Slot} {stk st : List Value} {post : Option Value → va_W → Prop} {mc ms : Nat} {a : Array Value} (hP : va_P D vwCl ws H) (hD : va_D A0 ws) (hS : va_S A0 s.heap H locs) (hA : ∀ q, s.heap.size ≤ q → A0 q) (hperm : ws.Perm (w0 ++ fr))
    (hr : va_Run p l e R s m args below meth c H locs cells slots mc ms (F0 m pc ls stk) st (zQ D post (va_A w0 H.size) a) (va_A w0 H.size))
    (kk : ∀ (r : Option Value) (w1 : va_W) (H1 : Heap) (locs1 : List Loc), post r w1 → va_P D vwCl (w1 ++ fr) H1 → va_D A0 (w1 ++ fr) → va_S A0 s.heap H1 locs1 → W p l e R s m args below meth c H1 locs1 (cells + mc) (slots + ms) Q (F0 m (pc + 3) ls (r.toList ++ st))) : W p l e R s m args below meth c H locs cells slots Q (F0 m pc ls stk) := by
  intro T hT X
  have hF := z_hF (D := D) hD hS hA hperm
  obtain ⟨v, st₀, t, T', L, h0, X', hL, e1, e2, ⟨⟨r, w1, hv, hp, hP1, hD1⟩, hz⟩, sg⟩ := hr T hT X
  cases hv
  obtain ⟨k1, k2, k3⟩ := vx_keep h0 e1 hS (fun q _ h => hF q h) hF hL hz
  rw [← e1] at hP1
  obtain ⟨g1, g2⟩ := z_frame (zP_perm hperm hP) (zD_perm hperm hD) hF k2 hP1 hD1
  obtain ⟨t2, a1, b1⟩ := kk v w1 T'.heap (locs ++ L) hp g1 g2 k3 T' rfl X'
  exact ⟨t2, sg t2 a1, b1⟩
theorem z_retx {D : va_G} {A0 : Nat → Prop} {ws w0 fr : va_W} {pc : Nat} {ls : Array Slot} {stk st : List Value} {post : Option Value → va_W → Prop} {px : String → Prop} {mc ms : Nat} {a : Array Value} (hP : va_P D vwCl ws H) (hD : va_D A0 ws) (hS : va_S A0 s.heap H locs) (hA : ∀ q, s.heap.size ≤ q → A0 q) (hperm : ws.Perm (w0 ++ fr))
    (hr : vx_Run p l e R s m args below meth c H locs cells slots mc ms (F0 m pc ls stk) st (zQ D post (va_A w0 H.size) a) (zXC D w0 px (va_A w0 H.size)) (va_A w0 H.size))
    (kx : ∀ (Ex : String) (q : Nat) (ce : Cell) (H1 : Heap) (locs1 : List Loc), px Ex → va_P D vwCl ws H1 → va_S A0 s.heap H1 locs1 → H1[q]? = some ce → ce.vm = .none → s.vm.findClass Ex = some ce.cls → vx_W p l e R s m args below meth c H1 locs1 (cells + mc) (slots + ms) Q (F0 m pc ls st) q)
    (kk : ∀ (r : Option Value) (w1 : va_W) (H1 : Heap) (locs1 : List Loc), post r w1 → va_P D vwCl (w1 ++ fr) H1 → va_D A0 (w1 ++ fr) → va_S A0 s.heap H1 locs1 → W p l e R s m args below meth c H1 locs1 (cells + mc) (slots + ms) Q (F0 m (pc + 3) ls (r.toList ++ st))) : W p l e R s m args below meth c H locs cells slots Q (F0 m pc ls stk) := by
  intro T hT X
  have hF := z_hF (D := D) hD hS hA hperm
  rcases hr T hT X with ⟨v, st₀, t, T', L, h0, X', hL, e1, e2, ⟨⟨r, w1, hv, hp, hP1, hD1⟩, hz⟩, sg⟩ | ⟨q, st₀, t, T', L, Ex, ce, h0, X', hL, e1, e2, ⟨hp, hP1, hz⟩, hce, hcv, hcl, sg⟩
  · cases hv
    obtain ⟨k1, k2, k3⟩ := vx_keep h0 e1 hS (fun q _ h => hF q h) hF hL hz
    rw [← e1] at hP1
    obtain ⟨g1, g2⟩ := z_frame (zP_perm hperm hP) (zD_perm hperm hD) hF k2 hP1 hD1
    obtain ⟨t2, a1, b1⟩ := kk v w1 T'.heap (locs ++ L) hp g1 g2 k3 T' rfl X'
    exact ⟨t2, sg t2 a1, b1⟩
  · obtain ⟨k1, k2, k3⟩ := vx_keep h0 e1 hS (fun q _ h => hF q h) hF hL hz
    rw [← e1] at hP1
    have hD0 : va_D (va_A w0 H.size) w0 := by
      obtain ⟨n1, n2⟩ := zD_mem.mp (zD_perm hperm hD)
      rw [List.map_append, List.nodup_append] at n1
      exact zD_mem.mpr ⟨n1.1, fun q hq => zA_mem.mpr (Or.inl ⟨q.2, hq⟩)⟩
    obtain ⟨g1, -⟩ := z_frame (zP_perm hperm hP) (zD_perm hperm hD) hF k2 hP1 hD0
    obtain ⟨t2, a1, b1⟩ := kx Ex q ce T'.heap (locs ++ L) hp (zP_perm hperm.symm g1) k3 (by rw [e1]; exact hce) hcv hcl T' rfl X'
    exact ⟨t2, sg.trans a1, b1⟩
end ZK
section ZM
variable {E : zE} {Q : State → Prop} {cells slots : Nat} {ws w0 fr : va_W} {lv : List (Option Value)} {pc : Nat} {stk st : List Value} {cc : ByteArray} {own : String} {Ts : List Cond} {rm : Room}
variable {l : Launch} {D : va_G} {tys : List (ClassId × FieldType)} {post : Option Value → va_W → Prop} {px : String → Prop} {mc ms : Nat}
variable {y : MethodName} {bytes : ByteArray} {maxL n index : Nat} {ret : Option FieldType} {wl wl' : List Cond} {rm1 : Room} {b : Nat} {As : List Value} {host : String}
theorem z_callV (C : zC E cc own Ts rm) (hE : zOf E l D tys) (hM : zN l y wl rm1 D tys (.ref b :: As) w0 post mc ms) (hG : GoodIn Ts (wsV own index y.cls y wl)) (hw : wl = Cond.code y bytes maxL ret :: wl') (hm : rm1.cells = mc ∧ rm1.slots = ms) (hd : y.cls = y.cls ∧ y.cls ≠ "java/lang/invoke/MethodHandle" ∧ y.cls ≠ "java/lang/invoke/VarHandle" ∧ (parseMethodDescriptor y.desc).map (fun d => d.parameters.length) = some n) (hR : rm1.frames + 1 ≤ rm.frames ∧ 8 + (maxL + 11) + rm1.locals ≤ rm.locals) (hn : As.length = n) (hst : stk = As.reverse ++ .ref b :: st) (hperm : ws.Perm (w0 ++ fr)) (kb : Nat) {ci : Nat} {fs : List Value} {cl : vw_C} (hb : w0[kb]? = some (b, .inr (ci, fs))) (hc : vwCl[ci]? = some cl) (hcn : cl.1 = y.cls) (hcat : (st.map fun v => v.category).sum ≤ 8) (hf : cells + mc ≤ rm.cells ∧ slots + ms ≤ rm.slots) (hdg : decode cc pc = .ok (.invokevirtual index, 3)) (kk : ∀ (r : Option Value) (w1 : va_W), post r w1 → zG E Q (cells + mc) (slots + ms) (w1 ++ fr) lv (pc + 3) (r.toList ++ st)) : zG E Q cells slots ws lv pc stk := by
  obtain ⟨p, l', e, R, s, m, args, below, meth, c, D', tys', A, nL⟩ := E
  obtain ⟨rfl, rfl, rfl, hX⟩ := hE
  obtain ⟨c1, c2, c3, c4, c5, c6, c7, c8, rfl⟩ := C
  intro H locs ls hP hD hS hL
  refine z_ret hP hD hS c7 hperm (va_runV (C := y.cls) (As := As) ⟨c1, c2, c3, c4, c5⟩ (hM H.size) (cwV n c5 hG hw hm.1 hm.2 hd hR) ⟨zPre_blind, ?_, fun U hU hW => ⟨rfl, z_pre hP hD c6 hX hS c7 hperm U hU hW⟩⟩ rfl hn hL.size hst (lv_room hcat) hdg hf) (fun r w1 H1 locs1 hp hP hD hS => kk r w1 hp H1 locs1 ls hP hD hS hL)
  obtain ⟨k', hk'⟩ := List.getElem?_of_mem (hperm.mem_iff.mpr (List.mem_append_left _ (List.mem_of_getElem? hb)))
  obtain ⟨cell, q1, q2, q3⟩ := va_recv c6 hP hc hk'
  exact ⟨cell, q1, q2, by rw [← hcn]; exact q3⟩
theorem z_callVx (C : zC E cc own Ts rm) (hE : zOf E l D tys) (hM : zNX l y wl rm1 D tys (.ref b :: As) w0 post px mc ms) (hG : GoodIn Ts (wsV own index y.cls y wl)) (hw : wl = Cond.code y bytes maxL ret :: wl') (hm : rm1.cells = mc ∧ rm1.slots = ms) (hd : y.cls = y.cls ∧ y.cls ≠ "java/lang/invoke/MethodHandle" ∧ y.cls ≠ "java/lang/invoke/VarHandle" ∧ (parseMethodDescriptor y.desc).map (fun d => d.parameters.length) = some n) (hR : rm1.frames + 1 ≤ rm.frames ∧ 8 + (maxL + 11) + rm1.locals ≤ rm.locals) (hn : As.length = n) (hst : stk = As.reverse ++ .ref b :: st) (hperm : ws.Perm (w0 ++ fr)) (kb : Nat) {ci : Nat} {fs : List Value} {cl : vw_C} (hb : w0[kb]? = some (b, .inr (ci, fs))) (hc : vwCl[ci]? = some cl) (hcn : cl.1 = y.cls) (hcat : (st.map fun v => v.category).sum ≤ 8) (hf : cells + mc ≤ rm.cells ∧ slots + ms ≤ rm.slots) (hdg : decode cc pc = .ok (.invokevirtual index, 3)) (kx : ∀ Ex : String, px Ex → zV E Q (cells + mc) (slots + ms) ws lv pc st Ex) (kk : ∀ (r : Option Value) (w1 : va_W), post r w1 → zG E Q (cells + mc) (slots + ms) (w1 ++ fr) lv (pc + 3) (r.toList ++ st)) : zG E Q cells slots ws lv pc stk := by
  obtain ⟨p, l', e, R, s, m, args, below, meth, c, D', tys', A, nL⟩ := E
  obtain ⟨rfl, rfl, rfl, hX⟩ := hE
  obtain ⟨c1, c2, c3, c4, c5, c6, c7, c8, rfl⟩ := C
  intro H locs ls hP hD hS hL
  refine z_retx hP hD hS c7 hperm (vx_runV (C := y.cls) (As := As) ⟨c1, c2, c3, c4, c5⟩ (hM H.size) (cwV n c5 hG hw hm.1 hm.2 hd hR) ⟨zPre_blind, ?_, fun U hU hW => ⟨rfl, z_pre hP hD c6 hX hS c7 hperm U hU hW⟩⟩ rfl hn hL.size hst (lv_room hcat) hdg hf) (fun Ex q ce H1 locs1 hp hP hS hq hcv hcl => kx Ex hp H1 locs1 ls q ce hP hD hS hL hq hcv hcl) (fun r w1 H1 locs1 hp hP hD hS => kk r w1 hp H1 locs1 ls hP hD hS hL)
  obtain ⟨k', hk'⟩ := List.getElem?_of_mem (hperm.mem_iff.mpr (List.mem_append_left _ (List.mem_of_getElem? hb)))
  obtain ⟨cell, q1, q2, q3⟩ := va_recv c6 hP hc hk'
  exact ⟨cell, q1, q2, by rw [← hcn]; exact q3⟩
theorem z_callS (C : zC E cc own Ts rm) (hE : zOf E l D tys) (hM : zN l y wl rm1 D tys As w0 post mc ms) (hG : GoodIn Ts (va_wsS own index y wl)) (hw : wl = Cond.code y bytes maxL ret :: wl') (hm : rm1.cells = mc ∧ rm1.slots = ms) (hd : y.cls ≠ "java/lang/invoke/MethodHandle" ∧ y.cls ≠ "java/lang/invoke/VarHandle" ∧ (parseMethodDescriptor y.desc).map (fun d => d.parameters.length) = some n) (hR : rm1.frames + 1 ≤ rm.frames ∧ 8 + (maxL + 11) + rm1.locals ≤ rm.locals) (hn : As.length = n) (hst : stk = As.reverse ++ st) (hperm : ws.Perm (w0 ++ fr)) (hcat : (st.map fun v => v.category).sum ≤ 8) (hf : cells + mc ≤ rm.cells ∧ slots + ms ≤ rm.slots) (hdg : decode cc pc = .ok (.invokestatic index, 3)) (kk : ∀ (r : Option Value) (w1 : va_W), post r w1 → zG E Q (cells + mc) (slots + ms) (w1 ++ fr) lv (pc + 3) (r.toList ++ st)) : zG E Q cells slots ws lv pc stk := by
  obtain ⟨p, l', e, R, s, m, args, below, meth, c, D', tys', A, nL⟩ := E
  obtain ⟨rfl, rfl, rfl, hX⟩ := hE
  obtain ⟨c1, c2, c3, c4, c5, c6, c7, c8, rfl⟩ := C
  intro H locs ls hP hD hS hL
  exact z_ret hP hD hS c7 hperm (va_runS (As := As) ⟨c1, c2, c3, c4, c5⟩ (hM H.size) (va_cwS n c5 hG hw hm.1 hm.2 hd hR) ⟨zPre_blind, fun U hU hW => ⟨rfl, z_pre hP hD c6 hX hS c7 hperm U hU hW⟩⟩ rfl hn hL.size hst (lv_room hcat) hdg hf) (fun r w1 H1 locs1 hp hP hD hS => kk r w1 hp H1 locs1 ls hP hD hS hL)
theorem z_callSN (C : zC E cc own Ts rm) (hE : zOf E l D tys) (hM : zN l y wl rm1 D tys As w0 post mc ms) (hG : GoodIn Ts wl) (hw : wl = Cond.code y bytes maxL ret :: wl') (hm : rm1.cells = mc ∧ rm1.slots = ms) (hl : Cond.methodLinkNest own index y host ∈ zNs) (hini : Cond.initialized y.cls ∈ Ts) (hstt : Cond.static y ∈ Ts) (hd : y.cls ≠ "java/lang/invoke/MethodHandle" ∧ y.cls ≠ "java/lang/invoke/VarHandle" ∧ (parseMethodDescriptor y.desc).map (fun d => d.parameters.length) = some n) (hR : rm1.frames + 1 ≤ rm.frames ∧ 8 + (maxL + 11) + rm1.locals ≤ rm.locals) (hn : As.length = n) (hst : stk = As.reverse ++ st) (hperm : ws.Perm (w0 ++ fr)) (hcat : (st.map fun v => v.category).sum ≤ 8) (hf : cells + mc ≤ rm.cells ∧ slots + ms ≤ rm.slots) (hdg : decode cc pc = .ok (.invokestatic index, 3)) (kk : ∀ (r : Option Value) (w1 : va_W), post r w1 → zG E Q (cells + mc) (slots + ms) (w1 ++ fr) lv (pc + 3) (r.toList ++ st)) : zG E Q cells slots ws lv pc stk := by
  obtain ⟨p, l', e, R, s, m, args, below, meth, c, D', tys', A, nL⟩ := E
  obtain ⟨rfl, rfl, rfl, hX⟩ := hE
  obtain ⟨c1, c2, c3, c4, c5, c6, c7, c8, rfl⟩ := C
  intro H locs ls hP hD hS hL
  exact z_ret hP hD hS c7 hperm (va_runSN (As := As) ⟨c1, c2, c3, c4, c5⟩ (hM H.size) ⟨va_cnB n c5 hG hw hm.1 hm.2 (hX.1 _ hl) (c5 _ hini) hd hR, c5 _ hstt, trivial⟩ ⟨zPre_blind, fun U hU hW => ⟨rfl, z_pre hP hD c6 hX hS c7 hperm U hU hW⟩⟩ rfl hn hL.size hst (lv_room hcat) hdg hf) (fun r w1 H1 locs1 hp hP hD hS => kk r w1 hp H1 locs1 ls hP hD hS hL)
theorem z_callI (C : zC E cc own Ts rm) (hE : zOf E l D tys) (hM : zN l y wl rm1 D tys (.ref b :: As) w0 post mc ms) (hG : GoodIn Ts wl) (hw : wl = Cond.code y bytes maxL none :: wl') (hm : rm1.cells = mc ∧ rm1.slots = ms) (hini : Cond.initialized y.cls ∈ Ts) (hlk : Cond.methodLink own index y ∈ Ts) (hin : Cond.instanceMethod y ∈ Ts) (hy1 : y.name = "<init>") (hd : y.cls ≠ "java/lang/invoke/MethodHandle" ∧ y.cls ≠ "java/lang/invoke/VarHandle" ∧ (parseMethodDescriptor y.desc).map (fun d => d.parameters.length) = some n) (hR : rm1.frames + 1 ≤ rm.frames ∧ 8 + (maxL + 11) + rm1.locals ≤ rm.locals) (hn : As.length = n) (hst : stk = As.reverse ++ .ref b :: st) (hperm : ws.Perm (w0 ++ fr)) (hcat : (st.map fun v => v.category).sum ≤ 8) (hf : cells + mc ≤ rm.cells ∧ slots + ms ≤ rm.slots) (hdg : decode cc pc = .ok (.invokespecial index, 3)) (kk : ∀ (r : Option Value) (w1 : va_W), post r w1 → zG E Q (cells + mc) (slots + ms) (w1 ++ fr) lv (pc + 3) (r.toList ++ st)) : zG E Q cells slots ws lv pc stk := by
  obtain ⟨p, l', e, R, s, m, args, below, meth, c, D', tys', A, nL⟩ := E
  obtain ⟨rfl, rfl, rfl, hX⟩ := hE
  obtain ⟨c1, c2, c3, c4, c5, c6, c7, c8, rfl⟩ := C
  intro H locs ls hP hD hS hL
  exact z_ret hP hD hS c7 hperm (va_runI (As := As) ⟨c1, c2, c3, c4, c5⟩ (hM H.size) (cwI n c5 hG hw hm.1 hm.2 (c5 _ hini) (c5 _ hlk) (c5 _ hin) hy1 hd hR) ⟨zPre_blind, fun U hU hW => ⟨rfl, z_pre hP hD c6 hX hS c7 hperm U hU hW⟩⟩ rfl hn hL.size hst (lv_room hcat) hdg hf) (fun r w1 H1 locs1 hp hP hD hS => kk r w1 hp H1 locs1 ls hP hD hS hL)
theorem z_callIN (C : zC E cc own Ts rm) (hE : zOf E l D tys) (hM : zN l y wl rm1 D tys (.ref b :: As) w0 post mc ms) (hG : GoodIn Ts wl) (hw : wl = Cond.code y bytes maxL none :: wl') (hm : rm1.cells = mc ∧ rm1.slots = ms) (hl : Cond.methodLinkNest own index y host ∈ zNs) (hini : Cond.initialized y.cls ∈ Ts) (hin : Cond.instanceMethod y ∈ Ts) (hy1 : y.name = "<init>") (hd : y.cls ≠ "java/lang/invoke/MethodHandle" ∧ y.cls ≠ "java/lang/invoke/VarHandle" ∧ (parseMethodDescriptor y.desc).map (fun d => d.parameters.length) = some n) (hR : rm1.frames + 1 ≤ rm.frames ∧ 8 + (maxL + 11) + rm1.locals ≤ rm.locals) (hn : As.length = n) (hst : stk = As.reverse ++ .ref b :: st) (hperm : ws.Perm (w0 ++ fr)) (hcat : (st.map fun v => v.category).sum ≤ 8) (hf : cells + mc ≤ rm.cells ∧ slots + ms ≤ rm.slots) (hdg : decode cc pc = .ok (.invokespecial index, 3)) (kk : ∀ (r : Option Value) (w1 : va_W), post r w1 → zG E Q (cells + mc) (slots + ms) (w1 ++ fr) lv (pc + 3) (r.toList ++ st)) : zG E Q cells slots ws lv pc stk := by
  obtain ⟨p, l', e, R, s, m, args, below, meth, c, D', tys', A, nL⟩ := E
  obtain ⟨rfl, rfl, rfl, hX⟩ := hE
  obtain ⟨c1, c2, c3, c4, c5, c6, c7, c8, rfl⟩ := C
  intro H locs ls hP hD hS hL
  exact z_ret hP hD hS c7 hperm (va_runIN (As := As) ⟨c1, c2, c3, c4, c5⟩ (hM H.size) ⟨va_cnB n c5 hG hw hm.1 hm.2 (hX.1 _ hl) (c5 _ hini) hd hR, hy1, c5 _ hin⟩ ⟨zPre_blind, fun U hU hW => ⟨rfl, z_pre hP hD c6 hX hS c7 hperm U hU hW⟩⟩ rfl hn hL.size hst (lv_room hcat) hdg hf) (fun r w1 H1 locs1 hp hP hD hS => kk r w1 hp H1 locs1 ls hP hD hS hL)
theorem z_objInit (C : zC E cc own Ts rm) {idx b : Nat} (h1 : Cond.methodLink own idx objectInit ∈ Ts) (h2 : Cond.instanceMethod objectInit ∈ Ts) (h3 : Cond.code objectInit ⟨#[0xb1]⟩ 1 none ∈ Ts) (hcat : (st.map fun v => v.category).sum ≤ 8) (hr : 1 ≤ rm.frames ∧ 20 ≤ rm.locals) (hdg : decode cc pc = .ok (.invokespecial idx, 3)) (k : zG E Q cells slots ws lv (pc + 3) st) : zG E Q cells slots ws lv pc (.ref b :: st) := by
  obtain ⟨p, l, e, R, s, m, args, below, meth, c, D, tys, A, nL⟩ := E
  obtain ⟨c1, c2, c3, c4, c5, c6, c7, c8, rfl⟩ := C
  intro H locs ls hP hD hS hL
  refine W.objInit c1 c2 c4 (c5 _ h1) (c5 _ h2) (c5 _ h3) rfl (hL.size.trans c3.symm) rfl hdg hr.1 ?_ (k H locs ls hP hD hS hL)
  have := lv_room (m := m) (pc := pc) (ls := ls) (rest := .ref b :: st) hcat
  omega
theorem z_max (C : zC E cc own Ts rm) {x y : Int32} {idx : Nat} (h1 : Cond.methodLink own idx Lib.Math.max.name ∈ Ts) (h2 : Cond.static Lib.Math.max.name ∈ Ts) (h3 : Cond.initialized "java/lang/Math" ∈ Ts) (h4 : Cond.code Lib.Math.max.name Lib.Math.max.code 2 (some .int) ∈ Ts) (hcat : (st.map fun v => v.category).sum ≤ 8) (hr : 1 ≤ rm.frames ∧ 21 ≤ rm.locals) (hc : cells ≤ rm.cells ∧ slots ≤ rm.slots) (hdg : decode cc pc = .ok (.invokestatic idx, 3)) (k : zG E Q cells slots ws lv (pc + 3) (.int (if x < y then y else x) :: st)) : zG E Q cells slots ws lv pc (.int y :: .int x :: st) := by
  obtain ⟨p, l, e, R, s, m, args, below, meth, c, D, tys, A, nL⟩ := E
  obtain ⟨c1, c2, c3, c4, c5, c6, c7, c8, rfl⟩ := C
  intro H locs ls hP hD hS hL
  exact va_mmax c1 c2 (c3.trans hL.size.symm) c4 (c5 _ h1) (c5 _ h2) (c5 _ h3) (c5 _ h4) hr.1 (by omega) hc.1 hc.2 hdg (k H locs ls hP hD hS hL)
theorem z_min (C : zC E cc own Ts rm) {x y : Int32} {idx : Nat} (h1 : Cond.methodLink own idx Lib.Math.min.name ∈ Ts) (h2 : Cond.static Lib.Math.min.name ∈ Ts) (h3 : Cond.initialized "java/lang/Math" ∈ Ts) (h4 : Cond.code Lib.Math.min.name Lib.Math.min.code 2 (some .int) ∈ Ts) (hcat : (st.map fun v => v.category).sum ≤ 8) (hr : 1 ≤ rm.frames ∧ 21 ≤ rm.locals) (hc : cells ≤ rm.cells ∧ slots ≤ rm.slots) (hdg : decode cc pc = .ok (.invokestatic idx, 3)) (k : zG E Q cells slots ws lv (pc + 3) (.int (if y < x then y else x) :: st)) : zG E Q cells slots ws lv pc (.int y :: .int x :: st) := by
  obtain ⟨p, l, e, R, s, m, args, below, meth, c, D, tys, A, nL⟩ := E
  obtain ⟨c1, c2, c3, c4, c5, c6, c7, c8, rfl⟩ := C
  intro H locs ls hP hD hS hL
  exact va_mmin c1 c2 (c3.trans hL.size.symm) c4 (c5 _ h1) (c5 _ h2) (c5 _ h3) (c5 _ h4) hr.1 (by omega) hc.1 hc.2 hdg (k H locs ls hP hD hS hL)
/-- throw new X("text") that leaves the method -/
theorem z_throw (C : zC E cc own Ts rm) (hE : zOf E l D tys) (hT : zThr E Q w0 px mc ms) (ho : own = RX4) {cls text : String} {ik is ic : Nat} (hw : ws = w0) (hpx : px cls) (hcls : Bundle.fit cls = true) (hk : Cond.classLink own ik cls ∈ Ts) (hini : Cond.initialized cls ∈ Ts) (hat : ∀ w ∈ (vx_atS own ic cls ["java/lang/RuntimeException", "java/lang/Exception"]).filter goodWord, w ∈ Ts) (hng : ∀ w ∈ (vx_atS own ic cls ["java/lang/RuntimeException", "java/lang/Exception"]).filter (fun w => !goodWord w), w ∈ zNs)
    (hgood : ∀ w ∈ Cond.classLink own ik cls :: Cond.initialized cls :: vx_atS own ic cls ["java/lang/RuntimeException", "java/lang/Exception"], vx_ot w = true) (hs : (is, text) ∈ zSt)
    (d0 : decode cc pc = .ok (.new ik, 3)) (d3 : decode cc (pc + 3) = .ok (.dup, 1)) (d4 : decode cc (pc + 4) = .ok (.ldc is, 2)) (d6 : decode cc (pc + 6) = .ok (.invokespecial ic, 3)) (d9 : decode cc (pc + 9) = .ok (.athrow, 1))
    (hcat : (st.map fun v => v.category).sum ≤ 8) (hr : 6 ≤ rm.frames ∧ 90 ≤ rm.locals) (hc : cells + 1 ≤ rm.cells ∧ slots + 6 ≤ rm.slots) (hm : cells + 1 ≤ mc ∧ slots + 6 ≤ ms) : zG E Q cells slots ws lv pc st := by
  obtain ⟨p, l', e, R, s, m, args, below, meth, c, D', tys', A, nL⟩ := E
  obtain ⟨rfl, rfl, rfl, hX⟩ := hE
  obtain ⟨c1, c2, c3, c4, c5, c6, c7, c8, rfl⟩ := C
  obtain ⟨t1, t2, post, rfl⟩ := hT
  subst hw
  intro H locs ls hP hD hS hL
  obtain ⟨sa, hsa⟩ := hX.2.2.1 _ hs
  refine vx_throwS (names := ["java/lang/RuntimeException", "java/lang/Exception"]) c1 c2 t2 c4 hcls (by decide +kernel) (c5 _ hk) (c5 _ hini) (by rw [ho]; exact hsa) (vx_hat (fun w hw => c5 _ (hat w hw)) hng (fun w hw => va_Nw.use (zNs_tables w hw) (hX.1 w hw))) hgood hX.2.2.2.2.1 hX.2.2.2.2.2 hS (hL.size.trans c3.symm) d0 d3 d4 d6 d9 (fun x hx => (t1 x hx).elim) (by show 2 + 3 < _; omega) (by show _ + (13 * (2 + 1) + 43) ≤ _; omega) hc.1 hc.2 c8 (fun t hv hz hk => ⟨hpx, ?_, ?_⟩) hS.2.2 hm.1 hm.2
  · exact hP.kept fun k q hq => hk q.1 (hP k q hq).lt
  · exact ⟨Nat.le_trans hS.1 hz, fun q h1 h2 => by rw [hk q (Nat.lt_of_lt_of_le h1 hS.1)]; exact hS.2.1 q h1 h2⟩
/-- a callee's throw leaves the method -/
theorem z_out (C : zC E cc own Ts rm) (hT : zThr E Q w0 px mc ms) {Ex : String} (hw : ws = w0) (hpx : px Ex) (hm : cells ≤ mc ∧ slots ≤ ms) : zV E Q cells slots ws lv pc st Ex := by
  obtain ⟨p, l', e, R, s, m, args, below, meth, c, D', tys', A, nL⟩ := E
  obtain ⟨c1, c2, c3, c4, c5, c6, c7, c8, rfl⟩ := C
  obtain ⟨t1, t2, post, rfl⟩ := hT
  subst hw
  intro H locs ls q ce hP hD hS hL hq hcv hcl
  exact vx_out (fun x hx => (t1 x hx).elim) c8 hq hcv hcl (fun t ht _ => ⟨hpx, by rw [ht]; exact hP, hS.F ht⟩) hS.2.2 hm.1 hm.2
end ZM
end
section
/-! THE LAYER, fifth part: whole numbers on the stack; places of cells. -/
theorem iI_add (a b : Int) : iI a + iI b = iI (a + b) := (Int32.ofInt_add a b).symm
theorem iI_sub (a b : Int) : iI a - iI b = iI (a - b) := (Int32.ofInt_sub a b).symm
theorem iI_mul (a b : Int) : iI a * iI b = iI (a * b) := (Int32.ofInt_mul a b).symm
theorem iI_lt {a b : Int} (ha : iR a) (hb : iR b) : iI a < iI b ↔ a < b := by
  rw [Int32.lt_iff_toInt_lt, iI_toInt ha, iI_toInt hb]
theorem iI_le {a b : Int} (ha : iR a) (hb : iR b) : iI a ≤ iI b ↔ a ≤ b := by
  rw [Int32.le_iff_toInt_le, iI_toInt ha, iI_toInt hb]
theorem iI_eq {a b : Int} (ha : iR a) (hb : iR b) : iI a = iI b ↔ a = b := by
  rw [← Int32.toInt_inj, iI_toInt ha, iI_toInt hb]
theorem iI_nat {n : Nat} (h : n < 2147483648) : iI (n : Int) = nI n := by
  rw [← Int32.toInt_inj, iI_toInt ⟨by omega, by omega⟩, nI_toInt (by omega)]
theorem iI_rem {a d : Int} (ha : 0 ≤ a) (ha2 : a < 2147483648) (h0 : 0 < d) (hd : d < 2147483648) : iI a - iI a / iI d * iI d = iI (a % d) := by
  obtain ⟨n, rfl⟩ := Int.eq_ofNat_of_zero_le ha
  obtain ⟨k, rfl⟩ := Int.eq_ofNat_of_zero_le (Int.le_of_lt h0)
  rw [iI_nat (by omega), iI_nat (by omega), pk_rem (by omega) (by omega) (by omega)]
  rw [← Int.natCast_emod, iI_nat]
  have := Nat.mod_lt n (show 0 < k by omega)
  omega
/-- a sub-list of cells, and the others, by their places -/
theorem z_places {ws w : va_W} (is : List Nat) (hp : is.isPerm (List.range ws.length) = true) (h : is.map (fun i => ws[i]?) = w.map some) : ws.Perm w := by
  have h1 : (is.map (fun i => ws[i]?)).Perm ((List.range ws.length).map (fun i => ws[i]?)) := (List.isPerm_iff.mp hp).map _
  have h2 : (List.range ws.length).map (fun i => ws[i]?) = ws.map some := by
    apply List.ext_getElem?
    intro i
    rw [List.getElem?_map, List.getElem?_map]
    by_cases hi : i < ws.length
    · rw [List.getElem?_range hi]
      simp [hi]
    · rw [List.getElem?_eq_none (by simp; omega), List.getElem?_eq_none (by omega)]
      rfl
  rw [h, h2] at h1
  have h3 := h1.symm.filterMap id
  simpa [List.filterMap_map] using h3
theorem z_placesT {ws w tl : va_W} (is : List Nat) (hp : is.isPerm (List.range ws.length) = true) (h : is.map (fun i => ws[i]?) = w.map some) : (ws ++ tl).Perm (w ++ tl) := (z_places is hp h).append_right tl
/-- an array of whole numbers -/
def ai (cA : ClassId) (n : Nat) (g : Int → Int) : va_E := ar cA n (fun k => iI (g k))
theorem ai_up (g : Int → Int) (z x : Int) : zup (fun k => iI (g k)) z (iI x) = fun k => iI (zup g z x k) := by
  funext k
  unfold zup
  split <;> rfl
section ZJ
variable {E : zE} {Q : State → Prop} {cells slots : Nat} {ws ws' : va_W} {lv : List (Option Value)} {pc : Nat} {st : List Value} {cc : ByteArray} {own : String} {Ts : List Cond} {rm : Room} {a b v : Int}
theorem z_iaddI (C : zC E cc own Ts rm) (hdg : decode cc pc = .ok (.iadd, 1)) (hv : a + b = v) (k : zG E Q cells slots ws lv (pc + 1) (.int (iI v) :: st)) : zG E Q cells slots ws lv pc (.int (iI b) :: .int (iI a) :: st) := by
  subst hv
  exact z_iadd C hdg (z_top (iI_add a b) k)
theorem z_isubI (C : zC E cc own Ts rm) (hdg : decode cc pc = .ok (.isub, 1)) (hv : a - b = v) (k : zG E Q cells slots ws lv (pc + 1) (.int (iI v) :: st)) : zG E Q cells slots ws lv pc (.int (iI b) :: .int (iI a) :: st) := by
  subst hv
  exact z_isub C hdg (z_top (iI_sub a b) k)
theorem z_imulI (C : zC E cc own Ts rm) (hdg : decode cc pc = .ok (.imul, 1)) (hv : a * b = v) (k : zG E Q cells slots ws lv (pc + 1) (.int (iI v) :: st)) : zG E Q cells slots ws lv pc (.int (iI b) :: .int (iI a) :: st) := by
  subst hv
  exact z_imul C hdg (z_top (iI_mul a b) k)
theorem z_iremI (C : zC E cc own Ts rm) (hdg : decode cc pc = .ok (.irem, 1)) (h1 : 0 ≤ a) (h2 : a < 2147483648) (h3 : 0 < b) (h4 : b < 2147483648) (k : zG E Q cells slots ws lv (pc + 1) (.int (iI (a % b)) :: st)) : zG E Q cells slots ws lv pc (.int (iI b) :: .int (iI a) :: st) := by
  refine z_irem C hdg (fun h => ?_) (z_top (iI_rem h1 h2 h3 h4) k)
  have := (iI_eq (a := b) (b := 0) ⟨by omega, by omega⟩ ⟨by omega, by omega⟩).mp h
  omega
theorem z_iincI (C : zC E cc own Ts rm) {i : Nat} {n x : Int} {lv' : List (Option Value)} (hdg : decode cc pc = .ok (.iinc i n, 3)) (hl : lv[i]? = some (some (.int (iI x)))) (hv : x + n = v) (hs : lv.set i (some (.int (iI v))) = lv') (k : zG E Q cells slots ws lv' (pc + 3) st) : zG E Q cells slots ws lv pc st := by
  subst hv
  exact z_iinc C hdg hl (iI_add x n) hs k
theorem z_icmp_eqI (C : zC E cc own Ts rm) {off : Int} {tgt : Nat} (hdg : decode cc pc = .ok (.if_icmp .eq off, 3)) (ht : (pc : Int) + off = (tgt : Int)) (ha : iR a) (hb : iR b) (kt : a = b → zG E Q cells slots ws lv tgt st) (kf : ¬ a = b → zG E Q cells slots ws lv (pc + 3) st) : zG E Q cells slots ws lv pc (.int (iI b) :: .int (iI a) :: st) := z_icmp_eq C hdg ht (fun h => kt ((iI_eq ha hb).mp h)) (fun h => kf (fun q => h ((iI_eq ha hb).mpr q)))
theorem z_if_eqI (C : zC E cc own Ts rm) {off : Int} {tgt : Nat} (hdg : decode cc pc = .ok (.ifCond .eq off, 3)) (ht : (pc : Int) + off = (tgt : Int)) (ha : iR a) (kt : a = 0 → zG E Q cells slots ws lv tgt st) (kf : ¬ a = 0 → zG E Q cells slots ws lv (pc + 3) st) : zG E Q cells slots ws lv pc (.int (iI a) :: st) := z_if_eq C hdg ht (fun h => kt ((iI_eq ha (show iR 0 from ⟨by decide, by decide⟩)).mp h)) (fun h => kf (fun q => h ((iI_eq ha (show iR 0 from ⟨by decide, by decide⟩)).mpr q)))
theorem z_icmp_neI (C : zC E cc own Ts rm) {off : Int} {tgt : Nat} (hdg : decode cc pc = .ok (.if_icmp .ne off, 3)) (ht : (pc : Int) + off = (tgt : Int)) (ha : iR a) (hb : iR b) (kt : ¬ a = b → zG E Q cells slots ws lv tgt st) (kf : a = b → zG E Q cells slots ws lv (pc + 3) st) : zG E Q cells slots ws lv pc (.int (iI b) :: .int (iI a) :: st) := z_icmp_ne C hdg ht (fun h => kt (fun q => h ((iI_eq ha hb).mpr q))) (fun h => kf ((iI_eq ha hb).mp h))
theorem z_if_neI (C : zC E cc own Ts rm) {off : Int} {tgt : Nat} (hdg : decode cc pc = .ok (.ifCond .ne off, 3)) (ht : (pc : Int) + off = (tgt : Int)) (ha : iR a) (kt : ¬ a = 0 → zG E Q cells slots ws lv tgt st) (kf : a = 0 → zG E Q cells slots ws lv (pc + 3) st) : zG E Q cells slots ws lv pc (.int (iI a) :: st) := z_if_ne C hdg ht (fun h => kt (fun q => h ((iI_eq ha (show iR 0 from ⟨by decide, by decide⟩)).mpr q))) (fun h => kf ((iI_eq ha (show iR 0 from ⟨by decide, by decide⟩)).mp h))
theorem z_icmp_ltI (C : zC E cc own Ts rm) {off : Int} {tgt : Nat} (hdg : decode cc pc = .ok (.if_icmp .lt off, 3)) (ht : (pc : Int) + off = (tgt : Int)) (ha : iR a) (hb : iR b) (kt : a < b → zG E Q cells slots ws lv tgt st) (kf : b ≤ a → zG E Q cells slots ws lv (pc + 3) st) : zG E Q cells slots ws lv pc (.int (iI b) :: .int (iI a) :: st) := z_icmp_lt C hdg ht (fun h => kt ((iI_lt ha hb).mp h)) (fun h => kf (by have := mt (iI_lt ha hb).mpr h; omega))
theorem z_if_ltI (C : zC E cc own Ts rm) {off : Int} {tgt : Nat} (hdg : decode cc pc = .ok (.ifCond .lt off, 3)) (ht : (pc : Int) + off = (tgt : Int)) (ha : iR a) (kt : a < 0 → zG E Q cells slots ws lv tgt st) (kf : 0 ≤ a → zG E Q cells slots ws lv (pc + 3) st) : zG E Q cells slots ws lv pc (.int (iI a) :: st) := z_if_lt C hdg ht (fun h => kt ((iI_lt ha (show iR 0 from ⟨by decide, by decide⟩)).mp h)) (fun h => kf (by have := mt (iI_lt ha (show iR 0 from ⟨by decide, by decide⟩)).mpr h; omega))
theorem z_icmp_geI (C : zC E cc own Ts rm) {off : Int} {tgt : Nat} (hdg : decode cc pc = .ok (.if_icmp .ge off, 3)) (ht : (pc : Int) + off = (tgt : Int)) (ha : iR a) (hb : iR b) (kt : b ≤ a → zG E Q cells slots ws lv tgt st) (kf : a < b → zG E Q cells slots ws lv (pc + 3) st) : zG E Q cells slots ws lv pc (.int (iI b) :: .int (iI a) :: st) := z_icmp_ge C hdg ht (fun h => kt ((iI_le hb ha).mp h)) (fun h => kf (by have := mt (iI_le hb ha).mpr h; omega))
theorem z_if_geI (C : zC E cc own Ts rm) {off : Int} {tgt : Nat} (hdg : decode cc pc = .ok (.ifCond .ge off, 3)) (ht : (pc : Int) + off = (tgt : Int)) (ha : iR a) (kt : 0 ≤ a → zG E Q cells slots ws lv tgt st) (kf : a < 0 → zG E Q cells slots ws lv (pc + 3) st) : zG E Q cells slots ws lv pc (.int (iI a) :: st) := z_if_ge C hdg ht (fun h => kt ((iI_le (show iR 0 from ⟨by decide, by decide⟩) ha).mp h)) (fun h => kf (by have := mt (iI_le (show iR 0 from ⟨by decide, by decide⟩) ha).mpr h; omega))
theorem z_icmp_gtI (C : zC E cc own Ts rm) {off : Int} {tgt : Nat} (hdg : decode cc pc = .ok (.if_icmp .gt off, 3)) (ht : (pc : Int) + off = (tgt : Int)) (ha : iR a) (hb : iR b) (kt : b < a → zG E Q cells slots ws lv tgt st) (kf : a ≤ b → zG E Q cells slots ws lv (pc + 3) st) : zG E Q cells slots ws lv pc (.int (iI b) :: .int (iI a) :: st) := z_icmp_gt C hdg ht (fun h => kt ((iI_lt hb ha).mp h)) (fun h => kf (by have := mt (iI_lt hb ha).mpr h; omega))
theorem z_if_gtI (C : zC E cc own Ts rm) {off : Int} {tgt : Nat} (hdg : decode cc pc = .ok (.ifCond .gt off, 3)) (ht : (pc : Int) + off = (tgt : Int)) (ha : iR a) (kt : 0 < a → zG E Q cells slots ws lv tgt st) (kf : a ≤ 0 → zG E Q cells slots ws lv (pc + 3) st) : zG E Q cells slots ws lv pc (.int (iI a) :: st) := z_if_gt C hdg ht (fun h => kt ((iI_lt (show iR 0 from ⟨by decide, by decide⟩) ha).mp h)) (fun h => kf (by have := mt (iI_lt (show iR 0 from ⟨by decide, by decide⟩) ha).mpr h; omega))
theorem z_icmp_leI (C : zC E cc own Ts rm) {off : Int} {tgt : Nat} (hdg : decode cc pc = .ok (.if_icmp .le off, 3)) (ht : (pc : Int) + off = (tgt : Int)) (ha : iR a) (hb : iR b) (kt : a ≤ b → zG E Q cells slots ws lv tgt st) (kf : b < a → zG E Q cells slots ws lv (pc + 3) st) : zG E Q cells slots ws lv pc (.int (iI b) :: .int (iI a) :: st) := z_icmp_le C hdg ht (fun h => kt ((iI_le ha hb).mp h)) (fun h => kf (by have := mt (iI_le ha hb).mpr h; omega))
theorem z_if_leI (C : zC E cc own Ts rm) {off : Int} {tgt : Nat} (hdg : decode cc pc = .ok (.ifCond .le off, 3)) (ht : (pc : Int) + off = (tgt : Int)) (ha : iR a) (kt : a ≤ 0 → zG E Q cells slots ws lv tgt st) (kf : 0 < a → zG E Q cells slots ws lv (pc + 3) st) : zG E Q cells slots ws lv pc (.int (iI a) :: st) := z_if_le C hdg ht (fun h => kt ((iI_le ha (show iR 0 from ⟨by decide, by decide⟩)).mp h)) (fun h => kf (by have := mt (iI_le ha (show iR 0 from ⟨by decide, by decide⟩)).mpr h; omega))
theorem z_ialoadI {x n t0 : Nat} {cA : ClassId} {g : Int → Int} {z : Int} (q0 : Nat) (he : ws[q0]? = some (x, ai cA n g)) (C : zC E cc own Ts rm) (ht : zT E t0 cA .int) (h0 : 0 ≤ z) (h : z < n) (hn : n ≤ 2147483647) (hdg : decode cc pc = .ok (.iaload, 1)) (kk : zG E Q cells slots ws lv (pc + 1) (.int (iI (g z)) :: st)) : zG E Q cells slots ws lv pc (.int (iI z) :: .ref x :: st) := z_iaload C q0 he ht h0 h hn hdg kk
theorem z_baloadI {x n t0 : Nat} {cA : ClassId} {g : Int → Int} {z : Int} (q0 : Nat) (he : ws[q0]? = some (x, ai cA n g)) (C : zC E cc own Ts rm) (ht : zT E t0 cA .boolean) (h0 : 0 ≤ z) (h : z < n) (hn : n ≤ 2147483647) (hdg : decode cc pc = .ok (.baload, 1)) (kk : zG E Q cells slots ws lv (pc + 1) (.int (iI (g z)) :: st)) : zG E Q cells slots ws lv pc (.int (iI z) :: .ref x :: st) := z_baload C q0 he ht h0 h hn hdg kk
theorem z_iastoreI {x n t0 : Nat} {cA : ClassId} {g : Int → Int} {z y : Int} (q0 : Nat) (he : ws[q0]? = some (x, ai cA n g)) (C : zC E cc own Ts rm) (ht : zT E t0 cA .int) (h0 : 0 ≤ z) (h : z < n) (hn : n ≤ 2147483647) (hs : ws.set q0 (x, ai cA n (zup g z y)) = ws') (hdg : decode cc pc = .ok (.iastore, 1)) (kk : zG E Q cells slots ws' lv (pc + 1) st) : zG E Q cells slots ws lv pc (.int (iI y) :: .int (iI z) :: .ref x :: st) := by
  refine z_iastore C q0 he ht h0 h hn ?_ hdg kk
  rw [ai_up]
  exact hs
theorem z_bastoreI {x n t0 : Nat} {cA : ClassId} {g : Int → Int} {z y : Int} (q0 : Nat) (he : ws[q0]? = some (x, ai cA n g)) (C : zC E cc own Ts rm) (ht : zT E t0 cA .boolean) (h0 : 0 ≤ z) (h : z < n) (hn : n ≤ 2147483647) (hx : vp_nar .boolean (iI y) = iI y) (hs : ws.set q0 (x, ai cA n (zup g z y)) = ws') (hdg : decode cc pc = .ok (.bastore, 1)) (kk : zG E Q cells slots ws' lv (pc + 1) st) : zG E Q cells slots ws lv pc (.int (iI y) :: .int (iI z) :: .ref x :: st) := by
  refine z_bastore C q0 he ht h0 h hn hx ?_ hdg kk
  rw [ai_up]
  exact hs
theorem z_maxI (C : zC E cc own Ts rm) {idx : Nat} (h1 : Cond.methodLink own idx Lib.Math.max.name ∈ Ts) (h2 : Cond.static Lib.Math.max.name ∈ Ts) (h3 : Cond.initialized "java/lang/Math" ∈ Ts) (h4 : Cond.code Lib.Math.max.name Lib.Math.max.code 2 (some .int) ∈ Ts) (hcat : (st.map fun v => v.category).sum ≤ 8) (hr : 1 ≤ rm.frames ∧ 21 ≤ rm.locals) (hc : cells ≤ rm.cells ∧ slots ≤ rm.slots) (hdg : decode cc pc = .ok (.invokestatic idx, 3)) (ha : iR a) (hb : iR b) (k : zG E Q cells slots ws lv (pc + 3) (.int (iI (max a b)) :: st)) : zG E Q cells slots ws lv pc (.int (iI b) :: .int (iI a) :: st) := by
  refine z_max C h1 h2 h3 h4 hcat hr hc hdg (z_top ?_ k)
  by_cases h : a < b
  · rw [if_pos ((iI_lt ha hb).mpr h), Int.max_eq_right (Int.le_of_lt h)]
  · rw [if_neg (mt (iI_lt ha hb).mp h), Int.max_eq_left (by omega)]
theorem z_minI (C : zC E cc own Ts rm) {idx : Nat} (h1 : Cond.methodLink own idx Lib.Math.min.name ∈ Ts) (h2 : Cond.static Lib.Math.min.name ∈ Ts) (h3 : Cond.initialized "java/lang/Math" ∈ Ts) (h4 : Cond.code Lib.Math.min.name Lib.Math.min.code 2 (some .int) ∈ Ts) (hcat : (st.map fun v => v.category).sum ≤ 8) (hr : 1 ≤ rm.frames ∧ 21 ≤ rm.locals) (hc : cells ≤ rm.cells ∧ slots ≤ rm.slots) (hdg : decode cc pc = .ok (.invokestatic idx, 3)) (ha : iR a) (hb : iR b) (k : zG E Q cells slots ws lv (pc + 3) (.int (iI (min a b)) :: st)) : zG E Q cells slots ws lv pc (.int (iI b) :: .int (iI a) :: st) := by
  refine z_min C h1 h2 h3 h4 hcat hr hc hdg (z_top ?_ k)
  by_cases h : b < a
  · rw [if_pos ((iI_lt hb ha).mpr h), Int.min_eq_right (Int.le_of_lt h)]
  · rw [if_neg (mt (iI_lt hb ha).mp h), Int.min_eq_left (by omega)]
end ZJ
end
section
/-! THE LAYER, sixth part: new arrays of whole numbers. -/
theorem ai_new (cA : ClassId) (n : Nat) : ar cA n (fun _ => 0) = ai cA n (fun _ => 0) := by
  unfold ai
  have h : (0 : Int32) = iI 0 := by decide
  rw [h]
theorem z_newint {E : zE} {Q : State → Prop} {cells slots : Nat} {ws : va_W} {lv : List (Option Value)} {pc : Nat} {st : List Value} {cc : ByteArray} {own : String} {Ts : List Cond} {rm : Room} (C : zC E cc own Ts rm) (t0 N : Nat) {cA : ClassId} {z : Int} (harr : Cond.arrayClass .int ∈ Ts) (ht : zT E t0 cA .int) (hz : z = N) (hN : N ≤ 1000) (hcells : cells + 1 ≤ rm.cells) (hslots : slots + N ≤ rm.slots) (hdg : decode cc pc = .ok (.newarray .int, 2)) (kk : ∀ q : Nat, zG E Q (cells + 1) (slots + N) (ws ++ [(q, ai cA N (fun _ => 0))]) lv (pc + 2) (.ref q :: st)) : zG E Q cells slots ws lv pc (.int (iI z) :: st) :=
  z_newarr (atype := .int) C harr rfl (fun _ h => by cases h) ht (fun _ => rfl) hz hN (by show N * 4 ≤ 536870912; omega) hcells hslots hdg (fun q => by rw [ai_new]; exact kk q)
theorem z_newbool {E : zE} {Q : State → Prop} {cells slots : Nat} {ws : va_W} {lv : List (Option Value)} {pc : Nat} {st : List Value} {cc : ByteArray} {own : String} {Ts : List Cond} {rm : Room} (C : zC E cc own Ts rm) (t0 N : Nat) {cA : ClassId} {z : Int} (harr : Cond.arrayClass .boolean ∈ Ts) (ht : zT E t0 cA .boolean) (hz : z = N) (hN : N ≤ 1000) (hcells : cells + 1 ≤ rm.cells) (hslots : slots + N ≤ rm.slots) (hdg : decode cc pc = .ok (.newarray .boolean, 2)) (kk : ∀ q : Nat, zG E Q (cells + 1) (slots + N) (ws ++ [(q, ai cA N (fun _ => 0))]) lv (pc + 2) (.ref q :: st)) : zG E Q cells slots ws lv pc (.int (iI z) :: st) :=
  z_newarr (atype := .boolean) C harr rfl (fun _ h => by cases h) ht (fun _ => rfl) hz hN (by show N * 1 ≤ 536870912; omega) hcells hslots hdg (fun q => by rw [ai_new]; exact kk q)
end
section
/-! THE STACKS, in words: cells C, starts S, span sp. -/
abbrev zTy (cI cZ cM cL : ClassId) : List (ClassId × FieldType) := [(cI, .int), (cZ, .boolean), (cM, .object "PaperGuild$Model"), (cL, .long)]
def b2 (P : Prop) [Decidable P] : Int := if P then 1 else 0
/-- how many cells lie at p -/
def hgt (sp : Int) (S : Int → Int) (p : Int) : Int := if 0 ≤ p ∧ p < sp then S (p + 1) - S p else 0
def cin (sp : Int) (S C : Int → Int) (p h : Int) : Int := if h < 0 ∨ hgt sp S p ≤ h then -1 else C (S p + h)
/-- the starts are in order, and within the row -/
def stW (sp : Int) (S : Int → Int) : Prop := 0 ≤ sp ∧ sp ≤ 32 ∧ S 0 = 0 ∧ (∀ k, 0 ≤ k → k ≤ sp → 0 ≤ S k ∧ S k ≤ 32) ∧ (∀ k, 0 ≤ k → k < sp → S k ≤ S (k + 1))
theorem stW.hgt0 {sp : Int} {S : Int → Int} (h : stW sp S) (p : Int) : 0 ≤ hgt sp S p := by
  unfold hgt
  split
  · have := h.2.2.2.2 p (by omega) (by omega); omega
  · omega
theorem stW.hgt32 {sp : Int} {S : Int → Int} (h : stW sp S) (p : Int) : hgt sp S p ≤ 32 := by
  unfold hgt
  split
  · have h1 := h.2.2.2.1 p (by omega) (by omega)
    have h2 := h.2.2.2.1 (p + 1) (by omega) (by omega)
    omega
  · omega
/-- n cells put behind the first fl -/
def cpU (NC : Int → Int) (fl n : Int) (f : Int → Int) : Int → Int := fun j => if fl ≤ j ∧ j < fl + n then f (j - fl) else NC j
theorem cpU_0 (NC : Int → Int) (fl : Int) (f : Int → Int) : cpU NC fl 0 f = NC := by
  funext j
  unfold cpU
  rw [if_neg (by omega)]
theorem cpU_s (NC : Int → Int) (fl n : Int) (f : Int → Int) (hn : 0 ≤ n) (x : Int) (hx : x = f n) : zup (cpU NC fl n f) (fl + n) x = cpU NC fl (n + 1) f := by
  subst hx
  funext j
  unfold zup cpU
  by_cases h1 : j = fl + n
  · subst h1
    rw [if_pos rfl, if_pos (by omega), show fl + n - fl = n by omega]
  · rw [if_neg h1]
    by_cases h2 : fl ≤ j ∧ j < fl + n
    · rw [if_pos h2, if_pos (by omega)]
    · rw [if_neg h2, if_neg (by omega)]
abbrev skW (cI : ClassId) (a c s nc ns : Nat) (C S NC NS : Int → Int) (fl sp : Int) : va_W := [(a, .inr (3, [.ref c, .ref s, .ref nc, .ref ns, .int (iI fl), .int (iI sp)])), (c, ai cI 32 C), (s, ai cI 33 S), (nc, ai cI 32 NC), (ns, ai cI 33 NS)]
/-- the greatest height among the first n places -/
def mxH (sp : Int) (S : Int → Int) : Nat → Int
  | 0 => 0
  | n + 1 => max (mxH sp S n) (hgt sp S n)
theorem stW.mx {sp : Int} {S : Int → Int} (h : stW sp S) : ∀ n : Nat, 0 ≤ mxH sp S n ∧ mxH sp S n ≤ 32
  | 0 => by unfold mxH; omega
  | n + 1 => by
    have h1 := h.mx n
    have h2 := h.hgt0 n
    have h3 := h.hgt32 n
    unfold mxH
    omega
end
section
/-! THE STACKS, first walks. -/
theorem hi_X3_isPlace_X3 : ∀ w ∈ wsX30, w ∈ wsX3_isPlace := by decide +kernel
set_option maxHeartbeats 4000000 in
set_option maxRecDepth 100000 in
theorem k_isPlace (l : Launch) (D : va_G) (cI cZ cM cL : ClassId) (a c s nc ns : Nat) (CC SS NC NS : Int → Int) (fl sp : Int) (p : Int) (hp : iR p) (hsp : iR sp) : zN l yX3_isPlace wsX3_isPlace { frames := 0, cells := 0, slots := 0, locals := 0 } D (zTy cI cZ cM cL) [.ref a, .int (iI p)] (skW cI a c s nc ns CC SS NC NS fl sp) (fun r w => r = some (.int (iI (b2 (0 ≤ p ∧ p < sp)))) ∧ w = (skW cI a c s nc ns CC SS NC NS fl sp)) 0 0 := by
  refine zN_of (cc := cX3_isPlace) (maxL := 2) (lv0 := [some (.ref a), some (.int (iI p))]) (by decide) rfl rfl (Nat.le_of_ble_eq_true rfl) rfl ?_
  intro E Q C hE hR hI0
  refine (show zG E Q 0 0 [(a, .inr (3, [.ref c, .ref s, .ref nc, .ref ns, .int (iI fl), .int (iI sp)])), (c, ai cI 32 CC), (s, ai cI 33 SS), (nc, ai cI 32 NC), (ns, ai cI 33 NS)] [some (.ref a), some (.int (iI p))] 0 [] from ?_)
  refine z_iload_n (i := 1) C dX3_isPlace_0 rfl rfl ?_
  refine z_if_ltI (tgt := 16) C dX3_isPlace_1 (by decide) ⟨by omega, by omega⟩ (fun h_1 => ?_) (fun h_1 => ?_)
  · refine z_iconst (v := iI 0) C dX3_isPlace_16 rfl ?_
    exact z_zret C hR (by decide) dX3_isPlace_17 (Nat.le_refl _) (Nat.le_refl _) (⟨by unfold b2; first | rw [if_pos (by omega)] | rw [if_neg (by omega)], rfl⟩)
  · refine z_iload_n (i := 1) C dX3_isPlace_4 rfl rfl ?_
    refine z_aload_n (i := 0) C dX3_isPlace_5 rfl rfl ?_
    refine z_get (ci := 3) C (hi_X3_isPlace_X3) 0 rfl rfl 5 (by decide) (by decide +kernel) rfl dX3_isPlace_6 ?_
    refine z_icmp_geI (tgt := 16) C dX3_isPlace_9 (by decide) ⟨by omega, by omega⟩ ⟨by omega, by omega⟩ (fun h_2 => ?_) (fun h_2 => ?_)
    · refine z_iconst (v := iI 0) C dX3_isPlace_16 rfl ?_
      exact z_zret C hR (by decide) dX3_isPlace_17 (Nat.le_refl _) (Nat.le_refl _) (⟨by unfold b2; first | rw [if_pos (by omega)] | rw [if_neg (by omega)], rfl⟩)
    · refine z_iconst (v := iI 1) C dX3_isPlace_12 rfl ?_
      refine z_goto (tgt := 17) C dX3_isPlace_13 (by decide) ?_
      exact z_zret C hR (by decide) dX3_isPlace_17 (Nat.le_refl _) (Nat.le_refl _) (⟨by unfold b2; first | rw [if_pos (by omega)] | rw [if_neg (by omega)], rfl⟩)
theorem hi_X3_heightAt_X3 : ∀ w ∈ wsX30, w ∈ wsX3_heightAt := by decide +kernel
set_option maxHeartbeats 4000000 in
set_option maxRecDepth 100000 in
theorem k_heightAt (l : Launch) (D : va_G) (cI cZ cM cL : ClassId) (a c s nc ns : Nat) (CC SS NC NS : Int → Int) (fl sp : Int) (p : Int) (hp : -1000 ≤ p ∧ p ≤ 1000) (hW : stW sp SS) : zN l yX3_heightAt wsX3_heightAt { frames := 1, cells := 0, slots := 0, locals := 21 } D (zTy cI cZ cM cL) [.ref a, .int (iI p)] (skW cI a c s nc ns CC SS NC NS fl sp) (fun r w => r = some (.int (iI (hgt sp SS p))) ∧ w = (skW cI a c s nc ns CC SS NC NS fl sp)) 0 0 := by
  refine zN_of (cc := cX3_heightAt) (maxL := 2) (lv0 := [some (.ref a), some (.int (iI p))]) (by decide) rfl rfl (Nat.le_of_ble_eq_true rfl) rfl ?_
  intro E Q C hE hR hI0
  obtain ⟨hs0, hs1, -, -, -⟩ := id hW
  have hbR : 0 ≤ b2 (0 ≤ p ∧ p < sp) ∧ b2 (0 ≤ p ∧ p < sp) ≤ 1 := by unfold b2; split <;> omega
  refine (show zG E Q 0 0 [(a, .inr (3, [.ref c, .ref s, .ref nc, .ref ns, .int (iI fl), .int (iI sp)])), (c, ai cI 32 CC), (s, ai cI 33 SS), (nc, ai cI 32 NC), (ns, ai cI 33 NS)] [some (.ref a), some (.int (iI p))] 0 [] from ?_)
  refine z_aload_n (i := 0) C dX3_heightAt_0 rfl rfl ?_
  refine z_iload_n (i := 1) C dX3_heightAt_1 rfl rfl ?_
  refine z_callV (n := 1) (As := [.int (iI p)]) (st := []) (fr := []) C hE (k_isPlace l D cI cZ cM cL a c s nc ns CC SS NC NS fl sp p ⟨by omega, by omega⟩ ⟨by omega, by omega⟩) gX3_heightAt_X3_isPlace rfl ⟨rfl, rfl⟩ (by decide +kernel) ⟨Nat.le_of_ble_eq_true rfl, Nat.le_of_ble_eq_true rfl⟩ rfl rfl (List.Perm.refl _) 0 rfl rfl rfl (Nat.le_of_ble_eq_true rfl) ⟨Nat.le_of_ble_eq_true rfl, Nat.le_of_ble_eq_true rfl⟩ dX3_heightAt_2 (fun r w1 hpo => ?_)
  obtain ⟨rfl, rfl⟩ := hpo
  refine (show zG E Q (0) (0) [(a, .inr (3, [.ref c, .ref s, .ref nc, .ref ns, .int (iI fl), .int (iI sp)])), (c, ai cI 32 CC), (s, ai cI 33 SS), (nc, ai cI 32 NC), (ns, ai cI 33 NS)] [some (.ref a), some (.int (iI p))] 5 [.int (iI (b2 (0 ≤ p ∧ p < sp)))] from ?_)
  refine z_if_eqI (tgt := 26) C dX3_heightAt_5 (by decide) ⟨by omega, by omega⟩ (fun hb => ?_) (fun hb => ?_)
  · have hin : ¬ (0 ≤ p ∧ p < sp) := by unfold b2 at hb; split at hb <;> omega
    refine z_iconst (v := iI 0) C dX3_heightAt_26 rfl ?_
    exact z_iret C hR dX3_heightAt_27 (Nat.le_refl _) (Nat.le_refl _) (⟨by unfold hgt; first | rw [if_pos hin] | rw [if_neg hin], rfl⟩)
  · have hin : 0 ≤ p ∧ p < sp := by unfold b2 at hb; split at hb <;> omega
    have h1 := hW.2.2.2.1 p (by omega) (by omega)
    have h2 := hW.2.2.2.1 (p + 1) (by omega) (by omega)
    refine z_aload_n (i := 0) C dX3_heightAt_8 rfl rfl ?_
    refine z_get (ci := 3) C (hi_X3_heightAt_X3) 0 rfl rfl 1 (by decide) (by decide +kernel) rfl dX3_heightAt_9 ?_
    refine z_iload_n (i := 1) C dX3_heightAt_12 rfl rfl ?_
    refine z_iconst (v := iI 1) C dX3_heightAt_13 rfl ?_
    refine z_iaddI (v := p + 1) C dX3_heightAt_14 (by omega) ?_
    refine z_ialoadI 2 (he := rfl) C (zT_of hE (t0 := 0) rfl) (by omega) (by omega) (by decide) dX3_heightAt_15 ?_
    refine z_aload_n (i := 0) C dX3_heightAt_16 rfl rfl ?_
    refine z_get (ci := 3) C (hi_X3_heightAt_X3) 0 rfl rfl 1 (by decide) (by decide +kernel) rfl dX3_heightAt_17 ?_
    refine z_iload_n (i := 1) C dX3_heightAt_20 rfl rfl ?_
    refine z_ialoadI 2 (he := rfl) C (zT_of hE (t0 := 0) rfl) (by omega) (by omega) (by decide) dX3_heightAt_21 ?_
    refine z_isubI (v := (SS (p + 1)) - (SS p)) C dX3_heightAt_22 (by omega) ?_
    refine z_goto (tgt := 27) C dX3_heightAt_23 (by decide) ?_
    exact z_iret C hR dX3_heightAt_27 (Nat.le_refl _) (Nat.le_refl _) (⟨by unfold hgt; first | rw [if_pos hin] | rw [if_neg hin], rfl⟩)
theorem hi_X3_cellIn_X3 : ∀ w ∈ wsX30, w ∈ wsX3_cellIn := by decide +kernel
set_option maxHeartbeats 4000000 in
set_option maxRecDepth 100000 in
theorem k_cellIn (l : Launch) (D : va_G) (cI cZ cM cL : ClassId) (a c s nc ns : Nat) (CC SS NC NS : Int → Int) (fl sp : Int) (p h : Int) (hp : -1000 ≤ p ∧ p ≤ 1000) (hh : iR h) (hW : stW sp SS) : zN l yX3_cellIn wsX3_cellIn { frames := 2, cells := 0, slots := 0, locals := 42 } D (zTy cI cZ cM cL) [.ref a, .int (iI p), .int (iI h)] (skW cI a c s nc ns CC SS NC NS fl sp) (fun r w => r = some (.int (iI (cin sp SS CC p h))) ∧ w = (skW cI a c s nc ns CC SS NC NS fl sp)) 0 0 := by
  refine zN_of (cc := cX3_cellIn) (maxL := 3) (lv0 := [some (.ref a), some (.int (iI p)), some (.int (iI h))]) (by decide) rfl rfl (Nat.le_of_ble_eq_true rfl) rfl ?_
  intro E Q C hE hR hI0
  have hg0 := hW.hgt0 p
  have hg1 := hW.hgt32 p
  obtain ⟨hs0, hs1, -, -, -⟩ := id hW
  refine (show zG E Q 0 0 [(a, .inr (3, [.ref c, .ref s, .ref nc, .ref ns, .int (iI fl), .int (iI sp)])), (c, ai cI 32 CC), (s, ai cI 33 SS), (nc, ai cI 32 NC), (ns, ai cI 33 NS)] [some (.ref a), some (.int (iI p)), some (.int (iI h))] 0 [] from ?_)
  refine z_iload_n (i := 2) C dX3_cellIn_0 rfl rfl ?_
  refine z_if_ltI (tgt := 13) C dX3_cellIn_1 (by decide) ⟨by omega, by omega⟩ (fun h_1 => ?_) (fun h_1 => ?_)
  · refine z_iconst (v := iI (-1)) C dX3_cellIn_13 rfl ?_
    exact z_iret C hR dX3_cellIn_14 (Nat.le_refl _) (Nat.le_refl _) (⟨by unfold cin; rw [if_pos (by omega)], rfl⟩)
  · refine z_iload_n (i := 2) C dX3_cellIn_4 rfl rfl ?_
    refine z_aload_n (i := 0) C dX3_cellIn_5 rfl rfl ?_
    refine z_iload_n (i := 1) C dX3_cellIn_6 rfl rfl ?_
    refine z_callV (n := 1) (As := [.int (iI p)]) (st := [.int (iI h)]) (fr := []) C hE (k_heightAt l D cI cZ cM cL a c s nc ns CC SS NC NS fl sp p hp hW) gX3_cellIn_X3_heightAt rfl ⟨rfl, rfl⟩ (by decide +kernel) ⟨Nat.le_of_ble_eq_true rfl, Nat.le_of_ble_eq_true rfl⟩ rfl rfl (List.Perm.refl _) 0 rfl rfl rfl (Nat.le_of_ble_eq_true rfl) ⟨Nat.le_of_ble_eq_true rfl, Nat.le_of_ble_eq_true rfl⟩ dX3_cellIn_7 (fun r w1 hpo => ?_)
    obtain ⟨rfl, rfl⟩ := hpo
    refine (show zG E Q (0) (0) [(a, .inr (3, [.ref c, .ref s, .ref nc, .ref ns, .int (iI fl), .int (iI sp)])), (c, ai cI 32 CC), (s, ai cI 33 SS), (nc, ai cI 32 NC), (ns, ai cI 33 NS)] [some (.ref a), some (.int (iI p)), some (.int (iI h))] 10 [.int (iI (hgt sp SS p)), .int (iI h)] from ?_)
    refine z_icmp_ltI (tgt := 15) C dX3_cellIn_10 (by decide) ⟨by omega, by omega⟩ ⟨by omega, by omega⟩ (fun h_2 => ?_) (fun h_2 => ?_)
    · have hin : 0 ≤ p ∧ p < sp := by have := h_2; unfold hgt at this; split at this <;> omega
      have h1 := hW.2.2.2.1 p (by omega) (by omega)
      have h2 := hW.2.2.2.1 (p + 1) (by omega) (by omega)
      have h3 : h < SS (p + 1) - SS p := by have := h_2; unfold hgt at this; rw [if_pos hin] at this; exact this
      refine z_aload_n (i := 0) C dX3_cellIn_15 rfl rfl ?_
      refine z_get (ci := 3) C (hi_X3_cellIn_X3) 0 rfl rfl 0 (by decide) (by decide +kernel) rfl dX3_cellIn_16 ?_
      refine z_aload_n (i := 0) C dX3_cellIn_19 rfl rfl ?_
      refine z_get (ci := 3) C (hi_X3_cellIn_X3) 0 rfl rfl 1 (by decide) (by decide +kernel) rfl dX3_cellIn_20 ?_
      refine z_iload_n (i := 1) C dX3_cellIn_23 rfl rfl ?_
      refine z_ialoadI 2 (he := rfl) C (zT_of hE (t0 := 0) rfl) (by omega) (by omega) (by decide) dX3_cellIn_24 ?_
      refine z_iload_n (i := 2) C dX3_cellIn_25 rfl rfl ?_
      refine z_iaddI (v := (SS p) + h) C dX3_cellIn_26 (by omega) ?_
      refine z_ialoadI 1 (he := rfl) C (zT_of hE (t0 := 0) rfl) (by omega) (by omega) (by decide) dX3_cellIn_27 ?_
      exact z_iret C hR dX3_cellIn_28 (Nat.le_refl _) (Nat.le_refl _) (⟨by unfold cin; rw [if_neg (by omega)], rfl⟩)
    · refine z_iconst (v := iI (-1)) C dX3_cellIn_13 rfl ?_
      exact z_iret C hR dX3_cellIn_14 (Nat.le_refl _) (Nat.le_refl _) (⟨by unfold cin; rw [if_pos (by omega)], rfl⟩)
theorem hi_X3_copyCell_X3 : ∀ w ∈ wsX30, w ∈ wsX3_copyCell := by decide +kernel
set_option maxHeartbeats 4000000 in
set_option maxRecDepth 100000 in
theorem k_copyCell (l : Launch) (D : va_G) (cI cZ cM cL : ClassId) (a c s nc ns : Nat) (CC SS NC NS : Int → Int) (fl sp : Int) (p h : Int) (hp : -1000 ≤ p ∧ p ≤ 1000) (hh : iR h) (hW : stW sp SS) (hf : 0 ≤ fl ∧ fl < 32) : zN l yX3_copyCell wsX3_copyCell { frames := 3, cells := 0, slots := 0, locals := 64 } D (zTy cI cZ cM cL) [.ref a, .int (iI p), .int (iI h)] (skW cI a c s nc ns CC SS NC NS fl sp) (fun r w => r = none ∧ w = (skW cI a c s nc ns CC SS (zup NC fl (cin sp SS CC p h)) NS (fl + 1) sp)) 0 0 := by
  refine zN_of (cc := cX3_copyCell) (maxL := 3) (lv0 := [some (.ref a), some (.int (iI p)), some (.int (iI h))]) (by decide) rfl rfl (Nat.le_of_ble_eq_true rfl) rfl ?_
  intro E Q C hE hR hI0
  obtain ⟨hs0, hs1, -, -, -⟩ := id hW
  refine (show zG E Q 0 0 [(a, .inr (3, [.ref c, .ref s, .ref nc, .ref ns, .int (iI fl), .int (iI sp)])), (c, ai cI 32 CC), (s, ai cI 33 SS), (nc, ai cI 32 NC), (ns, ai cI 33 NS)] [some (.ref a), some (.int (iI p)), some (.int (iI h))] 0 [] from ?_)
  refine z_aload_n (i := 0) C dX3_copyCell_0 rfl rfl ?_
  refine z_get (ci := 3) C (hi_X3_copyCell_X3) 0 rfl rfl 4 (by decide) (by decide +kernel) rfl dX3_copyCell_1 ?_
  refine z_aload_n (i := 0) C dX3_copyCell_4 rfl rfl ?_
  refine z_get (ci := 3) C (hi_X3_copyCell_X3) 0 rfl rfl 2 (by decide) (by decide +kernel) rfl dX3_copyCell_5 ?_
  refine z_alen (v := iI 32) C 3 rfl (zT_of hE (t0 := 0) rfl) rfl dX3_copyCell_8 ?_
  refine z_icmp_geI (tgt := 37) C dX3_copyCell_9 (by decide) ⟨by omega, by omega⟩ ⟨by omega, by omega⟩ (fun h => by exfalso; omega) (fun _ => ?_)
  refine z_aload_n (i := 0) C dX3_copyCell_12 rfl rfl ?_
  refine z_get (ci := 3) C (hi_X3_copyCell_X3) 0 rfl rfl 2 (by decide) (by decide +kernel) rfl dX3_copyCell_13 ?_
  refine z_aload_n (i := 0) C dX3_copyCell_16 rfl rfl ?_
  refine z_get (ci := 3) C (hi_X3_copyCell_X3) 0 rfl rfl 4 (by decide) (by decide +kernel) rfl dX3_copyCell_17 ?_
  refine z_aload_n (i := 0) C dX3_copyCell_20 rfl rfl ?_
  refine z_iload_n (i := 1) C dX3_copyCell_21 rfl rfl ?_
  refine z_iload_n (i := 2) C dX3_copyCell_22 rfl rfl ?_
  refine z_callV (n := 2) (As := [.int (iI p), .int (iI h)]) (st := [.int (iI fl), .ref nc]) (fr := []) C hE (k_cellIn l D cI cZ cM cL a c s nc ns CC SS NC NS fl sp p h hp hh hW) gX3_copyCell_X3_cellIn rfl ⟨rfl, rfl⟩ (by decide +kernel) ⟨Nat.le_of_ble_eq_true rfl, Nat.le_of_ble_eq_true rfl⟩ rfl rfl (List.Perm.refl _) 0 rfl rfl rfl (Nat.le_of_ble_eq_true rfl) ⟨Nat.le_of_ble_eq_true rfl, Nat.le_of_ble_eq_true rfl⟩ dX3_copyCell_23 (fun r w1 hpo => ?_)
  obtain ⟨rfl, rfl⟩ := hpo
  refine (show zG E Q (0) (0) [(a, .inr (3, [.ref c, .ref s, .ref nc, .ref ns, .int (iI fl), .int (iI sp)])), (c, ai cI 32 CC), (s, ai cI 33 SS), (nc, ai cI 32 NC), (ns, ai cI 33 NS)] [some (.ref a), some (.int (iI p)), some (.int (iI h))] 26 [.int (iI (cin sp SS CC p h)), .int (iI fl), .ref nc] from ?_)
  refine z_iastoreI 3 (he := rfl) (ws' := [(a, .inr (3, [.ref c, .ref s, .ref nc, .ref ns, .int (iI fl), .int (iI sp)])), (c, ai cI 32 CC), (s, ai cI 33 SS), (nc, ai cI 32 (zup NC fl (cin sp SS CC p h))), (ns, ai cI 33 NS)]) C (zT_of hE (t0 := 0) rfl) (by omega) (by omega) (by decide) rfl dX3_copyCell_26 ?_
  refine z_aload_n (i := 0) C dX3_copyCell_27 rfl rfl ?_
  refine z_dup C dX3_copyCell_28 rfl ?_
  refine z_get (ci := 3) C (hi_X3_copyCell_X3) 0 rfl rfl 4 (by decide) (by decide +kernel) rfl dX3_copyCell_29 ?_
  refine z_iconst (v := iI 1) C dX3_copyCell_32 rfl ?_
  refine z_iaddI (v := fl + 1) C dX3_copyCell_33 (by omega) ?_
  refine z_put (ci := 3) (ws' := [(a, .inr (3, [.ref c, .ref s, .ref nc, .ref ns, .int (iI (fl + 1)), .int (iI sp)])), (c, ai cI 32 CC), (s, ai cI 33 SS), (nc, ai cI 32 (zup NC fl (cin sp SS CC p h))), (ns, ai cI 33 NS)]) C (hi_X3_copyCell_X3) tyX3_ok nmX3 0 rfl rfl 4 (by decide) (by decide +kernel) rfl (tyX3_ok 4 (by decide)) rfl rfl (Nat.le_of_ble_eq_true rfl) rfl dX3_copyCell_34 ?_
  exact z_vret C hR dX3_copyCell_37 (Nat.le_refl _) (Nat.le_refl _) (⟨rfl, rfl⟩)
end
section
/-! THE STACKS, further walks. -/
set_option maxHeartbeats 1000000 in
set_option maxRecDepth 100000 in
theorem k_copyUp (l : Launch) (D : va_G) (cI cZ cM cL : ClassId) (a c s nc ns : Nat) (CC SS NC NS : Int → Int) (fl sp : Int) (p : Int) (hp : -1000 ≤ p ∧ p ≤ 1000) (hW : stW sp SS) (hf : 0 ≤ fl ∧ fl + hgt sp SS p ≤ 32) : zN l yX3_copyUpwards wsX3_copyUpwards { frames := 4, cells := 0, slots := 0, locals := 86 } D (zTy cI cZ cM cL) [.ref a, .int (iI p)] (skW cI a c s nc ns CC SS NC NS fl sp) (fun r w => r = none ∧ w = (skW cI a c s nc ns CC SS (cpU NC fl (hgt sp SS p) (fun i => CC (SS p + i))) NS (fl + (hgt sp SS p)) sp)) 0 0 := by
  refine zN_of (cc := cX3_copyUpwards) (maxL := 4) (lv0 := [some (.ref a), some (.int (iI p)), none, none]) (by decide) rfl rfl (Nat.le_of_ble_eq_true rfl) rfl ?_
  intro E Q C hE hR hI0
  have hg0 := hW.hgt0 p
  have hg1 := hW.hgt32 p
  refine (show zG E Q 0 0 [(a, .inr (3, [.ref c, .ref s, .ref nc, .ref ns, .int (iI fl), .int (iI sp)])), (c, ai cI 32 CC), (s, ai cI 33 SS), (nc, ai cI 32 NC), (ns, ai cI 33 NS)] [some (.ref a), some (.int (iI p)), none, none] 0 [] from ?_)
  have lp : ∀ (n : Nat) (k : Int), 0 ≤ k → k ≤ (hgt sp SS p) → (hgt sp SS p) - k < n → zG E Q (0) (0) [(a, .inr (3, [.ref c, .ref s, .ref nc, .ref ns, .int (iI (fl + k)), .int (iI sp)])), (c, ai cI 32 CC), (s, ai cI 33 SS), (nc, ai cI 32 (cpU NC fl k (fun i => CC (SS p + i)))), (ns, ai cI 33 NS)] [some (.ref a), some (.int (iI p)), some (.int (iI (hgt sp SS p))), some (.int (iI k))] 8 [] := by
    intro n
    induction n with
    | zero => intro k hk0 hk1 hkn; omega
    | succ n ih =>
      intro k hk0 hk1 hkn
      refine z_iload_n (i := 3) C dX3_copyUpwards_8 rfl rfl ?_
      refine z_iload_n (i := 2) C dX3_copyUpwards_9 rfl rfl ?_
      refine z_icmp_geI (tgt := 25) C dX3_copyUpwards_10 (by decide) ⟨by omega, by omega⟩ ⟨by omega, by omega⟩ (fun hk => ?_) (fun hk => ?_)
      · exact z_vret C hR dX3_copyUpwards_25 (Nat.le_refl _) (Nat.le_refl _) (⟨rfl, by rw [show k = hgt sp SS p by omega]⟩)
      · refine z_aload_n (i := 0) C dX3_copyUpwards_13 rfl rfl ?_
        refine z_iload_n (i := 1) C dX3_copyUpwards_14 rfl rfl ?_
        refine z_iload_n (i := 3) C dX3_copyUpwards_15 rfl rfl ?_
        refine z_callV (n := 2) (As := [.int (iI p), .int (iI k)]) (st := []) (fr := []) C hE (k_copyCell l D cI cZ cM cL a c s nc ns CC SS (cpU NC fl k (fun i => CC (SS p + i))) NS (fl + k) sp p k hp ⟨by omega, by omega⟩ hW ⟨by omega, by omega⟩) gX3_copyUpwards_X3_copyCell rfl ⟨rfl, rfl⟩ (by decide +kernel) ⟨Nat.le_of_ble_eq_true rfl, Nat.le_of_ble_eq_true rfl⟩ rfl rfl (List.Perm.refl _) 0 rfl rfl rfl (Nat.le_of_ble_eq_true rfl) ⟨Nat.le_of_ble_eq_true rfl, Nat.le_of_ble_eq_true rfl⟩ dX3_copyUpwards_16 (fun r w1 hpo => ?_)
        obtain ⟨rfl, rfl⟩ := hpo
        refine (show zG E Q (0) (0) [(a, .inr (3, [.ref c, .ref s, .ref nc, .ref ns, .int (iI (fl + k + 1)), .int (iI sp)])), (c, ai cI 32 CC), (s, ai cI 33 SS), (nc, ai cI 32 (zup (cpU NC fl k (fun i => CC (SS p + i))) (fl + k) (cin sp SS CC p k))), (ns, ai cI 33 NS)] [some (.ref a), some (.int (iI p)), some (.int (iI (hgt sp SS p))), some (.int (iI k))] 19 [] from ?_)
        refine z_iincI (v := k + 1) (lv' := [some (.ref a), some (.int (iI p)), some (.int (iI (hgt sp SS p))), some (.int (iI (k + 1)))]) C dX3_copyUpwards_19 rfl (by omega) rfl ?_
        refine z_goto (tgt := 8) C dX3_copyUpwards_22 (by decide) ?_
        have e1 : zup (cpU NC fl k (fun i => CC (SS p + i))) (fl + k) (cin sp SS CC p k) = cpU NC fl (k + 1) (fun i => CC (SS p + i)) := cpU_s NC fl k _ (by omega) _ (by unfold cin; rw [if_neg (by omega)])
        rw [e1, show fl + k + 1 = fl + (k + 1) by omega]
        exact ih (k + 1) (by omega) (by omega) (by omega)
  refine z_aload_n (i := 0) C dX3_copyUpwards_0 rfl rfl ?_
  refine z_iload_n (i := 1) C dX3_copyUpwards_1 rfl rfl ?_
  refine z_callV (n := 1) (As := [.int (iI p)]) (st := []) (fr := []) C hE (k_heightAt l D cI cZ cM cL a c s nc ns CC SS NC NS fl sp p hp hW) gX3_copyUpwards_X3_heightAt rfl ⟨rfl, rfl⟩ (by decide +kernel) ⟨Nat.le_of_ble_eq_true rfl, Nat.le_of_ble_eq_true rfl⟩ rfl rfl (List.Perm.refl _) 0 rfl rfl rfl (Nat.le_of_ble_eq_true rfl) ⟨Nat.le_of_ble_eq_true rfl, Nat.le_of_ble_eq_true rfl⟩ dX3_copyUpwards_2 (fun r w1 hpo => ?_)
  obtain ⟨rfl, rfl⟩ := hpo
  refine (show zG E Q (0) (0) [(a, .inr (3, [.ref c, .ref s, .ref nc, .ref ns, .int (iI fl), .int (iI sp)])), (c, ai cI 32 CC), (s, ai cI 33 SS), (nc, ai cI 32 NC), (ns, ai cI 33 NS)] [some (.ref a), some (.int (iI p)), none, none] 5 [.int (iI (hgt sp SS p))] from ?_)
  refine z_istore_n (i := 2) (lv' := [some (.ref a), some (.int (iI p)), some (.int (iI (hgt sp SS p))), none]) C dX3_copyUpwards_5 rfl rfl rfl ?_
  refine z_iconst (v := iI 0) C dX3_copyUpwards_6 rfl ?_
  refine z_istore_n (i := 3) (lv' := [some (.ref a), some (.int (iI p)), some (.int (iI (hgt sp SS p))), some (.int (iI 0))]) C dX3_copyUpwards_7 rfl rfl rfl ?_
  have h0 := lp ((hgt sp SS p).toNat + 1) 0 (by omega) (by omega) (by omega)
  rw [cpU_0, show fl + 0 = fl by omega] at h0
  exact h0
set_option maxHeartbeats 1000000 in
set_option maxRecDepth 100000 in
theorem k_copyDown (l : Launch) (D : va_G) (cI cZ cM cL : ClassId) (a c s nc ns : Nat) (CC SS NC NS : Int → Int) (fl sp : Int) (p : Int) (hp : -1000 ≤ p ∧ p ≤ 1000) (hW : stW sp SS) (hf : 0 ≤ fl ∧ fl + hgt sp SS p ≤ 32) : zN l yX3_copyDownwards wsX3_copyDownwards { frames := 4, cells := 0, slots := 0, locals := 86 } D (zTy cI cZ cM cL) [.ref a, .int (iI p)] (skW cI a c s nc ns CC SS NC NS fl sp) (fun r w => r = none ∧ w = (skW cI a c s nc ns CC SS (cpU NC fl (hgt sp SS p) (fun i => CC (SS p + (hgt sp SS p - 1 - i)))) NS (fl + (hgt sp SS p)) sp)) 0 0 := by
  refine zN_of (cc := cX3_copyDownwards) (maxL := 3) (lv0 := [some (.ref a), some (.int (iI p)), none]) (by decide) rfl rfl (Nat.le_of_ble_eq_true rfl) rfl ?_
  intro E Q C hE hR hI0
  have hg0 := hW.hgt0 p
  have hg1 := hW.hgt32 p
  refine (show zG E Q 0 0 [(a, .inr (3, [.ref c, .ref s, .ref nc, .ref ns, .int (iI fl), .int (iI sp)])), (c, ai cI 32 CC), (s, ai cI 33 SS), (nc, ai cI 32 NC), (ns, ai cI 33 NS)] [some (.ref a), some (.int (iI p)), none] 0 [] from ?_)
  have lp : ∀ (n : Nat) (k z : Int), z = (hgt sp SS p) - 1 - k → 0 ≤ k → k ≤ (hgt sp SS p) → (hgt sp SS p) - k < n → zG E Q (0) (0) [(a, .inr (3, [.ref c, .ref s, .ref nc, .ref ns, .int (iI (fl + k)), .int (iI sp)])), (c, ai cI 32 CC), (s, ai cI 33 SS), (nc, ai cI 32 (cpU NC fl k (fun i => CC (SS p + (hgt sp SS p - 1 - i))))), (ns, ai cI 33 NS)] [some (.ref a), some (.int (iI p)), some (.int (iI z))] 8 [] := by
    intro n
    induction n with
    | zero => intro k z hz hk0 hk1 hkn; omega
    | succ n ih =>
      intro k z hz hk0 hk1 hkn
      refine z_iload_n (i := 2) C dX3_copyDownwards_8 rfl rfl ?_
      refine z_if_ltI (tgt := 24) C dX3_copyDownwards_9 (by decide) ⟨by omega, by omega⟩ (fun hk => ?_) (fun hk => ?_)
      · exact z_vret C hR dX3_copyDownwards_24 (Nat.le_refl _) (Nat.le_refl _) (⟨rfl, by rw [show k = hgt sp SS p by omega]⟩)
      · refine z_aload_n (i := 0) C dX3_copyDownwards_12 rfl rfl ?_
        refine z_iload_n (i := 1) C dX3_copyDownwards_13 rfl rfl ?_
        refine z_iload_n (i := 2) C dX3_copyDownwards_14 rfl rfl ?_
        refine z_callV (n := 2) (As := [.int (iI p), .int (iI z)]) (st := []) (fr := []) C hE (k_copyCell l D cI cZ cM cL a c s nc ns CC SS (cpU NC fl k (fun i => CC (SS p + (hgt sp SS p - 1 - i)))) NS (fl + k) sp p z hp ⟨by omega, by omega⟩ hW ⟨by omega, by omega⟩) gX3_copyDownwards_X3_copyCell rfl ⟨rfl, rfl⟩ (by decide +kernel) ⟨Nat.le_of_ble_eq_true rfl, Nat.le_of_ble_eq_true rfl⟩ rfl rfl (List.Perm.refl _) 0 rfl rfl rfl (Nat.le_of_ble_eq_true rfl) ⟨Nat.le_of_ble_eq_true rfl, Nat.le_of_ble_eq_true rfl⟩ dX3_copyDownwards_15 (fun r w1 hpo => ?_)
        obtain ⟨rfl, rfl⟩ := hpo
        refine (show zG E Q (0) (0) [(a, .inr (3, [.ref c, .ref s, .ref nc, .ref ns, .int (iI (fl + k + 1)), .int (iI sp)])), (c, ai cI 32 CC), (s, ai cI 33 SS), (nc, ai cI 32 (zup (cpU NC fl k (fun i => CC (SS p + (hgt sp SS p - 1 - i)))) (fl + k) (cin sp SS CC p z))), (ns, ai cI 33 NS)] [some (.ref a), some (.int (iI p)), some (.int (iI z))] 18 [] from ?_)
        refine z_iincI (v := z - 1) (lv' := [some (.ref a), some (.int (iI p)), some (.int (iI (z - 1)))]) C dX3_copyDownwards_18 rfl (by omega) rfl ?_
        refine z_goto (tgt := 8) C dX3_copyDownwards_21 (by decide) ?_
        have e1 : zup (cpU NC fl k (fun i => CC (SS p + (hgt sp SS p - 1 - i)))) (fl + k) (cin sp SS CC p z) = cpU NC fl (k + 1) (fun i => CC (SS p + (hgt sp SS p - 1 - i))) := cpU_s NC fl k _ (by omega) _ (by unfold cin; rw [if_neg (by omega), hz])
        rw [e1, show fl + k + 1 = fl + (k + 1) by omega]
        exact ih (k + 1) (z - 1) (by omega) (by omega) (by omega) (by omega)
  refine z_aload_n (i := 0) C dX3_copyDownwards_0 rfl rfl ?_
  refine z_iload_n (i := 1) C dX3_copyDownwards_1 rfl rfl ?_
  refine z_callV (n := 1) (As := [.int (iI p)]) (st := []) (fr := []) C hE (k_heightAt l D cI cZ cM cL a c s nc ns CC SS NC NS fl sp p hp hW) gX3_copyDownwards_X3_heightAt rfl ⟨rfl, rfl⟩ (by decide +kernel) ⟨Nat.le_of_ble_eq_true rfl, Nat.le_of_ble_eq_true rfl⟩ rfl rfl (List.Perm.refl _) 0 rfl rfl rfl (Nat.le_of_ble_eq_true rfl) ⟨Nat.le_of_ble_eq_true rfl, Nat.le_of_ble_eq_true rfl⟩ dX3_copyDownwards_2 (fun r w1 hpo => ?_)
  obtain ⟨rfl, rfl⟩ := hpo
  refine (show zG E Q (0) (0) [(a, .inr (3, [.ref c, .ref s, .ref nc, .ref ns, .int (iI fl), .int (iI sp)])), (c, ai cI 32 CC), (s, ai cI 33 SS), (nc, ai cI 32 NC), (ns, ai cI 33 NS)] [some (.ref a), some (.int (iI p)), none] 5 [.int (iI (hgt sp SS p))] from ?_)
  refine z_iconst (v := iI 1) C dX3_copyDownwards_5 rfl ?_
  refine z_isubI (v := (hgt sp SS p) - 1) C dX3_copyDownwards_6 (by omega) ?_
  refine z_istore_n (i := 2) (lv' := [some (.ref a), some (.int (iI p)), some (.int (iI ((hgt sp SS p) - 1)))]) C dX3_copyDownwards_7 rfl rfl rfl ?_
  have h0 := lp ((hgt sp SS p).toNat + 1) 0 (hgt sp SS p - 1) (by omega) (by omega) (by omega) (by omega)
  rw [cpU_0, show fl + 0 = fl by omega] at h0
  exact h0
theorem hi_X3_swapRows_X3 : ∀ w ∈ wsX30, w ∈ wsX3_swapRows := by decide +kernel
set_option maxHeartbeats 1000000 in
set_option maxRecDepth 100000 in
theorem k_swapRows (l : Launch) (D : va_G) (cI cZ cM cL : ClassId) (a c s nc ns : Nat) (CC SS NC NS : Int → Int) (fl sp : Int) : zN l yX3_swapRows wsX3_swapRows { frames := 0, cells := 0, slots := 0, locals := 0 } D (zTy cI cZ cM cL) [.ref a] (skW cI a c s nc ns CC SS NC NS fl sp) (fun r w => r = none ∧ w = [(a, .inr (3, [.ref nc, .ref ns, .ref c, .ref s, .int (iI fl), .int (iI sp)])), (c, ai cI 32 CC), (s, ai cI 33 SS), (nc, ai cI 32 NC), (ns, ai cI 33 NS)]) 0 0 := by
  refine zN_of (cc := cX3_swapRows) (maxL := 3) (lv0 := [some (.ref a), none, none]) (by decide) rfl rfl (Nat.le_of_ble_eq_true rfl) rfl ?_
  intro E Q C hE hR hI0
  refine (show zG E Q 0 0 [(a, .inr (3, [.ref c, .ref s, .ref nc, .ref ns, .int (iI fl), .int (iI sp)])), (c, ai cI 32 CC), (s, ai cI 33 SS), (nc, ai cI 32 NC), (ns, ai cI 33 NS)] [some (.ref a), none, none] 0 [] from ?_)
  refine z_aload_n (i := 0) C dX3_swapRows_0 rfl rfl ?_
  refine z_get (ci := 3) C (hi_X3_swapRows_X3) 0 rfl rfl 0 (by decide) (by decide +kernel) rfl dX3_swapRows_1 ?_
  refine z_astore_n (i := 1) (lv' := [some (.ref a), some (.ref c), none]) C dX3_swapRows_4 rfl rfl rfl ?_
  refine z_aload_n (i := 0) C dX3_swapRows_5 rfl rfl ?_
  refine z_get (ci := 3) C (hi_X3_swapRows_X3) 0 rfl rfl 1 (by decide) (by decide +kernel) rfl dX3_swapRows_6 ?_
  refine z_astore_n (i := 2) (lv' := [some (.ref a), some (.ref c), some (.ref s)]) C dX3_swapRows_9 rfl rfl rfl ?_
  refine z_aload_n (i := 0) C dX3_swapRows_10 rfl rfl ?_
  refine z_aload_n (i := 0) C dX3_swapRows_11 rfl rfl ?_
  refine z_get (ci := 3) C (hi_X3_swapRows_X3) 0 rfl rfl 2 (by decide) (by decide +kernel) rfl dX3_swapRows_12 ?_
  refine z_put (ci := 3) (ws' := [(a, .inr (3, [.ref nc, .ref s, .ref nc, .ref ns, .int (iI fl), .int (iI sp)])), (c, ai cI 32 CC), (s, ai cI 33 SS), (nc, ai cI 32 NC), (ns, ai cI 33 NS)]) C (hi_X3_swapRows_X3) tyX3_ok nmX3 0 rfl rfl 0 (by decide) (by decide +kernel) rfl (tyX3_ok 0 (by decide)) rfl rfl (Nat.le_of_ble_eq_true rfl) rfl dX3_swapRows_15 ?_
  refine z_aload_n (i := 0) C dX3_swapRows_18 rfl rfl ?_
  refine z_aload_n (i := 0) C dX3_swapRows_19 rfl rfl ?_
  refine z_get (ci := 3) C (hi_X3_swapRows_X3) 0 rfl rfl 3 (by decide) (by decide +kernel) rfl dX3_swapRows_20 ?_
  refine z_put (ci := 3) (ws' := [(a, .inr (3, [.ref nc, .ref ns, .ref nc, .ref ns, .int (iI fl), .int (iI sp)])), (c, ai cI 32 CC), (s, ai cI 33 SS), (nc, ai cI 32 NC), (ns, ai cI 33 NS)]) C (hi_X3_swapRows_X3) tyX3_ok nmX3 0 rfl rfl 1 (by decide) (by decide +kernel) rfl (tyX3_ok 1 (by decide)) rfl rfl (Nat.le_of_ble_eq_true rfl) rfl dX3_swapRows_23 ?_
  refine z_aload_n (i := 0) C dX3_swapRows_26 rfl rfl ?_
  refine z_aload_n (i := 1) C dX3_swapRows_27 rfl rfl ?_
  refine z_put (ci := 3) (ws' := [(a, .inr (3, [.ref nc, .ref ns, .ref c, .ref ns, .int (iI fl), .int (iI sp)])), (c, ai cI 32 CC), (s, ai cI 33 SS), (nc, ai cI 32 NC), (ns, ai cI 33 NS)]) C (hi_X3_swapRows_X3) tyX3_ok nmX3 0 rfl rfl 2 (by decide) (by decide +kernel) rfl (tyX3_ok 2 (by decide)) rfl rfl (Nat.le_of_ble_eq_true rfl) rfl dX3_swapRows_28 ?_
  refine z_aload_n (i := 0) C dX3_swapRows_31 rfl rfl ?_
  refine z_aload_n (i := 2) C dX3_swapRows_32 rfl rfl ?_
  refine z_put (ci := 3) (ws' := [(a, .inr (3, [.ref nc, .ref ns, .ref c, .ref s, .int (iI fl), .int (iI sp)])), (c, ai cI 32 CC), (s, ai cI 33 SS), (nc, ai cI 32 NC), (ns, ai cI 33 NS)]) C (hi_X3_swapRows_X3) tyX3_ok nmX3 0 rfl rfl 3 (by decide) (by decide +kernel) rfl (tyX3_ok 3 (by decide)) rfl rfl (Nat.le_of_ble_eq_true rfl) rfl dX3_swapRows_33 ?_
  exact z_vret C hR dX3_swapRows_36 (Nat.le_refl _) (Nat.le_refl _) (⟨rfl, rfl⟩)
theorem hi_X3_greatestHeight_X3 : ∀ w ∈ wsX30, w ∈ wsX3_greatestHeight := by decide +kernel
set_option maxHeartbeats 1000000 in
set_option maxRecDepth 100000 in
theorem k_greatest (l : Launch) (D : va_G) (cI cZ cM cL : ClassId) (a c s nc ns : Nat) (CC SS NC NS : Int → Int) (fl sp : Int) (hW : stW sp SS) : zN l yX3_greatestHeight wsX3_greatestHeight { frames := 2, cells := 0, slots := 0, locals := 42 } D (zTy cI cZ cM cL) [.ref a] (skW cI a c s nc ns CC SS NC NS fl sp) (fun r w => r = some (.int (iI (mxH sp SS sp.toNat))) ∧ w = (skW cI a c s nc ns CC SS NC NS fl sp)) 0 0 := by
  refine zN_of (cc := cX3_greatestHeight) (maxL := 3) (lv0 := [some (.ref a), none, none]) (by decide) rfl rfl (Nat.le_of_ble_eq_true rfl) rfl ?_
  intro E Q C hE hR hI0
  obtain ⟨hs0, hs1, -, -, -⟩ := id hW
  refine (show zG E Q 0 0 [(a, .inr (3, [.ref c, .ref s, .ref nc, .ref ns, .int (iI fl), .int (iI sp)])), (c, ai cI 32 CC), (s, ai cI 33 SS), (nc, ai cI 32 NC), (ns, ai cI 33 NS)] [some (.ref a), none, none] 0 [] from ?_)
  have lp : ∀ (n : Nat) (j : Nat), j ≤ sp.toNat → sp.toNat - j < n → zG E Q (0) (0) [(a, .inr (3, [.ref c, .ref s, .ref nc, .ref ns, .int (iI fl), .int (iI sp)])), (c, ai cI 32 CC), (s, ai cI 33 SS), (nc, ai cI 32 NC), (ns, ai cI 33 NS)] [some (.ref a), some (.int (iI (mxH sp SS j))), some (.int (iI ↑j))] 4 [] := by
    intro n
    induction n with
    | zero => intro j hj hjn; omega
    | succ n ih =>
      intro j hj hjn
      have hm := hW.mx j
      have hg0 := hW.hgt0 j
      have hg1 := hW.hgt32 j
      refine z_iload_n (i := 2) C dX3_greatestHeight_4 rfl rfl ?_
      refine z_aload_n (i := 0) C dX3_greatestHeight_5 rfl rfl ?_
      refine z_get (ci := 3) C (hi_X3_greatestHeight_X3) 0 rfl rfl 5 (by decide) (by decide +kernel) rfl dX3_greatestHeight_6 ?_
      refine z_icmp_geI (tgt := 28) C dX3_greatestHeight_9 (by decide) ⟨by omega, by omega⟩ ⟨by omega, by omega⟩ (fun hk => ?_) (fun hk => ?_)
      · refine z_iload_n (i := 1) C dX3_greatestHeight_28 rfl rfl ?_
        exact z_iret C hR dX3_greatestHeight_29 (Nat.le_refl _) (Nat.le_refl _) (⟨by rw [show j = sp.toNat by omega], rfl⟩)
      · refine z_iload_n (i := 1) C dX3_greatestHeight_12 rfl rfl ?_
        refine z_aload_n (i := 0) C dX3_greatestHeight_13 rfl rfl ?_
        refine z_iload_n (i := 2) C dX3_greatestHeight_14 rfl rfl ?_
        refine z_callV (n := 1) (As := [.int (iI ↑j)]) (st := [.int (iI (mxH sp SS j))]) (fr := []) C hE (k_heightAt l D cI cZ cM cL a c s nc ns CC SS NC NS fl sp j ⟨by omega, by omega⟩ hW) gX3_greatestHeight_X3_heightAt rfl ⟨rfl, rfl⟩ (by decide +kernel) ⟨Nat.le_of_ble_eq_true rfl, Nat.le_of_ble_eq_true rfl⟩ rfl rfl (List.Perm.refl _) 0 rfl rfl rfl (Nat.le_of_ble_eq_true rfl) ⟨Nat.le_of_ble_eq_true rfl, Nat.le_of_ble_eq_true rfl⟩ dX3_greatestHeight_15 (fun r w1 hpo => ?_)
        obtain ⟨rfl, rfl⟩ := hpo
        refine (show zG E Q (0) (0) [(a, .inr (3, [.ref c, .ref s, .ref nc, .ref ns, .int (iI fl), .int (iI sp)])), (c, ai cI 32 CC), (s, ai cI 33 SS), (nc, ai cI 32 NC), (ns, ai cI 33 NS)] [some (.ref a), some (.int (iI (mxH sp SS j))), some (.int (iI ↑j))] 18 [.int (iI (hgt sp SS j)), .int (iI (mxH sp SS j))] from ?_)
        refine z_maxI C (by decide +kernel) (by decide +kernel) (by decide +kernel) (by decide +kernel) (Nat.le_of_ble_eq_true rfl) ⟨Nat.le_of_ble_eq_true rfl, Nat.le_of_ble_eq_true rfl⟩ ⟨Nat.le_of_ble_eq_true rfl, Nat.le_of_ble_eq_true rfl⟩ dX3_greatestHeight_18 ⟨by omega, by omega⟩ ⟨by omega, by omega⟩ ?_
        refine z_istore_n (i := 1) (lv' := [some (.ref a), some (.int (iI (max (mxH sp SS j) (hgt sp SS j)))), some (.int (iI ↑j))]) C dX3_greatestHeight_21 rfl rfl rfl ?_
        refine z_iincI (v := ↑(j + 1)) (lv' := [some (.ref a), some (.int (iI (max (mxH sp SS j) (hgt sp SS j)))), some (.int (iI (↑(j + 1))))]) C dX3_greatestHeight_22 rfl (by omega) rfl ?_
        refine z_goto (tgt := 4) C dX3_greatestHeight_25 (by decide) ?_
        exact ih (j + 1) (by omega) (by omega)
  refine z_iconst (v := iI 0) C dX3_greatestHeight_0 rfl ?_
  refine z_istore_n (i := 1) (lv' := [some (.ref a), some (.int (iI 0)), none]) C dX3_greatestHeight_1 rfl rfl rfl ?_
  refine z_iconst (v := iI 0) C dX3_greatestHeight_2 rfl ?_
  refine z_istore_n (i := 2) (lv' := [some (.ref a), some (.int (iI 0)), some (.int (iI 0))]) C dX3_greatestHeight_3 rfl rfl rfl ?_
  exact lp (sp.toNat + 1) 0 (by omega) (by omega)
theorem hi_X3_layFlat_X3 : ∀ w ∈ wsX30, w ∈ wsX3_layFlat := by decide +kernel
set_option maxHeartbeats 1000000 in
set_option maxRecDepth 100000 in
theorem k_layFlat (l : Launch) (D : va_G) (cI cZ cM cL : ClassId) (a c s nc ns : Nat) (CC SS NC NS : Int → Int) (fl sp : Int) (n0 : Int) (hn : 0 ≤ n0 ∧ n0 ≤ 32) : zN l yX3_layFlat wsX3_layFlat { frames := 1, cells := 0, slots := 0, locals := 21 } D (zTy cI cZ cM cL) [.ref a, .int (iI n0)] (skW cI a c s nc ns CC SS NC NS fl sp) (fun r w => r = none ∧ ∃ C1 S1 : Int → Int, w = (skW cI a c s nc ns C1 S1 NC NS fl n0) ∧ (∀ j, 0 ≤ j → j < n0 → C1 j = j) ∧ (∀ j, 0 ≤ j → j ≤ n0 → S1 j = j)) 0 0 := by
  refine zN_of (cc := cX3_layFlat) (maxL := 3) (lv0 := [some (.ref a), some (.int (iI n0)), none]) (by decide) rfl rfl (Nat.le_of_ble_eq_true rfl) rfl ?_
  intro E Q C hE hR hI0
  refine (show zG E Q 0 0 [(a, .inr (3, [.ref c, .ref s, .ref nc, .ref ns, .int (iI fl), .int (iI sp)])), (c, ai cI 32 CC), (s, ai cI 33 SS), (nc, ai cI 32 NC), (ns, ai cI 33 NS)] [some (.ref a), some (.int (iI n0)), none] 0 [] from ?_)
  have lp : ∀ (n : Nat) (k : Int) (C1 S1 : Int → Int), 0 ≤ k → k ≤ n0 → n0 - k < n → (∀ j, 0 ≤ j → j < k → C1 j = j) → (∀ j, 0 ≤ j → j < k → S1 j = j) → zG E Q (0) (0) [(a, .inr (3, [.ref c, .ref s, .ref nc, .ref ns, .int (iI fl), .int (iI n0)])), (c, ai cI 32 C1), (s, ai cI 33 S1), (nc, ai cI 32 NC), (ns, ai cI 33 NS)] [some (.ref a), some (.int (iI n0)), some (.int (iI k))] 16 [] := by
    intro n
    induction n with
    | zero => intro k C1 S1 hk0 hk1 hkn hc hs; omega
    | succ n ih =>
      intro k C1 S1 hk0 hk1 hkn hc hs
      refine z_iload_n (i := 2) C dX3_layFlat_16 rfl rfl ?_
      refine z_aload_n (i := 0) C dX3_layFlat_17 rfl rfl ?_
      refine z_get (ci := 3) C (hi_X3_layFlat_X3) 0 rfl rfl 5 (by decide) (by decide +kernel) rfl dX3_layFlat_18 ?_
      refine z_icmp_geI (tgt := 44) C dX3_layFlat_21 (by decide) ⟨by omega, by omega⟩ ⟨by omega, by omega⟩ (fun hk => ?_) (fun hk => ?_)
      · refine z_aload_n (i := 0) C dX3_layFlat_44 rfl rfl ?_
        refine z_get (ci := 3) C (hi_X3_layFlat_X3) 0 rfl rfl 1 (by decide) (by decide +kernel) rfl dX3_layFlat_45 ?_
        refine z_aload_n (i := 0) C dX3_layFlat_48 rfl rfl ?_
        refine z_get (ci := 3) C (hi_X3_layFlat_X3) 0 rfl rfl 5 (by decide) (by decide +kernel) rfl dX3_layFlat_49 ?_
        refine z_aload_n (i := 0) C dX3_layFlat_52 rfl rfl ?_
        refine z_get (ci := 3) C (hi_X3_layFlat_X3) 0 rfl rfl 5 (by decide) (by decide +kernel) rfl dX3_layFlat_53 ?_
        refine z_iastoreI 2 (he := rfl) (ws' := [(a, .inr (3, [.ref c, .ref s, .ref nc, .ref ns, .int (iI fl), .int (iI n0)])), (c, ai cI 32 C1), (s, ai cI 33 (zup S1 n0 n0)), (nc, ai cI 32 NC), (ns, ai cI 33 NS)]) C (zT_of hE (t0 := 0) rfl) (by omega) (by omega) (by decide) rfl dX3_layFlat_56 ?_
        exact z_vret C hR dX3_layFlat_57 (Nat.le_refl _) (Nat.le_refl _) (⟨rfl, C1, zup S1 n0 n0, rfl, fun j h1 h2 => hc j h1 (by omega), fun j h1 h2 => by unfold zup; split <;> first | omega | exact hs j h1 (by omega)⟩)
      · refine z_aload_n (i := 0) C dX3_layFlat_24 rfl rfl ?_
        refine z_get (ci := 3) C (hi_X3_layFlat_X3) 0 rfl rfl 0 (by decide) (by decide +kernel) rfl dX3_layFlat_25 ?_
        refine z_iload_n (i := 2) C dX3_layFlat_28 rfl rfl ?_
        refine z_iload_n (i := 2) C dX3_layFlat_29 rfl rfl ?_
        refine z_iastoreI 1 (he := rfl) (ws' := [(a, .inr (3, [.ref c, .ref s, .ref nc, .ref ns, .int (iI fl), .int (iI n0)])), (c, ai cI 32 (zup C1 k k)), (s, ai cI 33 S1), (nc, ai cI 32 NC), (ns, ai cI 33 NS)]) C (zT_of hE (t0 := 0) rfl) (by omega) (by omega) (by decide) rfl dX3_layFlat_30 ?_
        refine z_aload_n (i := 0) C dX3_layFlat_31 rfl rfl ?_
        refine z_get (ci := 3) C (hi_X3_layFlat_X3) 0 rfl rfl 1 (by decide) (by decide +kernel) rfl dX3_layFlat_32 ?_
        refine z_iload_n (i := 2) C dX3_layFlat_35 rfl rfl ?_
        refine z_iload_n (i := 2) C dX3_layFlat_36 rfl rfl ?_
        refine z_iastoreI 2 (he := rfl) (ws' := [(a, .inr (3, [.ref c, .ref s, .ref nc, .ref ns, .int (iI fl), .int (iI n0)])), (c, ai cI 32 (zup C1 k k)), (s, ai cI 33 (zup S1 k k)), (nc, ai cI 32 NC), (ns, ai cI 33 NS)]) C (zT_of hE (t0 := 0) rfl) (by omega) (by omega) (by decide) rfl dX3_layFlat_37 ?_
        refine z_iincI (v := k + 1) (lv' := [some (.ref a), some (.int (iI n0)), some (.int (iI (k + 1)))]) C dX3_layFlat_38 rfl (by omega) rfl ?_
        refine z_goto (tgt := 16) C dX3_layFlat_41 (by decide) ?_
        refine ih (k + 1) _ _ (by omega) (by omega) (by omega) (fun j h1 h2 => ?_) (fun j h1 h2 => ?_)
        · unfold zup; split
          · omega
          · exact hc j h1 (by omega)
        · unfold zup; split
          · omega
          · exact hs j h1 (by omega)
  refine z_aload_n (i := 0) C dX3_layFlat_0 rfl rfl ?_
  refine z_iconst (v := iI 0) C dX3_layFlat_1 rfl ?_
  refine z_iload_n (i := 1) C dX3_layFlat_2 rfl rfl ?_
  refine z_bipush (v := iI 32) C dX3_layFlat_3 (by decide) ?_
  refine z_minI C (by decide +kernel) (by decide +kernel) (by decide +kernel) (by decide +kernel) (Nat.le_of_ble_eq_true rfl) ⟨Nat.le_of_ble_eq_true rfl, Nat.le_of_ble_eq_true rfl⟩ ⟨Nat.le_of_ble_eq_true rfl, Nat.le_of_ble_eq_true rfl⟩ dX3_layFlat_5 ⟨by omega, by omega⟩ ⟨by omega, by omega⟩ ?_
  refine z_maxI C (by decide +kernel) (by decide +kernel) (by decide +kernel) (by decide +kernel) (Nat.le_of_ble_eq_true rfl) ⟨Nat.le_of_ble_eq_true rfl, Nat.le_of_ble_eq_true rfl⟩ ⟨Nat.le_of_ble_eq_true rfl, Nat.le_of_ble_eq_true rfl⟩ dX3_layFlat_8 ⟨by omega, by omega⟩ ⟨by omega, by omega⟩ ?_
  refine z_top (y := iI n0) (by rw [show max 0 (min n0 32) = n0 by omega]) ?_
  refine z_put (ci := 3) (ws' := [(a, .inr (3, [.ref c, .ref s, .ref nc, .ref ns, .int (iI fl), .int (iI n0)])), (c, ai cI 32 CC), (s, ai cI 33 SS), (nc, ai cI 32 NC), (ns, ai cI 33 NS)]) C (hi_X3_layFlat_X3) tyX3_ok nmX3 0 rfl rfl 5 (by decide) (by decide +kernel) rfl (tyX3_ok 5 (by decide)) rfl rfl (Nat.le_of_ble_eq_true rfl) rfl dX3_layFlat_11 ?_
  refine z_iconst (v := iI 0) C dX3_layFlat_14 rfl ?_
  refine z_istore_n (i := 2) (lv' := [some (.ref a), some (.int (iI n0)), some (.int (iI 0))]) C dX3_layFlat_15 rfl rfl rfl ?_
  exact lp (n0.toNat + 1) 0 CC SS (by omega) (by omega) (by omega) (fun j h1 h2 => by omega) (fun j h1 h2 => by omega)
theorem hi_X3_init_X3 : ∀ w ∈ wsX30, w ∈ wsX3_init := by decide +kernel
set_option maxHeartbeats 1000000 in
set_option maxRecDepth 100000 in
theorem k_StacksInit (l : Launch) (D : va_G) (cI cZ cM cL : ClassId) (a : Nat) : zN l yX3_init wsX3_init { frames := 1, cells := 4, slots := 130, locals := 20 } D (zTy cI cZ cM cL) [.ref a] [(a, .inr (3, [.null, .null, .null, .null, .int (iI 0), .int (iI 0)]))] (fun r w => r = none ∧ ∃ c s nc ns : Nat, w = skW cI a c s nc ns (fun _ => 0) (fun _ => 0) (fun _ => 0) (fun _ => 0) 0 0) 4 130 := by
  refine zN_of (cc := cX3_init) (maxL := 1) (lv0 := [some (.ref a)]) (by decide) rfl rfl (Nat.le_of_ble_eq_true rfl) rfl ?_
  intro E Q C hE hR hI0
  have hI := hI0 rfl
  refine z_aload_n (i := 0) C dX3_init_0 rfl rfl ?_
  refine z_objInit C (by decide +kernel) (by decide +kernel) (by decide +kernel) (Nat.le_of_ble_eq_true rfl) ⟨Nat.le_of_ble_eq_true rfl, Nat.le_of_ble_eq_true rfl⟩ dX3_init_1 ?_
  refine z_aload_n (i := 0) C dX3_init_4 rfl rfl ?_
  refine z_bipush (v := iI 32) C dX3_init_5 (by decide) ?_
  refine z_newint C 0 32 (by decide +kernel) (zT_of hE rfl) rfl (Nat.le_of_ble_eq_true rfl) (Nat.le_of_ble_eq_true rfl) (Nat.le_of_ble_eq_true rfl) dX3_init_7 (fun c => ?_)
  refine (show zG E Q (0 + 1) (0 + 32) [(a, .inr (3, [.null, .null, .null, .null, .int (iI 0), .int (iI 0)])), (c, ai cI 32 (fun _ => 0))] [some (.ref a)] 9 [.ref c, .ref a] from ?_)
  refine z_put (ci := 3) (ws' := [(a, .inr (3, [.ref c, .null, .null, .null, .int (iI 0), .int (iI 0)])), (c, ai cI 32 (fun _ => 0))]) C (hi_X3_init_X3) tyX3_ok nmX3 0 rfl rfl 0 (by decide) (by decide +kernel) rfl (tyX3_ok 0 (by decide)) rfl rfl (Nat.le_of_ble_eq_true rfl) rfl dX3_init_9 ?_
  refine z_aload_n (i := 0) C dX3_init_12 rfl rfl ?_
  refine z_bipush (v := iI 33) C dX3_init_13 (by decide) ?_
  refine z_newint C 0 33 (by decide +kernel) (zT_of hE rfl) rfl (Nat.le_of_ble_eq_true rfl) (Nat.le_of_ble_eq_true rfl) (Nat.le_of_ble_eq_true rfl) dX3_init_15 (fun s => ?_)
  refine (show zG E Q (0 + 1 + 1) (0 + 32 + 33) [(a, .inr (3, [.ref c, .null, .null, .null, .int (iI 0), .int (iI 0)])), (c, ai cI 32 (fun _ => 0)), (s, ai cI 33 (fun _ => 0))] [some (.ref a)] 17 [.ref s, .ref a] from ?_)
  refine z_put (ci := 3) (ws' := [(a, .inr (3, [.ref c, .ref s, .null, .null, .int (iI 0), .int (iI 0)])), (c, ai cI 32 (fun _ => 0)), (s, ai cI 33 (fun _ => 0))]) C (hi_X3_init_X3) tyX3_ok nmX3 0 rfl rfl 1 (by decide) (by decide +kernel) rfl (tyX3_ok 1 (by decide)) rfl rfl (Nat.le_of_ble_eq_true rfl) rfl dX3_init_17 ?_
  refine z_aload_n (i := 0) C dX3_init_20 rfl rfl ?_
  refine z_bipush (v := iI 32) C dX3_init_21 (by decide) ?_
  refine z_newint C 0 32 (by decide +kernel) (zT_of hE rfl) rfl (Nat.le_of_ble_eq_true rfl) (Nat.le_of_ble_eq_true rfl) (Nat.le_of_ble_eq_true rfl) dX3_init_23 (fun nc => ?_)
  refine (show zG E Q (0 + 1 + 1 + 1) (0 + 32 + 33 + 32) [(a, .inr (3, [.ref c, .ref s, .null, .null, .int (iI 0), .int (iI 0)])), (c, ai cI 32 (fun _ => 0)), (s, ai cI 33 (fun _ => 0)), (nc, ai cI 32 (fun _ => 0))] [some (.ref a)] 25 [.ref nc, .ref a] from ?_)
  refine z_put (ci := 3) (ws' := [(a, .inr (3, [.ref c, .ref s, .ref nc, .null, .int (iI 0), .int (iI 0)])), (c, ai cI 32 (fun _ => 0)), (s, ai cI 33 (fun _ => 0)), (nc, ai cI 32 (fun _ => 0))]) C (hi_X3_init_X3) tyX3_ok nmX3 0 rfl rfl 2 (by decide) (by decide +kernel) rfl (tyX3_ok 2 (by decide)) rfl rfl (Nat.le_of_ble_eq_true rfl) rfl dX3_init_25 ?_
  refine z_aload_n (i := 0) C dX3_init_28 rfl rfl ?_
  refine z_bipush (v := iI 33) C dX3_init_29 (by decide) ?_
  refine z_newint C 0 33 (by decide +kernel) (zT_of hE rfl) rfl (Nat.le_of_ble_eq_true rfl) (Nat.le_of_ble_eq_true rfl) (Nat.le_of_ble_eq_true rfl) dX3_init_31 (fun ns => ?_)
  refine (show zG E Q (0 + 1 + 1 + 1 + 1) (0 + 32 + 33 + 32 + 33) [(a, .inr (3, [.ref c, .ref s, .ref nc, .null, .int (iI 0), .int (iI 0)])), (c, ai cI 32 (fun _ => 0)), (s, ai cI 33 (fun _ => 0)), (nc, ai cI 32 (fun _ => 0)), (ns, ai cI 33 (fun _ => 0))] [some (.ref a)] 33 [.ref ns, .ref a] from ?_)
  refine z_put (ci := 3) (ws' := [(a, .inr (3, [.ref c, .ref s, .ref nc, .ref ns, .int (iI 0), .int (iI 0)])), (c, ai cI 32 (fun _ => 0)), (s, ai cI 33 (fun _ => 0)), (nc, ai cI 32 (fun _ => 0)), (ns, ai cI 33 (fun _ => 0))]) C (hi_X3_init_X3) tyX3_ok nmX3 0 rfl rfl 3 (by decide) (by decide +kernel) rfl (tyX3_ok 3 (by decide)) rfl rfl (Nat.le_of_ble_eq_true rfl) rfl dX3_init_33 ?_
  refine z_aload_n (i := 0) C dX3_init_36 rfl rfl ?_
  refine z_iconst (v := iI 0) C dX3_init_37 rfl ?_
  refine z_put (ci := 3) (ws' := [(a, .inr (3, [.ref c, .ref s, .ref nc, .ref ns, .int (iI 0), .int (iI 0)])), (c, ai cI 32 (fun _ => 0)), (s, ai cI 33 (fun _ => 0)), (nc, ai cI 32 (fun _ => 0)), (ns, ai cI 33 (fun _ => 0))]) C (hi_X3_init_X3) tyX3_ok nmX3 0 rfl rfl 4 (by decide) (by decide +kernel) rfl (tyX3_ok 4 (by decide)) rfl rfl (Nat.le_of_ble_eq_true rfl) rfl dX3_init_38 ?_
  refine z_aload_n (i := 0) C dX3_init_41 rfl rfl ?_
  refine z_iconst (v := iI 0) C dX3_init_42 rfl ?_
  refine z_put (ci := 3) (ws' := [(a, .inr (3, [.ref c, .ref s, .ref nc, .ref ns, .int (iI 0), .int (iI 0)])), (c, ai cI 32 (fun _ => 0)), (s, ai cI 33 (fun _ => 0)), (nc, ai cI 32 (fun _ => 0)), (ns, ai cI 33 (fun _ => 0))]) C (hi_X3_init_X3) tyX3_ok nmX3 0 rfl rfl 5 (by decide) (by decide +kernel) rfl (tyX3_ok 5 (by decide)) rfl rfl (Nat.le_of_ble_eq_true rfl) rfl dX3_init_43 ?_
  exact z_vret C hR dX3_init_46 (Nat.le_refl _) (Nat.le_refl _) (⟨rfl, c, s, nc, ns, rfl⟩)
end
section
/-! A STEP OF THE STACKS, in words. -/
theorem stW.mono {sp : Int} {S : Int → Int} (h : stW sp S) : ∀ (n : Nat) (i : Int), 0 ≤ i → i + n ≤ sp → S i ≤ S (i + n)
  | 0, i, _, _ => by rw [show i + ((0 : Nat) : Int) = i by omega]; exact Int.le_refl _
  | n + 1, i, h0, h1 => by
    have h2 := h.mono n i h0 (by omega)
    have h3 := h.2.2.2.2 (i + n) (by omega) (by omega)
    rw [show i + n + 1 = i + ((n + 1 : Nat) : Int) by omega] at h3
    omega
theorem stW.le {sp : Int} {S : Int → Int} (h : stW sp S) {i j : Int} (h0 : 0 ≤ i) (h1 : i ≤ j) (h2 : j ≤ sp) : S i ≤ S j := by
  have := h.mono (j - i).toNat i h0 (by omega)
  rw [show i + ((j - i).toNat : Int) = j by omega] at this
  exact this
/-- how many cells lie below the place x -/
def Sc (sp : Int) (S : Int → Int) (x : Int) : Int := if x ≤ 0 then 0 else if sp ≤ x then S sp else S x
theorem stW.hgtSc {sp : Int} {S : Int → Int} (h : stW sp S) (x : Int) : hgt sp S x = Sc sp S (x + 1) - Sc sp S x := by
  obtain ⟨h0, h1, h2, h3, h4⟩ := h
  unfold hgt Sc
  by_cases a : 0 ≤ x ∧ x < sp
  · rw [if_pos a, if_neg (show ¬ x + 1 ≤ 0 by omega)]
    have e1 : (if sp ≤ x + 1 then S sp else S (x + 1)) = S (x + 1) := by
      split
      · rw [show sp = x + 1 by omega]
      · rfl
    have e2 : (if x ≤ 0 then 0 else if sp ≤ x then S sp else S x) = S x := by
      split
      · rw [show x = 0 by omega, h2]
      · rw [if_neg (by omega)]
    rw [e1, e2]
  · rw [if_neg a]
    by_cases b : x < 0
    · rw [if_pos (by omega), if_pos (by omega)]; rfl
    · rw [if_neg (by omega), if_pos (by omega)]
      by_cases d : x ≤ 0
      · rw [if_pos d, show sp = 0 by omega, h2]; rfl
      · rw [if_neg d, if_pos (by omega)]; omega
theorem stW.ScMono {sp : Int} {S : Int → Int} (h : stW sp S) {x y : Int} (hxy : x ≤ y) : Sc sp S x ≤ Sc sp S y := by
  obtain ⟨h0, h1, h2, h3, h4⟩ := id h
  unfold Sc
  by_cases a : y ≤ 0
  · rw [if_pos a, if_pos (by omega)]; omega
  · rw [if_neg a]
    have hy : 0 ≤ (if sp ≤ y then S sp else S y) := by
      split
      · exact (h3 sp h0 (Int.le_refl _)).1
      · exact (h3 y (by omega) (by omega)).1
    by_cases b : x ≤ 0
    · rw [if_pos b]; exact hy
    · rw [if_neg b]
      by_cases d : sp ≤ y
      · rw [if_pos d]
        split
        · omega
        · exact h.le (by omega) (by omega) (Int.le_refl _)
      · rw [if_neg d, if_neg (by omega)]
        exact h.le (by omega) hxy (by omega)
theorem stW.ScR {sp : Int} {S : Int → Int} (h : stW sp S) (x : Int) : 0 ≤ Sc sp S x ∧ Sc sp S x ≤ 32 := by
  obtain ⟨h0, h1, h2, h3, h4⟩ := h
  unfold Sc
  split
  · omega
  · split
    · exact h3 sp h0 (Int.le_refl _)
    · exact h3 x (by omega) (by omega)
/-- the lowest place behind a step -/
def lw (p lf sp : Int) : Int := if lf = 0 then min 0 (2 * p - sp) else p
/-- where the place k begins behind a step -/
def tG (sp : Int) (S : Int → Int) (p low k : Int) : Int := Sc sp S (low + k) - Sc sp S low + Sc sp S (2 * p - low) - Sc sp S (2 * p - low - k)
theorem stW.tGs {sp : Int} {S : Int → Int} (h : stW sp S) (p low k : Int) : tG sp S p low (k + 1) = tG sp S p low k + hgt sp S (low + k) + hgt sp S (2 * p - 1 - (low + k)) := by
  rw [h.hgtSc (low + k), h.hgtSc (2 * p - 1 - (low + k))]
  unfold tG
  rw [show low + (k + 1) = low + k + 1 by omega, show 2 * p - low - (k + 1) = 2 * p - 1 - (low + k) by omega, show 2 * p - 1 - (low + k) + 1 = 2 * p - low - k by omega]
  omega
theorem tG_0 (sp : Int) (S : Int → Int) (p low : Int) : tG sp S p low 0 = 0 := by
  unfold tG
  rw [show low + 0 = low by omega, show 2 * p - low - 0 = 2 * p - low by omega]
  omega
theorem stW.tGr {sp : Int} {S : Int → Int} (h : stW sp S) {p low k : Int} (hk : 0 ≤ k) (hl : low = p ∨ low + k ≤ p) : 0 ≤ tG sp S p low k ∧ tG sp S p low k ≤ 32 := by
  unfold tG
  have a1 := h.ScMono (show low ≤ low + k by omega)
  have a2 := h.ScMono (show 2 * p - low - k ≤ 2 * p - low by omega)
  have a3 := h.ScR low
  have a4 := h.ScR (2 * p - low)
  have a5 := h.ScR (low + k)
  have a6 := h.ScR (2 * p - low - k)
  rcases hl with hl | hl
  · rw [show 2 * p - low = low by omega] at *
    omega
  · have a7 := h.ScMono (show low + k ≤ 2 * p - low - k by omega)
    omega
theorem stW.tGm {sp : Int} {S : Int → Int} (h : stW sp S) (p low : Int) {j k : Int} (hjk : j ≤ k) : tG sp S p low j ≤ tG sp S p low k := by
  unfold tG
  have a1 := h.ScMono (show low + j ≤ low + k by omega)
  have a2 := h.ScMono (show 2 * p - low - k ≤ 2 * p - low - j by omega)
  omega
/-- what a step makes of the stacks: below the place k -/
def tnP (sp : Int) (S C : Int → Int) (p low k : Int) (N1 M1 : Int → Int) : Prop :=
  (∀ j, 0 ≤ j → j < k → M1 j = tG sp S p low j) ∧
  (∀ j h, 0 ≤ j → j < k → 0 ≤ h → h < hgt sp S (low + j) → N1 (tG sp S p low j + h) = C (S (low + j) + h)) ∧
  (∀ j h, 0 ≤ j → j < k → 0 ≤ h → h < hgt sp S (2 * p - 1 - (low + j)) → N1 (tG sp S p low j + hgt sp S (low + j) + h) = C (S (2 * p - 1 - (low + j)) + (hgt sp S (2 * p - 1 - (low + j)) - 1 - h)))
theorem stW.tnS {sp : Int} {S C : Int → Int} (h : stW sp S) {p low k : Int} {N1 M1 : Int → Int} (hk : 0 ≤ k) (hp : tnP sp S C p low k N1 M1) :
    tnP sp S C p low (k + 1) (cpU (cpU N1 (tG sp S p low k) (hgt sp S (low + k)) (fun i => C (S (low + k) + i))) (tG sp S p low k + hgt sp S (low + k)) (hgt sp S (2 * p - 1 - (low + k))) (fun i => C (S (2 * p - 1 - (low + k)) + (hgt sp S (2 * p - 1 - (low + k)) - 1 - i)))) (zup M1 k (tG sp S p low k)) := by
  obtain ⟨h1, h2, h3⟩ := hp
  refine ⟨fun j a b => ?_, fun j i a b d e => ?_, fun j i a b d e => ?_⟩
  · unfold zup
    split
    · subst_vars; rfl
    · exact h1 j a (by omega)
  · by_cases hj : j = k
    · subst hj
      unfold cpU
      rw [if_neg (by omega), if_pos (by omega)]
      rw [show tG sp S p low j + i - tG sp S p low j = i by omega]
    · have b1 := h.tGm p low (show j + 1 ≤ k by omega)
      have b2 := h.tGs p low j
      have b3 := h.hgt0 (2 * p - 1 - (low + j))
      have b4 := h.hgt0 (low + k)
      unfold cpU
      rw [if_neg (by omega), if_neg (by omega)]
      exact h2 j i a (by omega) d e
  · by_cases hj : j = k
    · subst hj
      unfold cpU
      rw [if_pos (by omega)]
      rw [show tG sp S p low j + hgt sp S (low + j) + i - (tG sp S p low j + hgt sp S (low + j)) = i by omega]
    · have b1 := h.tGm p low (show j + 1 ≤ k by omega)
      have b2 := h.tGs p low j
      have b4 := h.hgt0 (low + k)
      unfold cpU
      rw [if_neg (by omega), if_neg (by omega)]
      exact h3 j i a (by omega) d e
theorem stW.tnEnd {sp : Int} {S C : Int → Int} (_ : stW sp S) {p low k : Int} {N1 M1 : Int → Int} (hp : tnP sp S C p low k N1 M1) :
    tnP sp S C p low k N1 (zup M1 k (tG sp S p low k)) ∧ zup M1 k (tG sp S p low k) k = tG sp S p low k := by
  obtain ⟨h1, h2, h3⟩ := hp
  refine ⟨⟨fun j a b => ?_, h2, h3⟩, zup_self _ _ _⟩
  rw [zup_ne _ _ (by omega)]
  exact h1 j a b
end
section
/-! turnOver. -/
theorem hi_X3_turnOver_X3 : ∀ w ∈ wsX30, w ∈ wsX3_turnOver := by decide +kernel
set_option maxHeartbeats 1000000 in
set_option maxRecDepth 100000 in
theorem k_turnOver (l : Launch) (D : va_G) (cI cZ cM cL : ClassId) (a c s nc ns : Nat) (CC SS NC NS : Int → Int) (fl sp : Int) (p lf : Int) (hp : 1 ≤ p ∧ p < sp) (hlf : lf = 0 ∨ lf = 1) (hW : stW sp SS) : zN l yX3_turnOver wsX3_turnOver { frames := 5, cells := 0, slots := 0, locals := 109 } D (zTy cI cZ cM cL) [.ref a, .int (iI p), .int (iI lf)] (skW cI a c s nc ns CC SS NC NS fl sp) (fun r w => r = none ∧ ∃ (low : Int) (N1 M1 : Int → Int) (f1 : Int), low = lw p lf sp ∧ w = skW cI a nc ns c s N1 M1 CC SS f1 (max p (sp - p)) ∧ tnP sp SS CC p low (max p (sp - p)) N1 M1 ∧ M1 (max p (sp - p)) = tG sp SS p low (max p (sp - p))) 0 0 := by
  refine zN_of (cc := cX3_turnOver) (maxL := 7) (lv0 := [some (.ref a), some (.int (iI p)), some (.int (iI lf)), none, none, none, none]) (by decide) rfl rfl (Nat.le_of_ble_eq_true rfl) rfl ?_
  intro E Q C hE hR hI0
  obtain ⟨hs0, hs1, -, -, -⟩ := id hW
  refine (show zG E Q 0 0 [(a, .inr (3, [.ref c, .ref s, .ref nc, .ref ns, .int (iI fl), .int (iI sp)])), (c, ai cI 32 CC), (s, ai cI 33 SS), (nc, ai cI 32 NC), (ns, ai cI 33 NS)] [some (.ref a), some (.int (iI p)), some (.int (iI lf)), none, none, none, none] 0 [] from ?_)
  have k34 : ∀ low : Int, low = lw p lf sp → zG E Q 0 0 [(a, .inr (3, [.ref c, .ref s, .ref nc, .ref ns, .int (iI fl), .int (iI sp)])), (c, ai cI 32 CC), (s, ai cI 33 SS), (nc, ai cI 32 NC), (ns, ai cI 33 NS)] [some (.ref a), some (.int (iI p)), some (.int (iI lf)), none, none, none, none] 34 [.int (iI low)] := by
    intro low hlow
    have hl0 : (low = p ∨ low + max p (sp - p) ≤ p) ∧ -64 ≤ low ∧ low ≤ 32 := by unfold lw at hlow; split at hlow <;> omega
    have lp : ∀ (n : Nat) (k : Int) (N1 M1 : Int → Int) (f1 : Int), 0 ≤ k → k ≤ max p (sp - p) → max p (sp - p) - k < n → f1 = tG sp SS p low k → tnP sp SS CC p low k N1 M1 → zG E Q (0) (0) [(a, .inr (3, [.ref c, .ref s, .ref nc, .ref ns, .int (iI f1), .int (iI sp)])), (c, ai cI 32 CC), (s, ai cI 33 SS), (nc, ai cI 32 N1), (ns, ai cI 33 M1)] [some (.ref a), some (.int (iI p)), some (.int (iI lf)), some (.int (iI low)), some (.int (iI (max p (sp - p)))), some (.int (iI k)), none] 55 [] := by
      intro n
      induction n with
      | zero => intro k N1 M1 f1 hk0 hk1 hkn hf1 hT; omega
      | succ n ih =>
        intro k N1 M1 f1 hk0 hk1 hkn hf1 hT
        have r1 := hW.tGr (p := p) (low := low) hk0 (by omega)
        have r2 : k < max p (sp - p) → 0 ≤ tG sp SS p low (k + 1) ∧ tG sp SS p low (k + 1) ≤ 32 := fun h => hW.tGr (by omega) (by omega)
        have r3 := hW.tGs p low k
        have r4 := hW.hgt0 (low + k)
        have r5 := hW.hgt0 (2 * p - 1 - (low + k))
        refine z_iload C dX3_turnOver_55 rfl ?_
        refine z_iload C dX3_turnOver_57 rfl ?_
        refine z_icmp_geI (tgt := 103) C dX3_turnOver_59 (by decide) ⟨by omega, by omega⟩ ⟨by omega, by omega⟩ (fun hk => ?_) (fun hk => ?_)
        · refine z_aload_n (i := 0) C dX3_turnOver_103 rfl rfl ?_
          refine z_get (ci := 3) C (hi_X3_turnOver_X3) 0 rfl rfl 3 (by decide) (by decide +kernel) rfl dX3_turnOver_104 ?_
          refine z_iload C dX3_turnOver_107 rfl ?_
          refine z_aload_n (i := 0) C dX3_turnOver_109 rfl rfl ?_
          refine z_get (ci := 3) C (hi_X3_turnOver_X3) 0 rfl rfl 4 (by decide) (by decide +kernel) rfl dX3_turnOver_110 ?_
          refine z_iastoreI 4 (he := rfl) (ws' := [(a, .inr (3, [.ref c, .ref s, .ref nc, .ref ns, .int (iI f1), .int (iI sp)])), (c, ai cI 32 CC), (s, ai cI 33 SS), (nc, ai cI 32 N1), (ns, ai cI 33 (zup M1 (max p (sp - p)) f1))]) C (zT_of hE (t0 := 0) rfl) (by omega) (by omega) (by decide) rfl dX3_turnOver_113 ?_
          refine z_aload_n (i := 0) C dX3_turnOver_114 rfl rfl ?_
          refine z_iload C dX3_turnOver_115 rfl ?_
          refine z_put (ci := 3) (ws' := [(a, .inr (3, [.ref c, .ref s, .ref nc, .ref ns, .int (iI f1), .int (iI (max p (sp - p)))])), (c, ai cI 32 CC), (s, ai cI 33 SS), (nc, ai cI 32 N1), (ns, ai cI 33 (zup M1 (max p (sp - p)) f1))]) C (hi_X3_turnOver_X3) tyX3_ok nmX3 0 rfl rfl 5 (by decide) (by decide +kernel) rfl (tyX3_ok 5 (by decide)) rfl rfl (Nat.le_of_ble_eq_true rfl) rfl dX3_turnOver_117 ?_
          refine z_aload_n (i := 0) C dX3_turnOver_120 rfl rfl ?_
          refine z_callV (n := 0) (As := []) (st := []) (fr := []) C hE (k_swapRows l D cI cZ cM cL a c s nc ns CC SS N1 (zup M1 (max p (sp - p)) f1) f1 (max p (sp - p))) gX3_turnOver_X3_swapRows rfl ⟨rfl, rfl⟩ (by decide +kernel) ⟨Nat.le_of_ble_eq_true rfl, Nat.le_of_ble_eq_true rfl⟩ rfl rfl (List.Perm.refl _) 0 rfl rfl rfl (Nat.le_of_ble_eq_true rfl) ⟨Nat.le_of_ble_eq_true rfl, Nat.le_of_ble_eq_true rfl⟩ dX3_turnOver_121 (fun r w1 hpo => ?_)
          obtain ⟨rfl, rfl⟩ := hpo
          refine (show zG E Q (0) (0) [(a, .inr (3, [.ref nc, .ref ns, .ref c, .ref s, .int (iI f1), .int (iI (max p (sp - p)))])), (c, ai cI 32 CC), (s, ai cI 33 SS), (nc, ai cI 32 N1), (ns, ai cI 33 (zup M1 (max p (sp - p)) f1))] [some (.ref a), some (.int (iI p)), some (.int (iI lf)), some (.int (iI low)), some (.int (iI (max p (sp - p)))), some (.int (iI k)), none] 124 [] from ?_)
          have ek : k = max p (sp - p) := by omega
          subst ek
          refine z_perm (z_places (w := skW cI a nc ns c s N1 (zup M1 (max p (sp - p)) f1) CC SS f1 (max p (sp - p))) [0, 3, 4, 1, 2] rfl rfl) ?_
          exact z_vret C hR dX3_turnOver_124 (Nat.le_refl _) (Nat.le_refl _) (⟨rfl, low, N1, _, f1, hlow, rfl, by have h9 := hW.tnEnd hT; rw [← hf1] at h9 ⊢; exact h9⟩)
        · refine z_aload_n (i := 0) C dX3_turnOver_62 rfl rfl ?_
          refine z_get (ci := 3) C (hi_X3_turnOver_X3) 0 rfl rfl 3 (by decide) (by decide +kernel) rfl dX3_turnOver_63 ?_
          refine z_iload C dX3_turnOver_66 rfl ?_
          refine z_aload_n (i := 0) C dX3_turnOver_68 rfl rfl ?_
          refine z_get (ci := 3) C (hi_X3_turnOver_X3) 0 rfl rfl 4 (by decide) (by decide +kernel) rfl dX3_turnOver_69 ?_
          refine z_iastoreI 4 (he := rfl) (ws' := [(a, .inr (3, [.ref c, .ref s, .ref nc, .ref ns, .int (iI f1), .int (iI sp)])), (c, ai cI 32 CC), (s, ai cI 33 SS), (nc, ai cI 32 N1), (ns, ai cI 33 (zup M1 k f1))]) C (zT_of hE (t0 := 0) rfl) (by omega) (by omega) (by decide) rfl dX3_turnOver_72 ?_
          refine z_iload_n (i := 3) C dX3_turnOver_73 rfl rfl ?_
          refine z_iload C dX3_turnOver_74 rfl ?_
          refine z_iaddI (v := low + k) C dX3_turnOver_76 (by omega) ?_
          refine z_istore (lv' := [some (.ref a), some (.int (iI p)), some (.int (iI lf)), some (.int (iI low)), some (.int (iI (max p (sp - p)))), some (.int (iI k)), some (.int (iI (low + k)))]) C dX3_turnOver_77 rfl rfl ?_
          refine z_aload_n (i := 0) C dX3_turnOver_79 rfl rfl ?_
          refine z_iload C dX3_turnOver_80 rfl ?_
          refine z_callV (n := 1) (As := [.int (iI (low + k))]) (st := []) (fr := []) C hE (k_copyUp l D cI cZ cM cL a c s nc ns CC SS N1 (zup M1 k f1) f1 sp (low + k) ⟨by omega, by omega⟩ hW ⟨by omega, by omega⟩) gX3_turnOver_X3_copyUpwards rfl ⟨rfl, rfl⟩ (by decide +kernel) ⟨Nat.le_of_ble_eq_true rfl, Nat.le_of_ble_eq_true rfl⟩ rfl rfl (List.Perm.refl _) 0 rfl rfl rfl (Nat.le_of_ble_eq_true rfl) ⟨Nat.le_of_ble_eq_true rfl, Nat.le_of_ble_eq_true rfl⟩ dX3_turnOver_82 (fun r w1 hpo => ?_)
          obtain ⟨rfl, rfl⟩ := hpo
          refine (show zG E Q (0) (0) [(a, .inr (3, [.ref c, .ref s, .ref nc, .ref ns, .int (iI (f1 + hgt sp SS (low + k))), .int (iI sp)])), (c, ai cI 32 CC), (s, ai cI 33 SS), (nc, ai cI 32 (cpU N1 f1 (hgt sp SS (low + k)) (fun i => CC (SS (low + k) + i)))), (ns, ai cI 33 (zup M1 k f1))] [some (.ref a), some (.int (iI p)), some (.int (iI lf)), some (.int (iI low)), some (.int (iI (max p (sp - p)))), some (.int (iI k)), some (.int (iI (low + k)))] 85 [] from ?_)
          refine z_aload_n (i := 0) C dX3_turnOver_85 rfl rfl ?_
          refine z_iconst (v := iI 2) C dX3_turnOver_86 rfl ?_
          refine z_iload_n (i := 1) C dX3_turnOver_87 rfl rfl ?_
          refine z_imulI (v := 2 * p) C dX3_turnOver_88 (by rfl) ?_
          refine z_iconst (v := iI 1) C dX3_turnOver_89 rfl ?_
          refine z_isubI (v := (2 * p) - 1) C dX3_turnOver_90 (by omega) ?_
          refine z_iload C dX3_turnOver_91 rfl ?_
          refine z_isubI (v := ((2 * p) - 1) - (low + k)) C dX3_turnOver_93 (by omega) ?_
          refine z_callV (n := 1) (As := [.int (iI (((2 * p) - 1) - (low + k)))]) (st := []) (fr := []) C hE (k_copyDown l D cI cZ cM cL a c s nc ns CC SS (cpU N1 f1 (hgt sp SS (low + k)) (fun i => CC (SS (low + k) + i))) (zup M1 k f1) (f1 + hgt sp SS (low + k)) sp (2 * p - 1 - (low + k)) ⟨by omega, by omega⟩ hW ⟨by omega, by omega⟩) gX3_turnOver_X3_copyDownwards rfl ⟨rfl, rfl⟩ (by decide +kernel) ⟨Nat.le_of_ble_eq_true rfl, Nat.le_of_ble_eq_true rfl⟩ rfl rfl (List.Perm.refl _) 0 rfl rfl rfl (Nat.le_of_ble_eq_true rfl) ⟨Nat.le_of_ble_eq_true rfl, Nat.le_of_ble_eq_true rfl⟩ dX3_turnOver_94 (fun r w1 hpo => ?_)
          obtain ⟨rfl, rfl⟩ := hpo
          refine (show zG E Q (0) (0) [(a, .inr (3, [.ref c, .ref s, .ref nc, .ref ns, .int (iI (f1 + hgt sp SS (low + k) + hgt sp SS (2 * p - 1 - (low + k)))), .int (iI sp)])), (c, ai cI 32 CC), (s, ai cI 33 SS), (nc, ai cI 32 (cpU (cpU N1 f1 (hgt sp SS (low + k)) (fun i => CC (SS (low + k) + i))) (f1 + hgt sp SS (low + k)) (hgt sp SS (2 * p - 1 - (low + k))) (fun i => CC (SS (2 * p - 1 - (low + k)) + (hgt sp SS (2 * p - 1 - (low + k)) - 1 - i))))), (ns, ai cI 33 (zup M1 k f1))] [some (.ref a), some (.int (iI p)), some (.int (iI lf)), some (.int (iI low)), some (.int (iI (max p (sp - p)))), some (.int (iI k)), some (.int (iI (low + k)))] 97 [] from ?_)
          refine z_iincI (v := k + 1) (lv' := [some (.ref a), some (.int (iI p)), some (.int (iI lf)), some (.int (iI low)), some (.int (iI (max p (sp - p)))), some (.int (iI (k + 1))), some (.int (iI (low + k)))]) C dX3_turnOver_97 rfl (by omega) rfl ?_
          refine z_goto (tgt := 55) C dX3_turnOver_100 (by decide) ?_
          refine z_le (r := [some (.ref a), some (.int (iI p)), some (.int (iI lf)), some (.int (iI low)), some (.int (iI (max p (sp - p)))), some (.int (iI (k + 1))), none]) ⟨Or.inr rfl, Or.inr rfl, Or.inr rfl, Or.inr rfl, Or.inr rfl, Or.inr rfl, Or.inl rfl, trivial⟩ ?_
          subst hf1
          exact ih (k + 1) _ _ _ (by omega) (by omega) (by omega) (hW.tGs p low k).symm (hW.tnS hk0 hT)
    refine z_istore_n (i := 3) (lv' := [some (.ref a), some (.int (iI p)), some (.int (iI lf)), some (.int (iI low)), none, none, none]) C dX3_turnOver_34 rfl rfl rfl ?_
    refine z_iload_n (i := 1) C dX3_turnOver_35 rfl rfl ?_
    refine z_aload_n (i := 0) C dX3_turnOver_36 rfl rfl ?_
    refine z_get (ci := 3) C (hi_X3_turnOver_X3) 0 rfl rfl 5 (by decide) (by decide +kernel) rfl dX3_turnOver_37 ?_
    refine z_iload_n (i := 1) C dX3_turnOver_40 rfl rfl ?_
    refine z_isubI (v := sp - p) C dX3_turnOver_41 (by omega) ?_
    refine z_maxI C (by decide +kernel) (by decide +kernel) (by decide +kernel) (by decide +kernel) (Nat.le_of_ble_eq_true rfl) ⟨Nat.le_of_ble_eq_true rfl, Nat.le_of_ble_eq_true rfl⟩ ⟨Nat.le_of_ble_eq_true rfl, Nat.le_of_ble_eq_true rfl⟩ dX3_turnOver_42 ⟨by omega, by omega⟩ ⟨by omega, by omega⟩ ?_
    refine z_istore (lv' := [some (.ref a), some (.int (iI p)), some (.int (iI lf)), some (.int (iI low)), some (.int (iI (max p (sp - p)))), none, none]) C dX3_turnOver_45 rfl rfl ?_
    refine z_aload_n (i := 0) C dX3_turnOver_47 rfl rfl ?_
    refine z_iconst (v := iI 0) C dX3_turnOver_48 rfl ?_
    refine z_put (ci := 3) (ws' := [(a, .inr (3, [.ref c, .ref s, .ref nc, .ref ns, .int (iI 0), .int (iI sp)])), (c, ai cI 32 CC), (s, ai cI 33 SS), (nc, ai cI 32 NC), (ns, ai cI 33 NS)]) C (hi_X3_turnOver_X3) tyX3_ok nmX3 0 rfl rfl 4 (by decide) (by decide +kernel) rfl (tyX3_ok 4 (by decide)) rfl rfl (Nat.le_of_ble_eq_true rfl) rfl dX3_turnOver_49 ?_
    refine z_iconst (v := iI 0) C dX3_turnOver_52 rfl ?_
    refine z_istore (lv' := [some (.ref a), some (.int (iI p)), some (.int (iI lf)), some (.int (iI low)), some (.int (iI (max p (sp - p)))), some (.int (iI 0)), none]) C dX3_turnOver_53 rfl rfl ?_
    exact lp ((max p (sp - p)).toNat + 1) 0 NC NS 0 (by omega) (by omega) (by omega) (tG_0 sp SS p low).symm ⟨fun j h1 h2 => by omega, fun j h h1 h2 => by omega, fun j h h1 h2 => by omega⟩
  refine z_iload_n (i := 1) C dX3_turnOver_0 rfl rfl ?_
  refine z_iconst (v := iI 1) C dX3_turnOver_1 rfl ?_
  refine z_icmp_ltI (tgt := 13) C dX3_turnOver_2 (by decide) ⟨by omega, by omega⟩ ⟨by omega, by omega⟩ (fun h => by exfalso; omega) (fun _ => ?_)
  refine z_iload_n (i := 1) C dX3_turnOver_5 rfl rfl ?_
  refine z_aload_n (i := 0) C dX3_turnOver_6 rfl rfl ?_
  refine z_get (ci := 3) C (hi_X3_turnOver_X3) 0 rfl rfl 5 (by decide) (by decide +kernel) rfl dX3_turnOver_7 ?_
  refine z_icmp_ltI (tgt := 14) C dX3_turnOver_10 (by decide) ⟨by omega, by omega⟩ ⟨by omega, by omega⟩ (fun _ => ?_) (fun h => by exfalso; omega)
  refine z_iload_n (i := 2) C dX3_turnOver_14 rfl rfl ?_
  refine z_if_eqI (tgt := 22) C dX3_turnOver_15 (by decide) ⟨by omega, by omega⟩ (fun hlf => ?_) (fun hlf => ?_)
  · refine z_iconst (v := iI 0) C dX3_turnOver_22 rfl ?_
    refine z_iconst (v := iI 2) C dX3_turnOver_23 rfl ?_
    refine z_iload_n (i := 1) C dX3_turnOver_24 rfl rfl ?_
    refine z_imulI (v := 2 * p) C dX3_turnOver_25 (by rfl) ?_
    refine z_aload_n (i := 0) C dX3_turnOver_26 rfl rfl ?_
    refine z_get (ci := 3) C (hi_X3_turnOver_X3) 0 rfl rfl 5 (by decide) (by decide +kernel) rfl dX3_turnOver_27 ?_
    refine z_isubI (v := (2 * p) - sp) C dX3_turnOver_30 (by omega) ?_
    refine z_minI C (by decide +kernel) (by decide +kernel) (by decide +kernel) (by decide +kernel) (Nat.le_of_ble_eq_true rfl) ⟨Nat.le_of_ble_eq_true rfl, Nat.le_of_ble_eq_true rfl⟩ ⟨Nat.le_of_ble_eq_true rfl, Nat.le_of_ble_eq_true rfl⟩ dX3_turnOver_31 ⟨by omega, by omega⟩ ⟨by omega, by omega⟩ ?_
    exact k34 _ (by unfold lw; first | rw [if_pos (by omega)] | rw [if_neg (by omega)])
  · refine z_iload_n (i := 1) C dX3_turnOver_18 rfl rfl ?_
    refine z_goto (tgt := 34) C dX3_turnOver_19 (by decide) ?_
    exact k34 _ (by unfold lw; first | rw [if_pos (by omega)] | rw [if_neg (by omega)])
end
section
/-! HOW THE CELLS LIE, in words: behind j steps of a strip of len cells, with places P and sides F. -/
/-- the cell at x goes over, at a step at p -/
abbrev gz (f p x : Int) : Prop := (f = 0 ∧ p ≤ x) ∨ (¬ f = 0 ∧ x < p)
def cnt (Pl : Int → Int) (k : Int) : Nat → Int
  | 0 => 0
  | n + 1 => cnt Pl k n + (if Pl (n : Int) = k then 1 else 0)
/-- how many places -/
def gS (len : Int) (P : Int → Int) : Nat → Int
  | 0 => len
  | j + 1 => max (P (j : Int)) (gS len P j - P (j : Int))
def gP (len : Int) (P F : Int → Int) : Nat → Int → Int
  | 0 => fun q => q
  | j + 1 => fun q => (if gz (F (j : Int)) (P (j : Int)) (gP len P F j q) then 2 * P (j : Int) - 1 - gP len P F j q else gP len P F j q) - lw (P (j : Int)) (F (j : Int)) (gS len P j)
def gT (len : Int) (P F : Int → Int) : Nat → Int → Int
  | 0 => fun _ => 0
  | j + 1 => fun q => if gz (F (j : Int)) (P (j : Int)) (gP len P F j q) then 1 - gT len P F j q else gT len P F j q
/-- the height behind a step: those that lie there, and those that go, but the ones below -/
def hs (f p sp len : Int) (Pl Hl : Int → Int) (q : Int) : Int :=
  if gz f p (Pl q) then (if 0 ≤ 2 * p - 1 - Pl q ∧ 2 * p - 1 - Pl q < sp then cnt Pl (2 * p - 1 - Pl q) len.toNat else 0) + cnt Pl (Pl q) len.toNat - 1 - Hl q else Hl q
def gH (len : Int) (P F : Int → Int) : Nat → Int → Int
  | 0 => fun _ => 0
  | j + 1 => fun q => hs (F (j : Int)) (P (j : Int)) (gS len P j) len (gP len P F j) (gH len P F j) q
theorem cnt_0 {Pl : Int → Int} {k : Int} : ∀ (n : Nat), (∀ q : Int, 0 ≤ q → q < n → Pl q ≠ k) → cnt Pl k n = 0
  | 0, _ => rfl
  | n + 1, h => by
    have h1 := cnt_0 (Pl := Pl) (k := k) n (fun q a b => h q a (by omega))
    have h2 := h (n : Int) (by omega) (by omega)
    unfold cnt
    rw [h1, if_neg h2]
    rfl
theorem cnt_2 {Pl Pm : Int → Int} {k a b : Int} (hab : a ≠ b) : ∀ (n : Nat), (∀ q : Int, 0 ≤ q → q < n → (Pm q = k ↔ (Pl q = a ∨ Pl q = b))) → cnt Pm k n = cnt Pl a n + cnt Pl b n
  | 0, _ => rfl
  | n + 1, h => by
    have h1 := cnt_2 hab n (fun q c d => h q c (by omega))
    have h2 := h (n : Int) (by omega) (by omega)
    unfold cnt
    rw [h1]
    by_cases e1 : Pl (n : Int) = a
    · have e2 : ¬ Pl (n : Int) = b := fun e => hab (e1.symm.trans e)
      rw [if_pos (h2.mpr (Or.inl e1)), if_pos e1, if_neg e2]
      omega
    · by_cases e2 : Pl (n : Int) = b
      · rw [if_pos (h2.mpr (Or.inr e2)), if_neg e1, if_pos e2]
        omega
      · rw [if_neg (fun e => (h2.mp e).elim e1 e2), if_neg e1, if_neg e2]
        omega
/-- the stacks hold the cells as they lie -/
def geo (len sp : Int) (S C Pl Hl : Int → Int) : Prop :=
  stW sp S ∧ S sp = len ∧ (∀ q, 0 ≤ q → q < len → 0 ≤ Pl q ∧ Pl q < sp ∧ 0 ≤ Hl q ∧ Hl q < hgt sp S (Pl q) ∧ C (S (Pl q) + Hl q) = q) ∧
  (∀ k h, 0 ≤ h → h < hgt sp S k → 0 ≤ C (S k + h) ∧ C (S k + h) < len ∧ Pl (C (S k + h)) = k ∧ Hl (C (S k + h)) = h) ∧ (∀ k, hgt sp S k = cnt Pl k len.toNat)
theorem cnt_id {k : Int} : ∀ (n : Nat), cnt (fun q => q) k n = if 0 ≤ k ∧ k < n then 1 else 0
  | 0 => by unfold cnt; rw [if_neg (by omega)]
  | n + 1 => by
    unfold cnt
    rw [cnt_id n]
    by_cases h1 : (n : Int) = k
    · rw [if_neg (by omega), if_pos h1, if_pos (by omega)]
      rfl
    · rw [if_neg h1]
      by_cases h2 : 0 ≤ k ∧ k < n
      · rw [if_pos h2, if_pos (by omega)]
        rfl
      · rw [if_neg h2, if_neg (by omega)]
        rfl
theorem geo_flat {len : Int} {S C : Int → Int} (h0 : 1 ≤ len) (h1 : len ≤ 32) (hC : ∀ q, 0 ≤ q → q < len → C q = q) (hS : ∀ q, 0 ≤ q → q ≤ len → S q = q) : geo len len S C (fun q => q) (fun _ => 0) := by
  have hh : ∀ k, hgt len S k = if 0 ≤ k ∧ k < len then 1 else 0 := by
    intro k
    unfold hgt
    by_cases h : 0 ≤ k ∧ k < len
    · rw [if_pos h, if_pos h, hS k (by omega) (by omega), hS (k + 1) (by omega) (by omega)]
      omega
    · rw [if_neg h, if_neg h]
  refine ⟨⟨by omega, h1, hS 0 (by omega) (by omega), fun k a b => by rw [hS k a b]; omega, fun k a b => by rw [hS k a (by omega), hS (k + 1) (by omega) (by omega)]; omega⟩, hS len (by omega) (by omega), fun q a b => ?_, fun k h a b => ?_, fun k => ?_⟩
  · show 0 ≤ q ∧ q < len ∧ (0 : Int) ≤ 0 ∧ 0 < hgt len S q ∧ C (S q + 0) = q
    rw [hh q, if_pos ⟨a, b⟩, hS q a (by omega), show q + 0 = q by omega, hC q a b]
    exact ⟨a, b, by omega, by omega, rfl⟩
  · rw [hh k] at b
    by_cases h : 0 ≤ k ∧ k < len
    · rw [if_pos h] at b
      have e : h = h := rfl
      rw [hS k (by omega) (by omega)]
      rename_i hx
      have e0 : hx = 0 := by omega
      subst e0
      rw [show k + 0 = k by omega, hC k h.1 h.2]
      exact ⟨h.1, h.2, rfl, rfl⟩
    · rw [if_neg h] at b
      omega
  · rw [hh k, cnt_id]
    have e : ((len.toNat : Nat) : Int) = len := by omega
    rw [e]
theorem geo_step {len sp p f : Int} {S C Pl Hl N1 M1 Pm : Int → Int} (g : geo len sp S C Pl Hl) (hlen : 1 ≤ len) (hp : 1 ≤ p ∧ p < sp) (hPm : ∀ q, Pm q = (if gz f p (Pl q) then 2 * p - 1 - Pl q else Pl q) - lw p f sp)
    (ht : tnP sp S C p (lw p f sp) (max p (sp - p)) N1 M1) (he : M1 (max p (sp - p)) = tG sp S p (lw p f sp) (max p (sp - p))) : geo len (max p (sp - p)) M1 N1 Pm (hs f p sp len Pl Hl) := by
  obtain ⟨hW, hS, hA, hB, hN⟩ := g
  obtain ⟨t1, t2, t3⟩ := ht
  obtain ⟨s0, s1, s2, s3, s4⟩ := id hW
  have hlw : (f = 0 ∧ lw p f sp = min 0 (2 * p - sp)) ∨ (¬ f = 0 ∧ lw p f sp = p) := by
    unfold lw
    split
    · exact Or.inl ⟨by assumption, rfl⟩
    · exact Or.inr ⟨by assumption, rfl⟩
  generalize hlo : lw p f sp = low at *
  generalize hns : max p (sp - p) = ns at *
  have hM : ∀ k, 0 ≤ k → k ≤ ns → M1 k = tG sp S p low k := by
    intro k a b
    by_cases h : k < ns
    · exact t1 k a h
    · rw [show k = ns by omega]
      exact he
  have hr : ∀ k, 0 ≤ k → k ≤ ns → 0 ≤ tG sp S p low k ∧ tG sp S p low k ≤ 32 := fun k a b => hW.tGr a (by omega)
  have hh : ∀ k, 0 ≤ k → k < ns → hgt ns M1 k = hgt sp S (low + k) + hgt sp S (2 * p - 1 - (low + k)) := by
    intro k a b
    unfold hgt
    rw [if_pos ⟨a, b⟩, hM k a (by omega), hM (k + 1) (by omega) (by omega), hW.tGs p low k]
    unfold hgt
    omega
  have hout : ∀ k, ¬ (0 ≤ k ∧ k < ns) → hgt ns M1 k = 0 := fun k h => by unfold hgt; rw [if_neg h]
  have hPr : ∀ q, 0 ≤ q → q < len → 0 ≤ Pm q ∧ Pm q < ns := by
    intro q a b
    obtain ⟨a1, a2, -⟩ := hA q a b
    rw [hPm q]
    split <;> omega
  have hcn : ∀ x, (if 0 ≤ x ∧ x < sp then cnt Pl x len.toNat else 0) = hgt sp S x := by
    intro x
    split
    · exact (hN x).symm
    · unfold hgt; rw [if_neg (by assumption)]
  have hq : ∀ q, hs f p sp len Pl Hl q = if gz f p (Pl q) then hgt sp S (2 * p - 1 - Pl q) + hgt sp S (Pl q) - 1 - Hl q else Hl q := by
    intro q
    unfold hs
    rw [hcn, ← hN]
  have hW' : stW ns M1 := by
    refine ⟨by omega, by omega, ?_, fun k a b => ?_, fun k a b => ?_⟩
    · rw [hM 0 (by omega) (by omega), tG_0]
    · rw [hM k a b]
      exact hr k a b
    · rw [hM k a (by omega), hM (k + 1) (by omega) (by omega), hW.tGs p low k]
      have b1 := hW.hgt0 (low + k)
      have b2 := hW.hgt0 (2 * p - 1 - (low + k))
      omega
  refine ⟨hW', ?_, fun q a b => ?_, fun k h a b => ?_, fun k => ?_⟩
  · rw [he, ← hS]
    unfold tG Sc
    rcases hlw with ⟨e1, e2⟩ | ⟨e1, e2⟩
    · rw [show low + ns = p by omega, show 2 * p - low - ns = p by omega, if_pos (show low ≤ 0 by omega), if_neg (show ¬ 2 * p - low ≤ 0 by omega), if_pos (show sp ≤ 2 * p - low by omega)]
      omega
    · rw [if_neg (show ¬ low + ns ≤ 0 by omega), if_pos (show sp ≤ low + ns by omega), show 2 * p - low = low by omega, if_pos (show low - ns ≤ 0 by omega)]
      omega
  · obtain ⟨a1, a2, a3, a4, a5⟩ := hA q a b
    have a6 := hPr q a b
    have a7 := hPm q
    refine ⟨a6.1, a6.2, ?_⟩
    rw [hh _ a6.1 a6.2, hM _ a6.1 (by omega), hq q]
    by_cases hg : gz f p (Pl q)
    · rw [if_pos hg] at a7
      rw [if_pos hg, show low + Pm q = 2 * p - 1 - Pl q by omega, show 2 * p - 1 - (2 * p - 1 - Pl q) = Pl q by omega]
      have b1 := hW.hgt0 (2 * p - 1 - Pl q)
      have b2 := t3 (Pm q) (hgt sp S (Pl q) - 1 - Hl q) a6.1 a6.2 (by omega)
      rw [show low + Pm q = 2 * p - 1 - Pl q by omega, show 2 * p - 1 - (2 * p - 1 - Pl q) = Pl q by omega] at b2
      refine ⟨by omega, by omega, ?_⟩
      have b3 := b2 (by omega)
      rw [show hgt sp S (Pl q) - 1 - (hgt sp S (Pl q) - 1 - Hl q) = Hl q by omega, a5] at b3
      rw [← b3]
      congr 1
      omega
    · rw [if_neg hg] at a7
      rw [if_neg hg, show low + Pm q = Pl q by omega]
      have b1 := hW.hgt0 (2 * p - 1 - Pl q)
      have b2 := t2 (Pm q) (Hl q) a6.1 a6.2 a3
      rw [show low + Pm q = Pl q by omega] at b2
      refine ⟨a3, by omega, ?_⟩
      rw [b2 a4, a5]
  · by_cases hk : 0 ≤ k ∧ k < ns
    · rw [hh k hk.1 hk.2] at b
      rw [hM k hk.1 (by omega)]
      by_cases hx : h < hgt sp S (low + k)
      · have c1 := t2 k h hk.1 hk.2 a hx
        obtain ⟨d1, d2, d3, d4⟩ := hB (low + k) h a hx
        rw [c1]
        have hin : 0 ≤ low + k ∧ low + k < sp := by unfold hgt at hx; split at hx <;> omega
        have hng : ¬ gz f p (Pl (C (S (low + k) + h))) := by rw [d3]; omega
        refine ⟨d1, d2, ?_, ?_⟩
        · rw [hPm, if_neg hng, d3]; omega
        · rw [hq, if_neg hng, d4]
      · have c1 := t3 k (h - hgt sp S (low + k)) hk.1 hk.2 (by omega) (by omega)
        rw [show tG sp S p low k + hgt sp S (low + k) + (h - hgt sp S (low + k)) = tG sp S p low k + h by omega] at c1
        obtain ⟨d1, d2, d3, d4⟩ := hB (2 * p - 1 - (low + k)) (hgt sp S (2 * p - 1 - (low + k)) - 1 - (h - hgt sp S (low + k))) (by omega) (by omega)
        rw [c1]
        have hin : 0 ≤ 2 * p - 1 - (low + k) ∧ 2 * p - 1 - (low + k) < sp := by
          have hb2 : 0 < hgt sp S (2 * p - 1 - (low + k)) := by omega
          unfold hgt at hb2
          split at hb2 <;> omega
        have hg : gz f p (Pl (C (S (2 * p - 1 - (low + k)) + (hgt sp S (2 * p - 1 - (low + k)) - 1 - (h - hgt sp S (low + k)))))) := by rw [d3]; omega
        refine ⟨d1, d2, ?_, ?_⟩
        · rw [hPm, if_pos hg, d3]; omega
        · rw [hq, if_pos hg, d4, d3, show 2 * p - 1 - (2 * p - 1 - (low + k)) = low + k by omega]; omega
    · rw [hout k hk] at b
      omega
  · by_cases hk : 0 ≤ k ∧ k < ns
    · rw [hh k hk.1 hk.2, hN, hN]
      refine (cnt_2 (by omega) _ (fun q c d => ?_)).symm
      obtain ⟨a1, a2, -⟩ := hA q c (by omega)
      rw [hPm q]
      by_cases hg : gz f p (Pl q)
      · rw [if_pos hg]
        constructor
        · intro e; right; omega
        · intro e; rcases e with e | e <;> omega
      · rw [if_neg hg]
        constructor
        · intro e; left; omega
        · intro e; rcases e with e | e <;> omega
    · rw [hout k hk]
      refine (cnt_0 _ (fun q c d e => hk ?_)).symm
      have := hPr q c (by omega)
      omega
end
