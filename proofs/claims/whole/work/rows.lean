section
-- ===== PART A: goes FIRST, ahead of the names: the tables' words, and 'selects' of the private methods out of them =====
/-- a private method of a class that the tables say can be made, by its rows of tables_1 -/
def lw_okq (q : MethodName × Nat) : Prop := (q.1.cls ≠ "java/lang/invoke/MethodHandle" ∧ q.1.cls ≠ "java/lang/invoke/VarHandle") ∧ Cond.instantiable q.1.cls q.2 ∈ tables_1 ∧ Cond.privateMethod q.1 ∈ tables_1 ∧ Cond.instanceMethod q.1 ∈ tables_1
theorem lw_p0 : lw_okq (⟨"PaperGuild$Mill", "fillFewest", "()V"⟩, 4) := ⟨⟨by decide +kernel, by decide +kernel⟩, List.mem_of_getElem? (i := 45) (by decide +kernel), List.mem_of_getElem? (i := 103) (by decide +kernel), List.mem_of_getElem? (i := 104) (by decide +kernel)⟩
theorem lw_p1 : lw_okq (⟨"PaperGuild$Mill", "fewestFor", "(I)I"⟩, 4) := ⟨⟨by decide +kernel, by decide +kernel⟩, List.mem_of_getElem? (i := 45) (by decide +kernel), List.mem_of_getElem? (i := 107) (by decide +kernel), List.mem_of_getElem? (i := 108) (by decide +kernel)⟩
theorem lw_p2 : lw_okq (⟨"PaperGuild$Mill", "isDemanded", "(I)Z"⟩, 4) := ⟨⟨by decide +kernel, by decide +kernel⟩, List.mem_of_getElem? (i := 45) (by decide +kernel), List.mem_of_getElem? (i := 111) (by decide +kernel), List.mem_of_getElem? (i := 112) (by decide +kernel)⟩
theorem lw_p3 : lw_okq (⟨"PaperGuild$Mill", "addWaysWith", "(I)V"⟩, 4) := ⟨⟨by decide +kernel, by decide +kernel⟩, List.mem_of_getElem? (i := 45) (by decide +kernel), List.mem_of_getElem? (i := 126) (by decide +kernel), List.mem_of_getElem? (i := 127) (by decide +kernel)⟩
theorem lw_p4 : lw_okq (⟨"PaperGuild", "checkKind", "(I)V"⟩, 8) := ⟨⟨by decide +kernel, by decide +kernel⟩, List.mem_of_getElem? (i := 16) (by decide +kernel), List.mem_of_getElem? (i := 148) (by decide +kernel), List.mem_of_getElem? (i := 149) (by decide +kernel)⟩
theorem lw_p5 : lw_okq (⟨"java/lang/Throwable", "fillInStackTrace", "(I)Ljava/lang/Throwable;"⟩, 6) := ⟨⟨by decide +kernel, by decide +kernel⟩, List.mem_of_getElem? (i := 190) (by decide +kernel), List.mem_of_getElem? (i := 188) (by decide +kernel), List.mem_of_getElem? (i := 189) (by decide +kernel)⟩
theorem lw_p6 : lw_okq (⟨"PaperGuild", "checkAuthor", "(I)V"⟩, 8) := ⟨⟨by decide +kernel, by decide +kernel⟩, List.mem_of_getElem? (i := 16) (by decide +kernel), List.mem_of_getElem? (i := 249) (by decide +kernel), List.mem_of_getElem? (i := 250) (by decide +kernel)⟩
theorem lw_p7 : lw_okq (⟨"PaperGuild", "modelAt", "(I)LPaperGuild$Model;"⟩, 8) := ⟨⟨by decide +kernel, by decide +kernel⟩, List.mem_of_getElem? (i := 16) (by decide +kernel), List.mem_of_getElem? (i := 350) (by decide +kernel), List.mem_of_getElem? (i := 351) (by decide +kernel)⟩
theorem lw_p8 : lw_okq (⟨"PaperGuild", "checkModel", "(I)V"⟩, 8) := ⟨⟨by decide +kernel, by decide +kernel⟩, List.mem_of_getElem? (i := 16) (by decide +kernel), List.mem_of_getElem? (i := 354) (by decide +kernel), List.mem_of_getElem? (i := 355) (by decide +kernel)⟩
theorem lw_p9 : lw_okq (⟨"PaperGuild$Stacks", "copyUpwards", "(I)V"⟩, 6) := ⟨⟨by decide +kernel, by decide +kernel⟩, List.mem_of_getElem? (i := 276) (by decide +kernel), List.mem_of_getElem? (i := 377) (by decide +kernel), List.mem_of_getElem? (i := 378) (by decide +kernel)⟩
theorem lw_p10 : lw_okq (⟨"PaperGuild$Stacks", "isPlace", "(I)Z"⟩, 6) := ⟨⟨by decide +kernel, by decide +kernel⟩, List.mem_of_getElem? (i := 276) (by decide +kernel), List.mem_of_getElem? (i := 385) (by decide +kernel), List.mem_of_getElem? (i := 386) (by decide +kernel)⟩
theorem lw_p11 : lw_okq (⟨"PaperGuild$Stacks", "copyCell", "(II)V"⟩, 6) := ⟨⟨by decide +kernel, by decide +kernel⟩, List.mem_of_getElem? (i := 276) (by decide +kernel), List.mem_of_getElem? (i := 389) (by decide +kernel), List.mem_of_getElem? (i := 390) (by decide +kernel)⟩
theorem lw_p12 : lw_okq (⟨"PaperGuild$Stacks", "copyDownwards", "(I)V"⟩, 6) := ⟨⟨by decide +kernel, by decide +kernel⟩, List.mem_of_getElem? (i := 276) (by decide +kernel), List.mem_of_getElem? (i := 397) (by decide +kernel), List.mem_of_getElem? (i := 398) (by decide +kernel)⟩
theorem lw_p13 : lw_okq (⟨"PaperGuild$Stacks", "swapRows", "()V"⟩, 6) := ⟨⟨by decide +kernel, by decide +kernel⟩, List.mem_of_getElem? (i := 276) (by decide +kernel), List.mem_of_getElem? (i := 401) (by decide +kernel), List.mem_of_getElem? (i := 402) (by decide +kernel)⟩
theorem lw_p14 : lw_okq (⟨"PaperGuild", "modelsCountedFor", "(I)I"⟩, 8) := ⟨⟨by decide +kernel, by decide +kernel⟩, List.mem_of_getElem? (i := 16) (by decide +kernel), List.mem_of_getElem? (i := 424) (by decide +kernel), List.mem_of_getElem? (i := 425) (by decide +kernel)⟩
theorem lw_p15 : lw_okq (⟨"PaperGuild", "checkPupil", "(I)V"⟩, 8) := ⟨⟨by decide +kernel, by decide +kernel⟩, List.mem_of_getElem? (i := 16) (by decide +kernel), List.mem_of_getElem? (i := 445) (by decide +kernel), List.mem_of_getElem? (i := 446) (by decide +kernel)⟩
def lw_privs_1 : List (MethodName × Nat) := [(⟨"PaperGuild$Mill", "fillFewest", "()V"⟩, 4), (⟨"PaperGuild$Mill", "fewestFor", "(I)I"⟩, 4), (⟨"PaperGuild$Mill", "isDemanded", "(I)Z"⟩, 4), (⟨"PaperGuild$Mill", "addWaysWith", "(I)V"⟩, 4), (⟨"PaperGuild", "checkKind", "(I)V"⟩, 8), (⟨"java/lang/Throwable", "fillInStackTrace", "(I)Ljava/lang/Throwable;"⟩, 6), (⟨"PaperGuild", "checkAuthor", "(I)V"⟩, 8), (⟨"PaperGuild", "modelAt", "(I)LPaperGuild$Model;"⟩, 8), (⟨"PaperGuild", "checkModel", "(I)V"⟩, 8), (⟨"PaperGuild$Stacks", "copyUpwards", "(I)V"⟩, 6), (⟨"PaperGuild$Stacks", "isPlace", "(I)Z"⟩, 6), (⟨"PaperGuild$Stacks", "copyCell", "(II)V"⟩, 6), (⟨"PaperGuild$Stacks", "copyDownwards", "(I)V"⟩, 6), (⟨"PaperGuild$Stacks", "swapRows", "()V"⟩, 6), (⟨"PaperGuild", "modelsCountedFor", "(I)I"⟩, 8), (⟨"PaperGuild", "checkPupil", "(I)V"⟩, 8)]
theorem lw_r1 : ∀ q ∈ lw_privs_1, lw_okq q := List.forall_mem_cons.mpr ⟨lw_p0, List.forall_mem_cons.mpr ⟨lw_p1, List.forall_mem_cons.mpr ⟨lw_p2, List.forall_mem_cons.mpr ⟨lw_p3, List.forall_mem_cons.mpr ⟨lw_p4, List.forall_mem_cons.mpr ⟨lw_p5, List.forall_mem_cons.mpr ⟨lw_p6, List.forall_mem_cons.mpr ⟨lw_p7, List.forall_mem_cons.mpr ⟨lw_p8, List.forall_mem_cons.mpr ⟨lw_p9, List.forall_mem_cons.mpr ⟨lw_p10, List.forall_mem_cons.mpr ⟨lw_p11, List.forall_mem_cons.mpr ⟨lw_p12, List.forall_mem_cons.mpr ⟨lw_p13, List.forall_mem_cons.mpr ⟨lw_p14, List.forall_mem_cons.mpr ⟨lw_p15, fun _ h => absurd h List.not_mem_nil⟩⟩⟩⟩⟩⟩⟩⟩⟩⟩⟩⟩⟩⟩⟩⟩
theorem lw_p16 : lw_okq (⟨"PaperGuild", "checkCell", "(LPaperGuild$Model;I)V"⟩, 8) := ⟨⟨by decide +kernel, by decide +kernel⟩, List.mem_of_getElem? (i := 16) (by decide +kernel), List.mem_of_getElem? (i := 500) (by decide +kernel), List.mem_of_getElem? (i := 501) (by decide +kernel)⟩
theorem lw_p17 : lw_okq (⟨"PaperGuild$Follower", "takeStep", "(IZ)V"⟩, 3) := ⟨⟨by decide +kernel, by decide +kernel⟩, List.mem_of_getElem? (i := 26) (by decide +kernel), List.mem_of_getElem? (i := 509) (by decide +kernel), List.mem_of_getElem? (i := 510) (by decide +kernel)⟩
theorem lw_p18 : lw_okq (⟨"PaperGuild", "kindsCountedFor", "(I)I"⟩, 8) := ⟨⟨by decide +kernel, by decide +kernel⟩, List.mem_of_getElem? (i := 16) (by decide +kernel), List.mem_of_getElem? (i := 545) (by decide +kernel), List.mem_of_getElem? (i := 546) (by decide +kernel)⟩
theorem lw_p19 : lw_okq (⟨"PaperGuild", "modelsOf", "(I)I"⟩, 8) := ⟨⟨by decide +kernel, by decide +kernel⟩, List.mem_of_getElem? (i := 16) (by decide +kernel), List.mem_of_getElem? (i := 570) (by decide +kernel), List.mem_of_getElem? (i := 571) (by decide +kernel)⟩
theorem lw_p20 : lw_okq (⟨"PaperGuildModel", "closed", "(I)I"⟩, 20) := ⟨⟨by decide +kernel, by decide +kernel⟩, List.mem_of_getElem? (i := 574) (by decide +kernel), List.mem_of_getElem? (i := 652) (by decide +kernel), List.mem_of_getElem? (i := 653) (by decide +kernel)⟩
theorem lw_p21 : lw_okq (⟨"PaperGuildModel", "fails", "(I)I"⟩, 20) := ⟨⟨by decide +kernel, by decide +kernel⟩, List.mem_of_getElem? (i := 574) (by decide +kernel), List.mem_of_getElem? (i := 656) (by decide +kernel), List.mem_of_getElem? (i := 657) (by decide +kernel)⟩
theorem lw_p22 : lw_okq (⟨"PaperGuildModel", "folds", "(I)V"⟩, 20) := ⟨⟨by decide +kernel, by decide +kernel⟩, List.mem_of_getElem? (i := 574) (by decide +kernel), List.mem_of_getElem? (i := 668) (by decide +kernel), List.mem_of_getElem? (i := 669) (by decide +kernel)⟩
theorem lw_p23 : lw_okq (⟨"PaperGuildModel", "counts", "(I)V"⟩, 20) := ⟨⟨by decide +kernel, by decide +kernel⟩, List.mem_of_getElem? (i := 574) (by decide +kernel), List.mem_of_getElem? (i := 672) (by decide +kernel), List.mem_of_getElem? (i := 673) (by decide +kernel)⟩
theorem lw_p24 : lw_okq (⟨"PaperGuildModel", "makes", "(IIZ)V"⟩, 20) := ⟨⟨by decide +kernel, by decide +kernel⟩, List.mem_of_getElem? (i := 574) (by decide +kernel), List.mem_of_getElem? (i := 676) (by decide +kernel), List.mem_of_getElem? (i := 677) (by decide +kernel)⟩
theorem lw_p25 : lw_okq (⟨"PaperGuildModel", "ownKinds", "(I)I"⟩, 20) := ⟨⟨by decide +kernel, by decide +kernel⟩, List.mem_of_getElem? (i := 574) (by decide +kernel), List.mem_of_getElem? (i := 680) (by decide +kernel), List.mem_of_getElem? (i := 681) (by decide +kernel)⟩
theorem lw_p26 : lw_okq (⟨"PaperGuildModel", "isModel", "(I)Z"⟩, 20) := ⟨⟨by decide +kernel, by decide +kernel⟩, List.mem_of_getElem? (i := 574) (by decide +kernel), List.mem_of_getElem? (i := 688) (by decide +kernel), List.mem_of_getElem? (i := 689) (by decide +kernel)⟩
theorem lw_p27 : lw_okq (⟨"PaperGuildModel", "used", "(I)I"⟩, 20) := ⟨⟨by decide +kernel, by decide +kernel⟩, List.mem_of_getElem? (i := 574) (by decide +kernel), List.mem_of_getElem? (i := 696) (by decide +kernel), List.mem_of_getElem? (i := 697) (by decide +kernel)⟩
theorem lw_p28 : lw_okq (⟨"PaperGuildModel", "layersOf", "(I)I"⟩, 20) := ⟨⟨by decide +kernel, by decide +kernel⟩, List.mem_of_getElem? (i := 574) (by decide +kernel), List.mem_of_getElem? (i := 728) (by decide +kernel), List.mem_of_getElem? (i := 729) (by decide +kernel)⟩
theorem lw_p29 : lw_okq (⟨"PaperGuildModel", "isCell", "(II)Z"⟩, 20) := ⟨⟨by decide +kernel, by decide +kernel⟩, List.mem_of_getElem? (i := 574) (by decide +kernel), List.mem_of_getElem? (i := 740) (by decide +kernel), List.mem_of_getElem? (i := 741) (by decide +kernel)⟩
theorem lw_p30 : lw_okq (⟨"PaperGuildModel", "kindsFor", "(I)I"⟩, 20) := ⟨⟨by decide +kernel, by decide +kernel⟩, List.mem_of_getElem? (i := 574) (by decide +kernel), List.mem_of_getElem? (i := 760) (by decide +kernel), List.mem_of_getElem? (i := 761) (by decide +kernel)⟩
theorem lw_p31 : lw_okq (⟨"PaperGuildModel", "isExam", "(II)Z"⟩, 20) := ⟨⟨by decide +kernel, by decide +kernel⟩, List.mem_of_getElem? (i := 574) (by decide +kernel), List.mem_of_getElem? (i := 768) (by decide +kernel), List.mem_of_getElem? (i := 769) (by decide +kernel)⟩
def lw_privs_2 : List (MethodName × Nat) := [(⟨"PaperGuild", "checkCell", "(LPaperGuild$Model;I)V"⟩, 8), (⟨"PaperGuild$Follower", "takeStep", "(IZ)V"⟩, 3), (⟨"PaperGuild", "kindsCountedFor", "(I)I"⟩, 8), (⟨"PaperGuild", "modelsOf", "(I)I"⟩, 8), (⟨"PaperGuildModel", "closed", "(I)I"⟩, 20), (⟨"PaperGuildModel", "fails", "(I)I"⟩, 20), (⟨"PaperGuildModel", "folds", "(I)V"⟩, 20), (⟨"PaperGuildModel", "counts", "(I)V"⟩, 20), (⟨"PaperGuildModel", "makes", "(IIZ)V"⟩, 20), (⟨"PaperGuildModel", "ownKinds", "(I)I"⟩, 20), (⟨"PaperGuildModel", "isModel", "(I)Z"⟩, 20), (⟨"PaperGuildModel", "used", "(I)I"⟩, 20), (⟨"PaperGuildModel", "layersOf", "(I)I"⟩, 20), (⟨"PaperGuildModel", "isCell", "(II)Z"⟩, 20), (⟨"PaperGuildModel", "kindsFor", "(I)I"⟩, 20), (⟨"PaperGuildModel", "isExam", "(II)Z"⟩, 20)]
theorem lw_r2 : ∀ q ∈ lw_privs_2, lw_okq q := List.forall_mem_cons.mpr ⟨lw_p16, List.forall_mem_cons.mpr ⟨lw_p17, List.forall_mem_cons.mpr ⟨lw_p18, List.forall_mem_cons.mpr ⟨lw_p19, List.forall_mem_cons.mpr ⟨lw_p20, List.forall_mem_cons.mpr ⟨lw_p21, List.forall_mem_cons.mpr ⟨lw_p22, List.forall_mem_cons.mpr ⟨lw_p23, List.forall_mem_cons.mpr ⟨lw_p24, List.forall_mem_cons.mpr ⟨lw_p25, List.forall_mem_cons.mpr ⟨lw_p26, List.forall_mem_cons.mpr ⟨lw_p27, List.forall_mem_cons.mpr ⟨lw_p28, List.forall_mem_cons.mpr ⟨lw_p29, List.forall_mem_cons.mpr ⟨lw_p30, List.forall_mem_cons.mpr ⟨lw_p31, fun _ h => absurd h List.not_mem_nil⟩⟩⟩⟩⟩⟩⟩⟩⟩⟩⟩⟩⟩⟩⟩⟩
theorem lw_p32 : lw_okq (⟨"PaperGuildModel", "fewest", "()V"⟩, 20) := ⟨⟨by decide +kernel, by decide +kernel⟩, List.mem_of_getElem? (i := 574) (by decide +kernel), List.mem_of_getElem? (i := 784) (by decide +kernel), List.mem_of_getElem? (i := 785) (by decide +kernel)⟩
def lw_privs_3 : List (MethodName × Nat) := [(⟨"PaperGuildModel", "fewest", "()V"⟩, 20)]
theorem lw_r3 : ∀ q ∈ lw_privs_3, lw_okq q := List.forall_mem_cons.mpr ⟨lw_p32, fun _ h => absurd h List.not_mem_nil⟩
def lw_privs : List (MethodName × Nat) := lw_privs_1 ++ (lw_privs_2 ++ (lw_privs_3))
def lw_tbl : List Cond := k2_sels lw_privs ++ tables_1
theorem lw_privs_ok : ∀ q ∈ lw_privs, lw_okq q := by
  show ∀ q ∈ lw_privs_1 ++ (lw_privs_2 ++ (lw_privs_3)), lw_okq q
  exact List.forall_mem_append.mpr ⟨lw_r1, List.forall_mem_append.mpr ⟨lw_r2, lw_r3⟩⟩
-- ===== end of PART A; then your names; then what follows =====
end
section
/-! ===== BEGIN words of one list among another's, by their places ===== -/
theorem goodIn_r {big : List Cond} (ws : List Cond) (ps : List Nat) (hp : ws = ps.filterMap (fun i => big[i]?)) (h : ws.all goodWord = true) : GoodIn big ws := by
  intro w hw
  have h1 := List.all_eq_true.mp h w hw
  rw [hp] at hw
  obtain ⟨i, -, hi⟩ := List.mem_filterMap.mp hw
  have hm : w ∈ big := by first | exact List.mem_of_getElem? hi | exact List.getElem?_mem hi
  exact ⟨hm, good_of_word h1⟩
theorem goodIn_app {big a b : List Cond} (ha : GoodIn big a) (hb : GoodIn big b) : GoodIn big (a ++ b) := fun w h => (List.mem_append.mp h).elim (ha w) (hb w)
theorem goodIn_ca {big a b : List Cond} {c : Cond} (ha : GoodIn big (c :: a)) (hb : GoodIn big b) : GoodIn big (c :: (a ++ b)) := fun w h => (List.mem_cons.mp h).elim (fun e => ha w (List.mem_cons.mpr (Or.inl e))) (fun h => (List.mem_append.mp h).elim (fun h => ha w (List.mem_cons.mpr (Or.inr h))) (hb w))
theorem goodIn_sub {big ws : List Cond} (hm : ∀ w ∈ ws, w ∈ big) (h : ws.all goodWord = true) : GoodIn big ws := fun w hw => ⟨hm w hw, good_of_word (List.all_eq_true.mp h w hw)⟩
/-! ===== END ===== -/

/-! ===== BEGIN exceptions that leave a method, and their catching by the caller (launches without stack traces) ===== -/
section VXA
/-! The laws vx_back, vx_callV, vx_callS, vx_callSW, vx_throw0, vx_throwS follow proofs of the library, with one case more: JvmDerived/Free/Laws.lean (Back.of_free), Shelf42/LK1.lean (callV, callS), Shelf/KitTraced.lean (throwNew0V, throwNewS). -/
/-- where a method has thrown q: the class by its name, the cell, what was written, the world -/
def vx_T (XC : String → State → State → Prop) (st : State) (q : Addr) (t : State) (mc ms : Nat) (free : Addr → Prop) : Prop :=
  ∃ (E : String) (ce : Cell) (L : List Loc), XC E st t ∧ t.heap[q]? = some ce ∧ ce.vm = .none ∧ st.vm.findClass E = some ce.cls ∧ st.WarmedH t.vm ∧ st.sameButNew ({ t with vm := st.vm } : State) L mc ms ∧ ∀ z ∈ L, free z.base
def vx_Q (Qc : Array Value → State → Outcome → State → Prop) (XC : String → State → State → Prop) (mc ms : Nat) (free : Addr → Prop) : Array Value → State → Outcome → State → Prop := fun a st o t =>
  (Qc a st o t ∧ ∃ L, FrameEnd st o t L mc ms ∧ ∀ q ∈ L, free q.base) ∨ ∃ q, o = .threw q ∧ vx_T XC st q t mc ms free
/-- a callee that returns or throws -/
def vx_Met (l : Launch) (y : MethodName) (ws : List Cond) (rm : Room) (Pc : Array Value → State → Prop) (Qc : Array Value → State → Outcome → State → Prop) (XC : String → State → State → Prop) (mc ms : Nat) (free : Addr → Prop) : Prop :=
  MetFree l y (headSpec ws rm) Pc (fun _ _ _ _ _ => True) (vx_Q Qc XC mc ms free)
def vx_Post (XC : String → State → State → Prop) (mc ms : Nat) (free : Addr → Prop) : Pt → Array Value → Addr → Pt → Prop := fun A a q B =>
  ∃ (g : JFrame) (mk : MethodId) (t : State) (L : List Loc) (E : String) (ce : Cell), B.U.heap = t.heap ∧ B.U.vm = t.vm ∧ XC E (A.U.calling g mk a) t ∧ t.heap[q]? = some ce ∧ ce.vm = .none ∧ A.U.vm.findClass E = some ce.cls ∧ B.locs = A.locs ++ L ∧ (∀ z ∈ L, free z.base) ∧ B.cells = A.cells + mc ∧ B.slots = A.slots + ms
def vx_Back (l : Launch) (R : Room) (p : Program) (e : Env) (below : List Frame) (s : State) (sargs : Array Value) (y : MethodName) (len W9 : Nat)
    (Pre : Pt → Array Value → Prop) (Post : Pt → Array Value → Option Value → Pt → Prop) (PostX : Pt → Array Value → Addr → Pt → Prop) : Prop :=
  ∀ (m : MethodId) (meth : Method) (c : Code) (A : Pt) (g : JFrame) (ig : Instr) (mk : MethodId) (a : Array Value),
    Stand p l e R s m sargs below meth c A.U A.locs A.cells A.slots → g.method = m → g.locals.size = c.maxLocals → decode c.code g.pc = .ok (ig, len) →
    2 * g.monitorRoom + (g.stack.map fun v => v.category).sum ≤ W9 → A.U.methodNamed? y = some mk → Pre A a →
    (∃ (v : Option Value) (B : Pt), Stand p l e R s m sargs below meth c B.U B.locs B.cells B.slots ∧ Post A a v B ∧
      Steps p.tables e below (doInvoke e (A.U.setTop g) [] mk a).1 (B.U.setTop { g with pc := g.pc + len, stack := v.toList ++ g.stack })) ∨
    (∃ (q : Addr) (B : Pt), Stand p l e R s m sargs below meth c B.U B.locs B.cells B.slots ∧ PostX A a q B ∧
      Steps p.tables e below (doInvoke e (A.U.setTop g) [] mk a).1 ((B.U.setTop g).pushFrame (.throwing q)))
section Payer
variable {l : Launch} {R : Room} {p : Program} {e : Env} {below : List Frame} {s : State} {sargs : Array Value} {y : MethodName} {len W9 : Nat}
theorem vx_back {ws : List Cond} {rm : Room} {Pc : Array Value → State → Prop} {Qc : Array Value → State → Outcome → State → Prop} {XC : String → State → State → Prop} {mc ms : Nat} {free : Addr → Prop} {bytes : ByteArray} {maxL : Nat} {ret : Option FieldType}
    (hM : vx_Met l y ws rm Pc Qc XC mc ms free) (hblind : FrameBlind Pc) (hrc : rm.cells = mc) (hrs : rm.slots = ms)
    (hframes : rm.frames + 1 ≤ R.frames) (hlocals : W9 + (maxL + 11) + rm.locals ≤ R.locals)
    (hws : ∀ w ∈ ws, ∀ a' U, s.WarmedH U.vm → w.before a' U = true) (hcode : Cond.code y bytes maxL ret ∈ ws) (hinit : ∀ a' U, s.WarmedH U.vm → (Cond.initialized y.cls).before a' U = true) :
    vx_Back l R p e below s sargs y len W9 (PreOf R mc ms Pc) (PostOf Qc mc ms free) (vx_Post XC mc ms free) := by
  intro m meth c A g ig mk a X hg hsize hdg hW hn hp
  have h1 : (headSpec ws rm).pre.before a A.U = true := atoms_intro fun w hw => hws w hw _ _ X.warmed
  have h2 : (Cond.code y bytes maxL ret).before a A.U = true := hws _ hcode _ _ X.warmed
  have h3 : (Cond.initialized y.cls).before a A.U = true := hinit _ _ X.warmed
  have h4 : A.cells + (headSpec ws rm).room.cells ≤ R.cells := by rw [show (headSpec ws rm).room.cells = mc from hrc]; exact hp.1
  have h5 : A.slots + (headSpec ws rm).room.slots ≤ R.slots := by rw [show (headSpec ws rm).room.slots = ms from hrs]; exact hp.2.1
  have hPc : Pc a (A.U.calling g mk a) := hblind _ _ _ _ hp.2.2
  obtain ⟨U, Ls, c0, s0⟩ := A
  dsimp only [Pt.U, Pt.locs, Pt.cells, Pt.slots] at h1 h2 h3 h4 h5 X hn hPc ⊢
  obtain ⟨methY, cY, hmY, hcY, -, hlY, -, -, -, -⟩ := Cond.code_spec hn h2
  obtain ⟨kY, hkY, -⟩ := className_of_methodNamed hn
  have hinitY : kY.init = .initialized := Cond.initialized_spec (findClass_of_methodNamed hn) hkY h3
  have h : At U g.method c below := by rw [hg]; exact X.here
  have hlocals9 : W9 + (maxL + 11) + (headSpec ws rm).room.locals ≤ R.locals := hlocals
  have happ : (headSpec ws rm).appliesLoose y e.platform (U.calling g mk a) = true :=
    Spec.appliesLoose_calling (g := g) h hdg hn hkY hinitY
      (X.room_calling (g := g) (R' := (headSpec ws rm).room) hsize hmY hcY hframes (by rw [hlY]; omega) h4 h5) h1
  obtain ⟨mid, hmid⟩ := h.above
  have hfr : (U.setTop g).frames = (.java g :: mid) ++ below := by rw [State.frames_setTop' g h.top, hmid]; rfl
  obtain ⟨o, s₂, hsteps, -, hend, hq⟩ := Steps.callFree hM p X.admits X.cas X.clock (acts := []) hfr happ hPc trivial
  have hq' : vx_Q Qc XC mc ms free a (U.calling g mk a) o s₂ := hq
  rw [State.frames_setTop' g h.top] at hend
  obtain ⟨g₀, hg0⟩ := Option.isSome_iff_exists.mp h.top
  obtain ⟨r, hr⟩ := State.topJava?_eq_some.mp hg0
  have hr' : (({ U with heap := s₂.heap, slotsUsed := s₂.slotsUsed } : State).setVm s₂.vm).frames = .java g₀ :: r := hr
  rcases hq' with ⟨hqc, L, hfe, hL⟩ | ⟨q, rfl, E, ce, L, hx, hce, hcv, hcl, hW₂, hsm, hL⟩
  · obtain ⟨⟨v, rfl⟩, hW₂, e2, q2, q3, q4, q5, q6⟩ := id hfe
    have e3 : s₂ = ({ (U.calling g mk a).setFrames s₂.frames with heap := s₂.heap, slotsUsed := s₂.slotsUsed } : State).setVm s₂.vm := by
      have : s₂ = ({ s₂ with vm := (U.calling g mk a).vm } : State).setVm s₂.vm := rfl
      rw [e2] at this
      exact this
    obtain ⟨c₂, i₂, len₂, hc₂, hd₂, hf₂⟩ := hend
    have hW' : U.WarmedH s₂.vm := hW₂
    have hcc : c₂ = c := by
      have h1 : s₂.code? g.method = U.code? g.method := by
        rw [State.code?_eq, State.code?_eq, hW'.alike.method?]
      exact Option.some.inj (hc₂.symm.trans (h1.trans h.code))
    subst hcc
    have hlen : len₂ = len := by rw [hdg] at hd₂; cases hd₂; rfl
    subst hlen
    have hs₂ : s₂ = (({ U with heap := s₂.heap, slotsUsed := s₂.slotsUsed } : State).setVm s₂.vm).setTop { g with pc := g.pc + len₂, stack := v.toList ++ g.stack } := by
      refine e3.trans ?_
      rw [hf₂, State.calling_eq h.top, State.setFrames_setFrames, State.setTop_of_frames _ hr', hr]
      rfl
    have hsame : U.sameButNew ({ U with heap := s₂.heap, slotsUsed := s₂.slotsUsed } : State) L mc ms := by
      refine ⟨?_, q2, q3, q4, q5, q6⟩
      obtain ⟨t, ht, -⟩ := State.frames_cons hr
      show ({ U with heap := s₂.heap, slotsUsed := s₂.slotsUsed } : State) = { U.setFrames U.frames with heap := s₂.heap, slotsUsed := s₂.slotsUsed }
      rw [State.setFrames_self ht]
    subst hg
    refine Or.inl ⟨v, ⟨(({ U with heap := s₂.heap, slotsUsed := s₂.slotsUsed } : State).setVm s₂.vm), Ls ++ L, c0 + mc, s0 + ms⟩,
      ⟨X.admits, X.cas, X.clock, X.frames, X.room, X.hears, X.method, X.code, (X.here.setHeapUsed s₂.heap s₂.slotsUsed).setVm hW'.alike, X.tail, State.WarmedH.trans X.warmed hW', X.limits, X.bytes, X.same.trans (hsame.setVm s.vm)⟩,
      ⟨g, mk, s₂, L, rfl, rfl, hqc, rfl, hL, rfl, rfl⟩, ?_⟩
    show Steps p.tables e below _ ((({ U with heap := s₂.heap, slotsUsed := s₂.slotsUsed } : State).setVm s₂.vm).setTop { g with pc := g.pc + len₂, stack := v.toList ++ g.stack })
    rw [← hs₂]
    exact hsteps
  · obtain ⟨e2, q2, q3, q4, q5, q6⟩ := id hsm
    have e3 : s₂ = ({ (U.calling g mk a).setFrames s₂.frames with heap := s₂.heap, slotsUsed := s₂.slotsUsed } : State).setVm s₂.vm := by
      have : s₂ = ({ s₂ with vm := (U.calling g mk a).vm } : State).setVm s₂.vm := rfl
      rw [e2] at this
      exact this
    have hf₂ : s₂.frames = .throwing q :: .java g :: U.frames.tail := hend
    have hW' : U.WarmedH s₂.vm := hW₂
    have hs₂ : s₂ = ((({ U with heap := s₂.heap, slotsUsed := s₂.slotsUsed } : State).setVm s₂.vm).setTop g).pushFrame (.throwing q) := by
      refine e3.trans ?_
      rw [hf₂, State.calling_eq h.top, State.setFrames_setFrames, State.pushFrame, State.frames_setTop _ hr', State.setTop_of_frames _ hr', State.setFrames_setFrames, hr]
      rfl
    have hsame : U.sameButNew ({ U with heap := s₂.heap, slotsUsed := s₂.slotsUsed } : State) L mc ms := by
      refine ⟨?_, q2, q3, q4, q5, q6⟩
      obtain ⟨t, ht, -⟩ := State.frames_cons hr
      show ({ U with heap := s₂.heap, slotsUsed := s₂.slotsUsed } : State) = { U.setFrames U.frames with heap := s₂.heap, slotsUsed := s₂.slotsUsed }
      rw [State.setFrames_self ht]
    subst hg
    refine Or.inr ⟨q, ⟨(({ U with heap := s₂.heap, slotsUsed := s₂.slotsUsed } : State).setVm s₂.vm), Ls ++ L, c0 + mc, s0 + ms⟩,
      ⟨X.admits, X.cas, X.clock, X.frames, X.room, X.hears, X.method, X.code, (X.here.setHeapUsed s₂.heap s₂.slotsUsed).setVm hW'.alike, X.tail, State.WarmedH.trans X.warmed hW', X.limits, X.bytes, X.same.trans (hsame.setVm s.vm)⟩,
      ⟨g, mk, s₂, L, E, ce, rfl, rfl, hx, hce, hcv, hcl, rfl, hL, rfl, rfl⟩, ?_⟩
    show Steps p.tables e below _ (((({ U with heap := s₂.heap, slotsUsed := s₂.slotsUsed } : State).setVm s₂.vm).setTop g).pushFrame (.throwing q))
    rw [← hs₂]
    exact hsteps
end Payer
section Calls
variable {p : Program} {l : Launch} {e : Env} {R : Room} {s : State} {m : MethodId} {args : Array Value} {below : List Frame} {meth : Method} {c : Code} {T : State} {locs : List Loc} {cells slots : Nat}
theorem vx_callV (X : Stand p l e R s m args below meth c T locs cells slots) (hexec : p.tables.exec = Jvm.exec) {own C : String} {index : Nat} {y : MethodName} {bytes : ByteArray} {maxL : Nat} {ret : Option FieldType}
    (hown : s.vm.findClass own = some m.cls) (hlink : (Cond.methodLink own index y).before args s = true) (hinst : (Cond.instanceMethod y).before args s = true) (hsel : (Cond.selects C y y).before args s = true)
    (hcode : (Cond.code y bytes maxL ret).before args s = true) (hy : y.cls ≠ "java/lang/invoke/MethodHandle" ∧ y.cls ≠ "java/lang/invoke/VarHandle")
    {W9 : Nat} {Pre : Pt → Array Value → Prop} {Post : Pt → Array Value → Option Value → Pt → Prop} {PostX : Pt → Array Value → Addr → Pt → Prop} (hK : vx_Back l R p e below s args y 3 W9 Pre Post PostX)
    {b : Addr} {cellB : Cell} (hcell : T.heap[b]? = some cellB) (hobj : cellB.vm.isStatics = false) (hcls : s.vm.findClass C = some cellB.cls)
    {g : JFrame} (hg : g.method = m) (hsize : g.locals.size = c.maxLocals) {argsL rest : List Value} (hlen : ∀ sig, parseMethodDescriptor y.desc = some sig → argsL.length = sig.parameters.length)
    (hstack : g.stack = argsL.reverse ++ .ref b :: rest) (hW : 2 * g.monitorRoom + (rest.map fun v => v.category).sum ≤ W9) (hdg : decode c.code g.pc = .ok (.invokevirtual index, 3))
    (hpre : ∀ vm₁, s.WarmedH vm₁ → Pre ⟨T.setVm vm₁, locs, cells, slots⟩ (Value.ref b :: argsL).toArray) :
    (∃ (v : Option Value) (vm₁ : Vm) (B : Pt), s.WarmedH vm₁ ∧ Stand p l e R s m args below meth c B.U B.locs B.cells B.slots ∧ Post ⟨T.setVm vm₁, locs, cells, slots⟩ (Value.ref b :: argsL).toArray v B ∧
      ∀ target, Steps p.tables e below (B.U.setTop { g with pc := g.pc + 3, stack := v.toList ++ rest }) target → Steps p.tables e below (T.setTop g) target) ∨
    (∃ (q : Addr) (vm₁ : Vm) (B : Pt), s.WarmedH vm₁ ∧ Stand p l e R s m args below meth c B.U B.locs B.cells B.slots ∧ PostX ⟨T.setVm vm₁, locs, cells, slots⟩ (Value.ref b :: argsL).toArray q B ∧
      Steps p.tables e below (T.setTop g) ((B.U.setTop { g with stack := rest }).pushFrame (.throwing q))) := by
  obtain ⟨mk, methM, hnamed, hmethM, hstM, habM⟩ := Cond.instanceMethod_spec hinst
  obtain ⟨methM', cM, hmethM', -, -, -, -, -, -, hsigM⟩ := Cond.code_spec hnamed hcode
  cases hmethM.symm.trans hmethM'
  obtain ⟨c2, r2, m2, q1, q2, q3, q4, kP, hkP, hkPi⟩ := Cond.selects_spec hsel
  cases hcls.symm.trans q1
  cases (State.methodFound?_of_named hnamed hy).symm.trans q2
  cases hnamed.symm.trans q3
  have hselP : selectMethod e.platform s.vm cellB.cls mk = .method mk := by rw [Launch.admits_selectMethod X.admits]; exact q4
  obtain ⟨vm₁, X₁, hstep₁⟩ := X.invokevirtual hexec hown hlink hnamed hmethM hstM hkP hkPi hy (a := b) (cell := cellB) hcell
    (fun z h => by rw [h] at hobj; cases hobj) hselP hmethM habM hkP hkPi (g := g) hg (argsL := argsL) (rest := rest) (hlen _ hsigM) hstack hdg
  rcases hK m meth c ⟨T.setVm vm₁, locs, cells, slots⟩ { g with stack := rest } (.invokevirtual index) mk (Value.ref b :: argsL).toArray X₁ hg hsize hdg hW (X₁.named hnamed) (hpre vm₁ X₁.warmed) with ⟨v, B, X', hpost, hsteps⟩ | ⟨q, B, X', hpost, hsteps⟩
  · exact Or.inl ⟨v, vm₁, B, X₁.warmed, X', hpost, fun target h => hstep₁ _ fun acts => by rw [doInvoke_state]; exact hsteps.trans h⟩
  · exact Or.inr ⟨q, vm₁, B, X₁.warmed, X', hpost, hstep₁ _ fun acts => by rw [doInvoke_state]; exact hsteps⟩
theorem vx_callS (X : Stand p l e R s m args below meth c T locs cells slots) (hexec : p.tables.exec = Jvm.exec) {own : String} {index : Nat} {y : MethodName} {bytes : ByteArray} {maxL : Nat} {ret : Option FieldType}
    (hown : s.vm.findClass own = some m.cls) (hlink : (Cond.methodLink own index y).before args s = true) (hstat : (Cond.static y).before args s = true) (hinit : (Cond.initialized y.cls).before args s = true)
    (hcode : (Cond.code y bytes maxL ret).before args s = true) (hy : y.cls ≠ "java/lang/invoke/MethodHandle" ∧ y.cls ≠ "java/lang/invoke/VarHandle")
    {W9 : Nat} {Pre : Pt → Array Value → Prop} {Post : Pt → Array Value → Option Value → Pt → Prop} {PostX : Pt → Array Value → Addr → Pt → Prop} (hK : vx_Back l R p e below s args y 3 W9 Pre Post PostX)
    {g : JFrame} (hg : g.method = m) (hsize : g.locals.size = c.maxLocals) {argsL rest : List Value} (hlen : ∀ sig, parseMethodDescriptor y.desc = some sig → argsL.length = sig.parameters.length)
    (hstack : g.stack = argsL.reverse ++ rest) (hW : 2 * g.monitorRoom + (rest.map fun v => v.category).sum ≤ W9) (hdg : decode c.code g.pc = .ok (.invokestatic index, 3))
    (hpre : ∀ vm₁, s.WarmedH vm₁ → Pre ⟨T.setVm vm₁, locs, cells, slots⟩ argsL.toArray) :
    (∃ (v : Option Value) (vm₁ : Vm) (B : Pt), s.WarmedH vm₁ ∧ Stand p l e R s m args below meth c B.U B.locs B.cells B.slots ∧ Post ⟨T.setVm vm₁, locs, cells, slots⟩ argsL.toArray v B ∧
      ∀ target, Steps p.tables e below (B.U.setTop { g with pc := g.pc + 3, stack := v.toList ++ rest }) target → Steps p.tables e below (T.setTop g) target) ∨
    (∃ (q : Addr) (vm₁ : Vm) (B : Pt), s.WarmedH vm₁ ∧ Stand p l e R s m args below meth c B.U B.locs B.cells B.slots ∧ PostX ⟨T.setVm vm₁, locs, cells, slots⟩ argsL.toArray q B ∧
      Steps p.tables e below (T.setTop g) ((B.U.setTop { g with stack := rest }).pushFrame (.throwing q))) := by
  obtain ⟨mk, hnamed⟩ := Cond.code_named hcode
  obtain ⟨methM, cM, hmethM, -, -, -, -, -, -, hsigM⟩ := Cond.code_spec hnamed hcode
  have hstatic : methM.isStatic = true := Cond.static_spec hnamed hmethM hstat
  obtain ⟨kP, hkP, -⟩ := className_of_methodNamed hnamed
  have hinitP : kP.init = .initialized := Cond.initialized_spec (findClass_of_methodNamed hnamed) hkP hinit
  obtain ⟨vm₁, X₁, hstep₁⟩ := X.invokestatic hexec hown hlink hnamed hmethM hstatic hkP hinitP hy (g := g) hg (argsL := argsL) (rest := rest) (hlen _ hsigM) hstack hdg
  rcases hK m meth c ⟨T.setVm vm₁, locs, cells, slots⟩ { g with stack := rest } (.invokestatic index) mk argsL.toArray X₁ hg hsize hdg hW (X₁.named hnamed) (hpre vm₁ X₁.warmed) with ⟨v, B, X', hpost, hsteps⟩ | ⟨q, B, X', hpost, hsteps⟩
  · exact Or.inl ⟨v, vm₁, B, X₁.warmed, X', hpost, fun target h => hstep₁ _ fun acts => by rw [doInvoke_state]; exact hsteps.trans h⟩
  · exact Or.inr ⟨q, vm₁, B, X₁.warmed, X', hpost, hstep₁ _ fun acts => by rw [doInvoke_state]; exact hsteps⟩
end Calls
theorem vx_cls {s : State} {T : State} {vm₁ : Vm} {E : String} {k : ClassId} (hW : s.WarmedH vm₁) (h : (T.setVm vm₁).vm.findClass E = some k) : s.vm.findClass E = some k := by
  have h1 : vm₁.findClass E = some k := h
  rw [hW.alike.findClass] at h1
  exact h1
/-- the method's frame g, with q thrown over it -/
def vx_W (p : Program) (l : Launch) (e : Env) (R : Room) (s : State) (m : MethodId) (args : Array Value) (below : List Frame) (meth : Method) (c : Code) (H : Heap) (locs : List Loc) (cells slots : Nat) (Q : State → Prop) (g : JFrame) (q : Addr) : Prop :=
  ∀ T : State, T.heap = H → Stand p l e R s m args below meth c T locs cells slots → ∃ t, Steps p.tables e below ((T.setTop g).pushFrame (.throwing q)) t ∧ Q t
def vx_Run (p : Program) (l : Launch) (e : Env) (R : Room) (s : State) (m : MethodId) (args : Array Value) (below : List Frame) (meth : Method) (c : Code) (H : Heap) (locs : List Loc) (cells slots mc ms : Nat) (g : JFrame) (rest : List Value) (Qa : State → Outcome → State → Prop) (XC : String → State → State → Prop) (free : Addr → Prop) : Prop :=
  ∀ T : State, T.heap = H → Stand p l e R s m args below meth c T locs cells slots →
    (∃ (v : Option Value) (st₀ t T' : State) (L : List Loc), st₀.heap = H ∧ Stand p l e R s m args below meth c T' (locs ++ L) (cells + mc) (slots + ms) ∧ (∀ q ∈ L, free q.base) ∧ T'.heap = t.heap ∧ T'.vm = t.vm ∧ Qa st₀ (.returned v) t ∧
      Goes p e below T g T' { g with pc := g.pc + 3, stack := v.toList ++ rest }) ∨
    (∃ (q : Addr) (st₀ t T' : State) (L : List Loc) (E : String) (ce : Cell), st₀.heap = H ∧ Stand p l e R s m args below meth c T' (locs ++ L) (cells + mc) (slots + ms) ∧ (∀ z ∈ L, free z.base) ∧ T'.heap = t.heap ∧ T'.vm = t.vm ∧ XC E st₀ t ∧ t.heap[q]? = some ce ∧ ce.vm = .none ∧ s.vm.findClass E = some ce.cls ∧
      Steps p.tables e below (T.setTop g) ((T'.setTop { g with stack := rest }).pushFrame (.throwing q)))
def vx_X {S : Type} (px : S → Prop) (B : String → S → State → Prop) (A : Nat → Prop) : String → State → State → Prop := fun E st t => ∃ u : S, px u ∧ B E u t ∧ va_F A st t
section Runs
variable {p : Program} {l : Launch} {e : Env} {R : Room} {s : State} {m : MethodId} {args : Array Value} {below : List Frame} {meth : Method} {c : Code} {H : Heap} {locs : List Loc} {cells slots : Nat}
variable {y : MethodName} {bytes cc : ByteArray} {maxL nL mc ms n index : Nat} {ret : Option FieldType} {ws : List Cond} {rm : Room} {Pc : Array Value → State → Prop} {Qc : Array Value → State → Outcome → State → Prop} {XC : String → State → State → Prop} {free : Addr → Prop} {Ts : List Cond} {own C : String} {b : Addr} {As rest : List Value} {g : JFrame}
theorem vx_callBack (cb : CallB R s args own index y bytes maxL ret ws rm mc ms n) (hM : vx_Met l y ws rm Pc Qc XC mc ms free) (hbl : FrameBlind Pc) : vx_Back l R p e below s args y 3 8 (PreOf R mc ms Pc) (PostOf Qc mc ms free) (vx_Post XC mc ms free) := by
  obtain ⟨hrc, hrs, hfr, hlo, hws, hcw, -, hini, -⟩ := cb
  exact vx_back (bytes := bytes) (maxL := maxL) (ret := ret) hM hbl hrc hrs hfr hlo hws hcw (fun a' U hW => word_at hW (Or.inl (by first | rfl | simp [Cond.onTables, Cond.keeps, Cond.steady])) hini)
theorem vx_runV (S : CallFix p m c cc nL s args Ts own) (hM : vx_Met l y ws rm Pc Qc XC mc ms free) (cw : CallW R s args own C index y bytes maxL ret ws rm mc ms n) (hp : PreV s H C b Pc As)
    (hg : g.method = m) (hn : As.length = n) (hsize : g.locals.size = nL) (hstack : g.stack = As.reverse ++ .ref b :: rest) (hW : 2 * g.monitorRoom + (rest.map fun v => v.category).sum ≤ 8) (hdg : decode cc g.pc = .ok (.invokevirtual index, 3)) (hf : cells + mc ≤ R.cells ∧ slots + ms ≤ R.slots) :
    vx_Run p l e R s m args below meth c H locs cells slots mc ms g rest (Qc (Value.ref b :: As).toArray) XC free := by
  have hK : vx_Back l R p e below s args y 3 8 (PreOf R mc ms Pc) (PostOf Qc mc ms free) (vx_Post XC mc ms free) := vx_callBack cw.1 hM hp.1
  obtain ⟨⟨-, -, -, -, -, -, hcode, -, hy, hlen, hl⟩, hin, hse⟩ := cw
  obtain ⟨hx, hb, hml, ho, -⟩ := S
  obtain ⟨-, ⟨cellB, hcB, hoB, hclB⟩, hPc⟩ := hp
  intro T hT X
  rcases vx_callV X hx (C := C) (bytes := bytes) (maxL := maxL) (ret := ret) ho hl hin hse hcode hy hK (by rw [hT]; exact hcB) hoB hclB hg (hsize.trans hml.symm) (argsL := As) (rest := rest) (fun sig h => hn.trans (hlen sig h)) hstack hW (by rw [hb]; exact hdg)
    (fun vm₁ hW₁ => ⟨hf.1, hf.2, hPc (T.setVm vm₁) hT hW₁⟩) with ⟨v, vm₁, ⟨U', l2, c2, s2⟩, hW₁, X', ⟨g', mk, t, L, e1, e2, hq, h1, hL, h2, h3⟩, st⟩ | ⟨q, vm₁, ⟨U', l2, c2, s2⟩, hW₁, X', ⟨g', mk, t, L, E, ce, e1, e2, hq, hce, hcv, hcl, h1, hL, h2, h3⟩, st⟩
  · dsimp only [Pt.U, Pt.locs, Pt.cells, Pt.slots] at X' e1 e2 h1 h2 h3 st
    subst h1; subst h2; subst h3
    exact Or.inl ⟨v, (T.setVm vm₁).calling g' mk (Value.ref b :: As).toArray, t, U', L, hT, X', hL, e1, e2, hq, st⟩
  · dsimp only [Pt.U, Pt.locs, Pt.cells, Pt.slots] at X' e1 e2 h1 h2 h3 st hcl
    subst h1; subst h2; subst h3
    exact Or.inr ⟨q, (T.setVm vm₁).calling g' mk (Value.ref b :: As).toArray, t, U', L, E, ce, hT, X', hL, e1, e2, hq, hce, hcv, vx_cls hW₁ hcl, st⟩
theorem vx_runS (S : CallFix p m c cc nL s args Ts own) (hM : vx_Met l y ws rm Pc Qc XC mc ms free) (cw : CallB R s args own index y bytes maxL ret ws rm mc ms n ∧ (Cond.static y).before args s = true) (hp : PreS s H Pc As)
    (hg : g.method = m) (hn : As.length = n) (hsize : g.locals.size = nL) (hstack : g.stack = As.reverse ++ rest) (hW : 2 * g.monitorRoom + (rest.map fun v => v.category).sum ≤ 8) (hdg : decode cc g.pc = .ok (.invokestatic index, 3)) (hf : cells + mc ≤ R.cells ∧ slots + ms ≤ R.slots) :
    vx_Run p l e R s m args below meth c H locs cells slots mc ms g rest (Qc As.toArray) XC free := by
  have hK : vx_Back l R p e below s args y 3 8 (PreOf R mc ms Pc) (PostOf Qc mc ms free) (vx_Post XC mc ms free) := vx_callBack cw.1 hM hp.1
  obtain ⟨⟨-, -, -, -, -, -, hcode, hini, hy, hlen, hl⟩, hstt⟩ := cw
  obtain ⟨hx, hb, hml, ho, -⟩ := S
  intro T hT X
  rcases vx_callS X hx (bytes := bytes) (maxL := maxL) (ret := ret) ho hl hstt hini hcode hy hK hg (hsize.trans hml.symm) (argsL := As) (rest := rest) (fun sig h => hn.trans (hlen sig h)) hstack hW (by rw [hb]; exact hdg)
    (fun vm₁ hW₁ => ⟨hf.1, hf.2, hp.2 (T.setVm vm₁) hT hW₁⟩) with ⟨v, vm₁, ⟨U', l2, c2, s2⟩, hW₁, X', ⟨g', mk, t, L, e1, e2, hq, h1, hL, h2, h3⟩, st⟩ | ⟨q, vm₁, ⟨U', l2, c2, s2⟩, hW₁, X', ⟨g', mk, t, L, E, ce, e1, e2, hq, hce, hcv, hcl, h1, hL, h2, h3⟩, st⟩
  · dsimp only [Pt.U, Pt.locs, Pt.cells, Pt.slots] at X' e1 e2 h1 h2 h3 st
    subst h1; subst h2; subst h3
    exact Or.inl ⟨v, (T.setVm vm₁).calling g' mk As.toArray, t, U', L, hT, X', hL, e1, e2, hq, st⟩
  · dsimp only [Pt.U, Pt.locs, Pt.cells, Pt.slots] at X' e1 e2 h1 h2 h3 st hcl
    subst h1; subst h2; subst h3
    exact Or.inr ⟨q, (T.setVm vm₁).calling g' mk As.toArray, t, U', L, E, ce, hT, X', hL, e1, e2, hq, hce, hcv, vx_cls hW₁ hcl, st⟩
end Runs
section Rows
variable {p : Program} {l : Launch} {e : Env} {R : Room} {s : State} {m : MethodId} {args : Array Value} {below : List Frame} {meth : Method} {c : Code} {H : Heap} {locs : List Loc} {cells slots : Nat} {Q : State → Prop}
variable {mc ms : Nat} {free : Addr → Prop} {A0 A1 : Nat → Prop} {H0 : Heap} {a : Array Value} {pc : Nat} {ls : Array Slot} {st0 rest : List Value}
theorem vx_keep {st₀ t T' : State} {L : List Loc} (h0 : st₀.heap = H) (e1 : T'.heap = t.heap) (hS : va_S A0 H0 H locs) (hA : ∀ q, q < H.size → A1 q → A0 q) (hf : ∀ q, free q → A0 q) (hL : ∀ q ∈ L, free q.base) (hF : va_F A1 st₀ t) :
    H.size ≤ T'.heap.size ∧ (∀ q : Nat, q < H.size → ¬ A1 q → T'.heap[q]? = H[q]?) ∧ va_S A0 H0 T'.heap (locs ++ L) := by
  obtain ⟨hz, hk⟩ := hF
  rw [h0] at hz hk
  exact ⟨by rw [e1]; exact hz, fun q h1 h2 => by rw [e1]; exact hk q h1 h2,
    ⟨Nat.le_trans hS.1 (by rw [e1]; exact hz), fun q h1 h2 => by rw [e1, hk q (Nat.lt_of_lt_of_le h1 hS.1) (fun z => h2 (hA q (Nat.lt_of_lt_of_le h1 hS.1) z))]; exact hS.2.1 q h1 h2, fun q hq => by
      rcases List.mem_append.mp hq with h | h
      · exact hS.2.2 q h
      · exact hf _ (hL q h)⟩⟩
theorem vx_calli {S SX : Type} {post : Int32 → S → Prop} {px : SX → Prop} {B : S → State → Prop} {BX : String → SX → State → Prop} {AX : Nat → Prop} (hr : vx_Run p l e R s m args below meth c H locs cells slots mc ms (F0 m pc ls st0) rest (va_Qi post B A1 a) (vx_X px BX AX) free) (hS : va_S A0 H0 H locs) (hA : ∀ q, q < H.size → A1 q → A0 q) (hf : ∀ q, free q → A0 q) (hAX : ∀ q, q < H.size → AX q → A0 q)
    (kx : ∀ (E : String) (ce : Cell) (q9 : Addr) (u : SX) (t : State) (H1 : Heap) (locs1 : List Loc), t.heap = H1 → s.vm.Alike t.vm → px u → BX E u t → H.size ≤ H1.size → (∀ q : Nat, q < H.size → ¬ AX q → H1[q]? = H[q]?) → va_S A0 H0 H1 locs1 → H1[q9]? = some ce → ce.vm = .none → s.vm.findClass E = some ce.cls → vx_W p l e R s m args below meth c H1 locs1 (cells + mc) (slots + ms) Q (F0 m pc ls rest) q9)
    (kk : ∀ (r : Int32) (u : S) (t : State) (H1 : Heap) (locs1 : List Loc), t.heap = H1 → s.vm.Alike t.vm → post r u → B u t → H.size ≤ H1.size → (∀ q : Nat, q < H.size → ¬ A1 q → H1[q]? = H[q]?) → va_S A0 H0 H1 locs1 → W p l e R s m args below meth c H1 locs1 (cells + mc) (slots + ms) Q (F0 m (pc + 3) ls (.int r :: rest))) : W p l e R s m args below meth c H locs cells slots Q (F0 m pc ls st0) := by
  intro T hT X
  rcases hr T hT X with ⟨v, st₀, t, T', L, h0, X', hL, e1, e2, ⟨⟨r, u, hv, hp, hb⟩, hF⟩, st⟩ | ⟨q, st₀, t, T', L, E, ce, h0, X', hL, e1, e2, ⟨u, hp, hb, hF⟩, hce, hcv, hcl, st⟩
  · cases hv
    obtain ⟨k1, k2, k3⟩ := vx_keep h0 e1 hS hA hf hL hF
    obtain ⟨t2, a1, b1⟩ := kk r u t T'.heap (locs ++ L) e1.symm (by rw [← e2]; exact X'.warmed.alike) hp hb k1 k2 k3 T' rfl X'
    exact ⟨t2, st t2 a1, b1⟩
  · obtain ⟨k1, k2, k3⟩ := vx_keep h0 e1 hS hAX hf hL hF
    obtain ⟨t2, a1, b1⟩ := kx E ce q u t T'.heap (locs ++ L) e1.symm (by rw [← e2]; exact X'.warmed.alike) hp hb k1 k2 k3 (by rw [e1]; exact hce) hcv hcl T' rfl X'
    exact ⟨t2, st.trans a1, b1⟩
theorem vx_calll {S SX : Type} {post : Int64 → S → Prop} {px : SX → Prop} {B : S → State → Prop} {BX : String → SX → State → Prop} {AX : Nat → Prop} (hr : vx_Run p l e R s m args below meth c H locs cells slots mc ms (F0 m pc ls st0) rest (va_Ql post B A1 a) (vx_X px BX AX) free) (hS : va_S A0 H0 H locs) (hA : ∀ q, q < H.size → A1 q → A0 q) (hf : ∀ q, free q → A0 q) (hAX : ∀ q, q < H.size → AX q → A0 q)
    (kx : ∀ (E : String) (ce : Cell) (q9 : Addr) (u : SX) (t : State) (H1 : Heap) (locs1 : List Loc), t.heap = H1 → s.vm.Alike t.vm → px u → BX E u t → H.size ≤ H1.size → (∀ q : Nat, q < H.size → ¬ AX q → H1[q]? = H[q]?) → va_S A0 H0 H1 locs1 → H1[q9]? = some ce → ce.vm = .none → s.vm.findClass E = some ce.cls → vx_W p l e R s m args below meth c H1 locs1 (cells + mc) (slots + ms) Q (F0 m pc ls rest) q9)
    (kk : ∀ (r : Int64) (u : S) (t : State) (H1 : Heap) (locs1 : List Loc), t.heap = H1 → s.vm.Alike t.vm → post r u → B u t → H.size ≤ H1.size → (∀ q : Nat, q < H.size → ¬ A1 q → H1[q]? = H[q]?) → va_S A0 H0 H1 locs1 → W p l e R s m args below meth c H1 locs1 (cells + mc) (slots + ms) Q (F0 m (pc + 3) ls (.long r :: rest))) : W p l e R s m args below meth c H locs cells slots Q (F0 m pc ls st0) := by
  intro T hT X
  rcases hr T hT X with ⟨v, st₀, t, T', L, h0, X', hL, e1, e2, ⟨⟨r, u, hv, hp, hb⟩, hF⟩, st⟩ | ⟨q, st₀, t, T', L, E, ce, h0, X', hL, e1, e2, ⟨u, hp, hb, hF⟩, hce, hcv, hcl, st⟩
  · cases hv
    obtain ⟨k1, k2, k3⟩ := vx_keep h0 e1 hS hA hf hL hF
    obtain ⟨t2, a1, b1⟩ := kk r u t T'.heap (locs ++ L) e1.symm (by rw [← e2]; exact X'.warmed.alike) hp hb k1 k2 k3 T' rfl X'
    exact ⟨t2, st t2 a1, b1⟩
  · obtain ⟨k1, k2, k3⟩ := vx_keep h0 e1 hS hAX hf hL hF
    obtain ⟨t2, a1, b1⟩ := kx E ce q u t T'.heap (locs ++ L) e1.symm (by rw [← e2]; exact X'.warmed.alike) hp hb k1 k2 k3 (by rw [e1]; exact hce) hcv hcl T' rfl X'
    exact ⟨t2, st.trans a1, b1⟩
theorem vx_callf {S SX : Type} {post : UInt32 → S → Prop} {px : SX → Prop} {B : S → State → Prop} {BX : String → SX → State → Prop} {AX : Nat → Prop} (hr : vx_Run p l e R s m args below meth c H locs cells slots mc ms (F0 m pc ls st0) rest (va_Qf post B A1 a) (vx_X px BX AX) free) (hS : va_S A0 H0 H locs) (hA : ∀ q, q < H.size → A1 q → A0 q) (hf : ∀ q, free q → A0 q) (hAX : ∀ q, q < H.size → AX q → A0 q)
    (kx : ∀ (E : String) (ce : Cell) (q9 : Addr) (u : SX) (t : State) (H1 : Heap) (locs1 : List Loc), t.heap = H1 → s.vm.Alike t.vm → px u → BX E u t → H.size ≤ H1.size → (∀ q : Nat, q < H.size → ¬ AX q → H1[q]? = H[q]?) → va_S A0 H0 H1 locs1 → H1[q9]? = some ce → ce.vm = .none → s.vm.findClass E = some ce.cls → vx_W p l e R s m args below meth c H1 locs1 (cells + mc) (slots + ms) Q (F0 m pc ls rest) q9)
    (kk : ∀ (r : UInt32) (u : S) (t : State) (H1 : Heap) (locs1 : List Loc), t.heap = H1 → s.vm.Alike t.vm → post r u → B u t → H.size ≤ H1.size → (∀ q : Nat, q < H.size → ¬ A1 q → H1[q]? = H[q]?) → va_S A0 H0 H1 locs1 → W p l e R s m args below meth c H1 locs1 (cells + mc) (slots + ms) Q (F0 m (pc + 3) ls (.float r :: rest))) : W p l e R s m args below meth c H locs cells slots Q (F0 m pc ls st0) := by
  intro T hT X
  rcases hr T hT X with ⟨v, st₀, t, T', L, h0, X', hL, e1, e2, ⟨⟨r, u, hv, hp, hb⟩, hF⟩, st⟩ | ⟨q, st₀, t, T', L, E, ce, h0, X', hL, e1, e2, ⟨u, hp, hb, hF⟩, hce, hcv, hcl, st⟩
  · cases hv
    obtain ⟨k1, k2, k3⟩ := vx_keep h0 e1 hS hA hf hL hF
    obtain ⟨t2, a1, b1⟩ := kk r u t T'.heap (locs ++ L) e1.symm (by rw [← e2]; exact X'.warmed.alike) hp hb k1 k2 k3 T' rfl X'
    exact ⟨t2, st t2 a1, b1⟩
  · obtain ⟨k1, k2, k3⟩ := vx_keep h0 e1 hS hAX hf hL hF
    obtain ⟨t2, a1, b1⟩ := kx E ce q u t T'.heap (locs ++ L) e1.symm (by rw [← e2]; exact X'.warmed.alike) hp hb k1 k2 k3 (by rw [e1]; exact hce) hcv hcl T' rfl X'
    exact ⟨t2, st.trans a1, b1⟩
theorem vx_calld {S SX : Type} {post : UInt64 → S → Prop} {px : SX → Prop} {B : S → State → Prop} {BX : String → SX → State → Prop} {AX : Nat → Prop} (hr : vx_Run p l e R s m args below meth c H locs cells slots mc ms (F0 m pc ls st0) rest (va_Qd post B A1 a) (vx_X px BX AX) free) (hS : va_S A0 H0 H locs) (hA : ∀ q, q < H.size → A1 q → A0 q) (hf : ∀ q, free q → A0 q) (hAX : ∀ q, q < H.size → AX q → A0 q)
    (kx : ∀ (E : String) (ce : Cell) (q9 : Addr) (u : SX) (t : State) (H1 : Heap) (locs1 : List Loc), t.heap = H1 → s.vm.Alike t.vm → px u → BX E u t → H.size ≤ H1.size → (∀ q : Nat, q < H.size → ¬ AX q → H1[q]? = H[q]?) → va_S A0 H0 H1 locs1 → H1[q9]? = some ce → ce.vm = .none → s.vm.findClass E = some ce.cls → vx_W p l e R s m args below meth c H1 locs1 (cells + mc) (slots + ms) Q (F0 m pc ls rest) q9)
    (kk : ∀ (r : UInt64) (u : S) (t : State) (H1 : Heap) (locs1 : List Loc), t.heap = H1 → s.vm.Alike t.vm → post r u → B u t → H.size ≤ H1.size → (∀ q : Nat, q < H.size → ¬ A1 q → H1[q]? = H[q]?) → va_S A0 H0 H1 locs1 → W p l e R s m args below meth c H1 locs1 (cells + mc) (slots + ms) Q (F0 m (pc + 3) ls (.double r :: rest))) : W p l e R s m args below meth c H locs cells slots Q (F0 m pc ls st0) := by
  intro T hT X
  rcases hr T hT X with ⟨v, st₀, t, T', L, h0, X', hL, e1, e2, ⟨⟨r, u, hv, hp, hb⟩, hF⟩, st⟩ | ⟨q, st₀, t, T', L, E, ce, h0, X', hL, e1, e2, ⟨u, hp, hb, hF⟩, hce, hcv, hcl, st⟩
  · cases hv
    obtain ⟨k1, k2, k3⟩ := vx_keep h0 e1 hS hA hf hL hF
    obtain ⟨t2, a1, b1⟩ := kk r u t T'.heap (locs ++ L) e1.symm (by rw [← e2]; exact X'.warmed.alike) hp hb k1 k2 k3 T' rfl X'
    exact ⟨t2, st t2 a1, b1⟩
  · obtain ⟨k1, k2, k3⟩ := vx_keep h0 e1 hS hAX hf hL hF
    obtain ⟨t2, a1, b1⟩ := kx E ce q u t T'.heap (locs ++ L) e1.symm (by rw [← e2]; exact X'.warmed.alike) hp hb k1 k2 k3 (by rw [e1]; exact hce) hcv hcl T' rfl X'
    exact ⟨t2, st.trans a1, b1⟩
theorem vx_callv {S SX : Type} {post : S → Prop} {px : SX → Prop} {B : S → State → Prop} {BX : String → SX → State → Prop} {AX : Nat → Prop} (hr : vx_Run p l e R s m args below meth c H locs cells slots mc ms (F0 m pc ls st0) rest (va_Qv post B A1 a) (vx_X px BX AX) free) (hS : va_S A0 H0 H locs) (hA : ∀ q, q < H.size → A1 q → A0 q) (hf : ∀ q, free q → A0 q) (hAX : ∀ q, q < H.size → AX q → A0 q)
    (kx : ∀ (E : String) (ce : Cell) (q9 : Addr) (u : SX) (t : State) (H1 : Heap) (locs1 : List Loc), t.heap = H1 → s.vm.Alike t.vm → px u → BX E u t → H.size ≤ H1.size → (∀ q : Nat, q < H.size → ¬ AX q → H1[q]? = H[q]?) → va_S A0 H0 H1 locs1 → H1[q9]? = some ce → ce.vm = .none → s.vm.findClass E = some ce.cls → vx_W p l e R s m args below meth c H1 locs1 (cells + mc) (slots + ms) Q (F0 m pc ls rest) q9)
    (kk : ∀ (u : S) (t : State) (H1 : Heap) (locs1 : List Loc), t.heap = H1 → s.vm.Alike t.vm → post u → B u t → H.size ≤ H1.size → (∀ q : Nat, q < H.size → ¬ A1 q → H1[q]? = H[q]?) → va_S A0 H0 H1 locs1 → W p l e R s m args below meth c H1 locs1 (cells + mc) (slots + ms) Q (F0 m (pc + 3) ls (rest))) : W p l e R s m args below meth c H locs cells slots Q (F0 m pc ls st0) := by
  intro T hT X
  rcases hr T hT X with ⟨v, st₀, t, T', L, h0, X', hL, e1, e2, ⟨⟨u, hv, hp, hb⟩, hF⟩, st⟩ | ⟨q, st₀, t, T', L, E, ce, h0, X', hL, e1, e2, ⟨u, hp, hb, hF⟩, hce, hcv, hcl, st⟩
  · cases hv
    obtain ⟨k1, k2, k3⟩ := vx_keep h0 e1 hS hA hf hL hF
    obtain ⟨t2, a1, b1⟩ := kk u t T'.heap (locs ++ L) e1.symm (by rw [← e2]; exact X'.warmed.alike) hp hb k1 k2 k3 T' rfl X'
    exact ⟨t2, st t2 a1, b1⟩
  · obtain ⟨k1, k2, k3⟩ := vx_keep h0 e1 hS hAX hf hL hF
    obtain ⟨t2, a1, b1⟩ := kx E ce q u t T'.heap (locs ++ L) e1.symm (by rw [← e2]; exact X'.warmed.alike) hp hb k1 k2 k3 (by rw [e1]; exact hce) hcv hcl T' rfl X'
    exact ⟨t2, st.trans a1, b1⟩
/-- caught by the row x of this method's table; the rows ahead don't take it -/
theorem vx_catch {own name : String} {E : String} {ce : Cell} {q : Addr} (hown : s.vm.findClass own = some m.cls) (pre : List ExceptionTableEntry) (x : ExceptionTableEntry) (suf : List ExceptionTableEntry) (hsplit : c.exceptionTable.toList = pre ++ x :: suf)
    (hpass : ∀ z ∈ pre, covers z pc = false ∨ (z.catchType ≠ 0 ∧ ∃ nm : String, (Cond.classLink own z.catchType nm).before args s = true ∧ va_Nc E nm s)) (hx : covers x pc = true) (h0 : x.catchType ≠ 0)
    (hlink : (Cond.classLink own x.catchType name).before args s = true) (hcast : (Cond.castable E name).before args s = true) (hcell : H[q]? = some ce) (hv : ce.vm = .none) (hcl : s.vm.findClass E = some ce.cls)
    (kk : W p l e R s m args below meth c H locs cells slots Q (F0 m x.handlerPc ls [.ref q])) : vx_W p l e R s m args below meth c H locs cells slots Q (F0 m pc ls rest) q := by
  intro T hT X
  have hpl : e.platform.magicAccessors = ({} : Platform).magicAccessors := by rw [X.admits.platform]
  obtain ⟨c3, c4, hc3, hc4, hasg⟩ := Cond.castable_spec hcast
  cases Option.some.inj (hc3.symm.trans hcl)
  obtain ⟨c5, hc5, hcl5⟩ := Cond.classLink_spec hown hlink e.platform hpl
  cases Option.some.inj (hc4.symm.trans hc5)
  obtain ⟨vm', X', st⟩ := X.thenCaughtThrough q (g := F0 m pc ls rest) rfl (Steps.refl _) (by rw [hT]; exact hcell) (by rw [hv]; rfl) (by obtain ⟨k9, h9, -⟩ := Vm.findClass_spec hcl; exact ⟨k9, h9⟩) pre x suf hsplit
    (fun z hz => by
      rcases hpass z hz with h | ⟨hz0, nm, hl1, hn1⟩
      · exact Or.inl h
      · obtain ⟨c6, hc6, hcl6⟩ := Cond.classLink_spec hown hl1 e.platform hpl
        obtain ⟨a8, b8, h1, h2, h3⟩ := hn1
        cases Option.some.inj (h1.symm.trans hcl)
        cases Option.some.inj (h2.symm.trans hc6)
        exact Or.inr ⟨hz0, _, hcl6, h3⟩) hx (Or.inr ⟨h0, c4, hcl5, hasg⟩)
  obtain ⟨t, a1, b1⟩ := kk (T.setVm vm') hT X'
  exact ⟨t, st.trans a1, b1⟩
end Rows
section Ends
variable {p : Program} {l : Launch} {e : Env} {R : Room} {s : State} {m : MethodId} {args : Array Value} {below : List Frame} {meth : Method} {c : Code} {H : Heap} {locs : List Loc} {cells slots : Nat} {Q : State → Prop}
variable {mc ms : Nat} {free : Addr → Prop} {A0 A1 : Nat → Prop} {H0 : Heap} {a : Array Value} {ls : Array Slot} {st0 rest : List Value}
variable {Qc : Array Value → State → Outcome → State → Prop} {XC : String → State → State → Prop}
/-- what a body that may throw owes at its end -/
def vx_MQ (below : List Frame) (Qc : Array Value → State → Outcome → State → Prop) (XC : String → State → State → Prop) (a : Array Value) (s : State) (mc ms : Nat) (free : Addr → Prop) : State → Prop := fun t =>
  ∃ o, t.status = .running ∧ Ended t below o ∧ vx_Q Qc XC mc ms free a s o t
theorem vx_ret {g : JFrame} {mc ms : Nat} (k : W p l e R s m args below meth c H locs cells slots (MQ below Qc args s mc ms free) g) : W p l e R s m args below meth c H locs cells slots (vx_MQ below Qc XC args s mc ms free) g := by
  intro T hT X
  obtain ⟨t, a1, o, b1, b2, b3, b4⟩ := k T hT X
  exact ⟨t, a1, o, b1, b2, Or.inl ⟨b3, b4⟩⟩
/-- not caught here: it goes on to the caller -/
theorem vx_widen {g : JFrame} {q : Addr} {k n : Nat} (h1 : cells ≤ k) (h2 : slots ≤ n) (kk : vx_W p l e R s m args below meth c H locs k n Q g q) : vx_W p l e R s m args below meth c H locs cells slots Q g q := fun T hT X => kk T hT (stand_widen X h1 h2)
theorem vx_out {pc : Nat} {E : String} {ce : Cell} {q : Addr} {mc ms : Nat} (hout : ∀ x ∈ c.exceptionTable.toList, covers x pc = false) (hlocks : meth.locks = false) (hcell : H[q]? = some ce) (hv : ce.vm = .none) (hcl : s.vm.findClass E = some ce.cls)
    (hx : ∀ t : State, t.heap = H → s.vm.Alike t.vm → XC E s t) (hf : ∀ z ∈ locs, free z.base) (hc : cells ≤ mc) (hs : slots ≤ ms) :
    vx_W p l e R s m args below meth c H locs cells slots (vx_MQ below Qc XC args s mc ms free) (F0 m pc ls rest) q := by
  intro T hT X
  obtain ⟨st1, hrun, hend, hW, hsm⟩ := X.leaveThrown q (g := F0 m pc ls rest) rfl rfl rfl hout hlocks
  have hcell9 : (T.setFrames (.throwing q :: below)).heap[q]? = some ce := by
    show T.heap[q]? = some ce
    rw [hT]; exact hcell
  exact ⟨_, st1, .threw q, hrun, hend, Or.inr ⟨q, rfl, E, ce, locs, hx _ hT hW.alike, hcell9, hv, hcl, hW, hsm.mono hc hs, hf⟩⟩
theorem vx_frame {U : State} {k n : Nat} (h : s.sameButNew ({ U with vm := s.vm } : State) locs k n) : s.heap.size ≤ U.heap.size ∧ ∀ q : Nat, q < s.heap.size → (∀ z ∈ locs, z.base ≠ q) → U.heap[q]? = s.heap[q]? := by
  obtain ⟨-, h2, -, -, -, h6⟩ := h
  refine ⟨h2, fun q hq hz => ?_⟩
  obtain ⟨c9, e1, e2, e3, e4⟩ := h6 q _ (Array.getElem?_eq_getElem hq)
  have hs : c9.slots = (s.heap[q]).slots := Array.ext_getElem? fun i => e4 i fun hm => hz _ hm rfl
  have h9 : c9 = s.heap[q] := by
    rw [hs] at e2
    exact e2
  have e5 : U.heap[q]? = some c9 := e1
  rw [e5, h9, Array.getElem?_eq_getElem hq]
/-- the words of a throw but the four that speak of the heap -/
def vx_no (w : Cond) : Bool := decide (w ≠ .isRef (.static Bundle.tN "UNASSIGNED_STACK" Bundle.steD)) && decide (w ≠ .isRef (.static Bundle.tN "SUPPRESSED_SENTINEL" Bundle.listD)) && decide (w ≠ .laysStatic Bundle.tN "UNASSIGNED_STACK" Bundle.steD) && decide (w ≠ .laysStatic Bundle.tN "SUPPRESSED_SENTINEL" Bundle.listD)
def vx_at0 (own : String) (ic : Nat) (X : String) (names : List String) : List Cond := (Bundle.ownAtoms0 own ic X names).filter vx_no
def vx_atS (own : String) (ic : Nat) (X : String) (names : List String) : List Cond := (Bundle.ownAtoms own ic X names).filter vx_no
/-- a word that the tables alone decide, or a good one -/
def vx_ot (w : Cond) : Bool := w.onTables || goodWord w
theorem vx_ot_at {args a' : Array Value} {s U : State} {w : Cond} (hW : s.WarmedH U.vm) (hvm : s.vm = U.vm) (hg : vx_ot w = true) (h : w.before args s = true) : w.before a' U = true := by
  simp only [vx_ot, Bool.or_eq_true] at hg
  rcases hg with hg | hg
  · exact va_tabs hg hvm h
  · exact word_at hW (good_of_word hg) h
/-- a list's words: the good ones out of the method's own list, the others by premises of their own -/
theorem vx_hat {args : Array Value} {s : State} {L B : List Cond} (h1 : ∀ w ∈ L.filter goodWord, w.before args s = true) (h2 : ∀ w ∈ L.filter (fun w => !goodWord w), w ∈ B) (h3 : ∀ w ∈ B, w.before args s = true) : ∀ w ∈ L, w.before args s = true := by
  intro w hw
  by_cases g : goodWord w = true
  · exact h1 w (List.mem_filter.mpr ⟨hw, g⟩)
  · refine h3 w (h2 w (List.mem_filter.mpr ⟨hw, ?_⟩))
    show (!goodWord w) = true
    cases hgw : goodWord w
    · rfl
    · exact absurd hgw g
theorem vx_c {args : Array Value} {s : State} {w : Cond} {B : List Cond} (h : w.before args s = true) (t : ∀ w ∈ B, w.before args s = true) : ∀ w' ∈ w :: B, w'.before args s = true := fun w' h' => (List.mem_cons.mp h').elim (fun e => by rw [e]; exact h) (t w')
theorem vx_n {args : Array Value} {s : State} : ∀ w ∈ ([] : List Cond), w.before args s = true := fun _ h => nomatch h
theorem vx_own {args : Array Value} {s : State} {L : List Cond} (h1 : ∀ w ∈ L.filter vx_no, w.before args s = true)
    (hU : (Cond.isRef (.static Bundle.tN "UNASSIGNED_STACK" Bundle.steD)).before args s = true) (hN : (Cond.isRef (.static Bundle.tN "SUPPRESSED_SENTINEL" Bundle.listD)).before args s = true)
    (lU : (Cond.laysStatic Bundle.tN "UNASSIGNED_STACK" Bundle.steD).before args s = true) (lN : (Cond.laysStatic Bundle.tN "SUPPRESSED_SENTINEL" Bundle.listD).before args s = true) : ∀ w ∈ L, w.before args s = true := by
  intro w hw
  by_cases e1 : w = .isRef (.static Bundle.tN "UNASSIGNED_STACK" Bundle.steD)
  · rw [e1]; exact hU
  · by_cases e2 : w = .isRef (.static Bundle.tN "SUPPRESSED_SENTINEL" Bundle.listD)
    · rw [e2]; exact hN
    · by_cases e3 : w = .laysStatic Bundle.tN "UNASSIGNED_STACK" Bundle.steD
      · rw [e3]; exact lU
      · by_cases e4 : w = .laysStatic Bundle.tN "SUPPRESSED_SENTINEL" Bundle.listD
        · rw [e4]; exact lN
        · exact h1 w (List.mem_filter.mpr ⟨hw, by unfold vx_no; rw [decide_eq_true e1, decide_eq_true e2, decide_eq_true e3, decide_eq_true e4]; rfl⟩)
/-- where a static field lies, its class's statics cell in H -/
def vx_L (C n d : String) (A : Nat → Prop) (U : State) (H : Heap) : Prop := ∃ (c : ClassId) (k : Class) (i : Nat) (f : Field) (a : Nat) (cell : Cell), U.vm.findClass C = some c ∧ U.fieldFound? C n d = some (c, k, i, f) ∧ f.isStatic = true ∧ k.statics = some a ∧ H[a]? = some cell ∧ cell.vm.isStatics = true ∧ cell.cls = c ∧ f.slot < cell.slots.size ∧ k.staticTypes[f.slot]? = some f.type ∧ ¬ A a
theorem vx_L.moved {C n d : String} {A : Nat → Prop} {u U : State} {H : Heap} (hvm : u.vm.Alike U.vm) (h : vx_L C n d A u H) : vx_L C n d A U H := by
  obtain ⟨c, k, i, f, a, cell, h1, h2, h3, h4, h5, h6, h7, h8, h9, h10⟩ := h
  obtain ⟨k', hi', he⟩ := State.fieldFound?_setVm hvm h2
  exact ⟨c, k', i, f, a, cell, by rw [hvm.findClass]; exact h1, hi', h3, by rw [he]; exact h4, h5, h6, h7, h8, by rw [he]; exact h9, h10⟩
theorem vx_L.kept {C n d : String} {A : Nat → Prop} {U : State} {H H1 : Heap} (h : vx_L C n d A U H) (hq : ∀ a : Nat, a < H.size → ¬ A a → H1[a]? = H[a]?) : vx_L C n d A U H1 := by
  obtain ⟨c, k, i, f, a, cell, h1, h2, h3, h4, h5, h6, h7, h8, h9, h10⟩ := h
  exact ⟨c, k, i, f, a, cell, h1, h2, h3, h4, by rw [hq a (Array.getElem?_eq_some_iff.mp h5).1 h10]; exact h5, h6, h7, h8, h9, h10⟩
theorem vx_L.narrow {C n d : String} {A B : Nat → Prop} {U : State} {H : Heap} (h : vx_L C n d A U H) (hAB : ∀ q, B q → A q) : vx_L C n d B U H := by
  obtain ⟨c, k, i, f, a, cell, h1, h2, h3, h4, h5, h6, h7, h8, h9, h10⟩ := h
  exact ⟨c, k, i, f, a, cell, h1, h2, h3, h4, h5, h6, h7, h8, h9, fun z => h10 (hAB _ z)⟩
theorem vx_L.word {C n d : String} {A : Nat → Prop} {s : State} {args : Array Value} (h : vx_L C n d A s s.heap) : (Cond.laysStatic C n d).before args s = true := by
  obtain ⟨c, k, i, f, a, cell, h1, h2, h3, h4, h5, h6, h7, h8, h9, -⟩ := h
  show (Cond.laysStatic C n d).holds args s none s [] = true
  exact Cond.laysStatic_of h1 h2 h3 h4 h5 h6 h7 h8 h9
/-- .. and what it holds: null or some reference -/
def vx_Zq (C n d : String) (A : Nat → Prop) (U : State) (H : Heap) : Prop := va_Zq C n d A U H ∧ vx_L C n d A U H
theorem vx_Zq.moved {C n d : String} {A : Nat → Prop} {u U : State} {H : Heap} (hvm : u.vm.Alike U.vm) (h : vx_Zq C n d A u H) : vx_Zq C n d A U H := ⟨va_Zq.moved hvm h.1, vx_L.moved hvm h.2⟩
theorem vx_Zq.kept {C n d : String} {A : Nat → Prop} {U : State} {H H1 : Heap} (h : vx_Zq C n d A U H) (hq : ∀ a : Nat, a < H.size → ¬ A a → H1[a]? = H[a]?) : vx_Zq C n d A U H1 := ⟨va_Zq.kept h.1 hq, vx_L.kept h.2 hq⟩
theorem vx_Zq.narrow {C n d : String} {A B : Nat → Prop} {U : State} {H : Heap} (h : vx_Zq C n d A U H) (hAB : ∀ q, B q → A q) : vx_Zq C n d B U H := ⟨va_Zq.narrow h.1 hAB, vx_L.narrow h.2 hAB⟩
theorem vx_Zqof {args : Array Value} {s : State} {C n d : String} {A : Nat → Prop} (hl : (Cond.laysStatic C n d).before args s = true) (hini : (Cond.initialized C).before args s = true) (h : (Cond.isRef (.static C n d)).before args s = true) (hA : ∀ a : Nat, a < s.heap.size → ¬ A a) : vx_Zq C n d A s s.heap := by
  refine ⟨va_Zqof hl hini h hA, ?_⟩
  obtain ⟨c, k, i, f, a, cell, h1, h2, h3, h4, h5, h6, h7, h8, h9⟩ := Cond.laysStatic_spec hl
  exact ⟨c, k, i, f, a, cell, h1, h2, h3, h4, h5, h6, h7, h8, h9, hA a (Array.getElem?_eq_some_iff.mp h5).1⟩
theorem vx_isRef {C n d : String} {v : Value} {A : Nat → Prop} {s : State} {args : Array Value} (h : va_Z C n d v A s s.heap) (hv : v.isRef = true) : (Cond.isRef (.static C n d)).before args s = true := by
  obtain ⟨cf, kf, fi, f, a, cell, h1, h2, h3, h4, h5, h6, h7, -⟩ := h
  have he : (Term.static C n d).eval args s none [] s = some v := by
    simp [Term.eval, State.fieldNamed?, h1, h2, h4, h5, h6, h7]
  simp only [Cond.before, Cond.holds, Cond.value, he]
  cases v <;> simp_all [Value.isRef]
theorem vx_isRefq {C n d : String} {A : Nat → Prop} {s : State} {args : Array Value} (h : va_Zq C n d A s s.heap) : (Cond.isRef (.static C n d)).before args s = true := by
  rcases h with h | ⟨t, h⟩
  · exact vx_isRef h rfl
  · exact vx_isRef h rfl
/-- the same frame, seen from here: as if the method were called anew in this heap -/
theorem vx_rebase {T : State} (X : Stand p l e R s m args below meth c T locs cells slots) {R' : Room} (hf : R'.frames ≤ R.frames) (hl : R'.locals ≤ R.locals) (hc : cells + R'.cells ≤ R.cells) (hs : slots + R'.slots ≤ R.slots) :
    Stand p l e R' ((T.setVm s.vm).setFrames (.invoking m args :: below)) m args below meth c T [] 0 0 := by
  have htop : (T.setVm s.vm).topJava?.isSome := X.here.top
  have hF : ((T.setVm s.vm).setFrames (.invoking m args :: below)).frames = .invoking m args :: below := State.frames_setFrames _ (State.cur_lt_of_top htop)
  obtain ⟨g₀, hg0⟩ := Option.isSome_iff_exists.mp htop
  obtain ⟨r, hr⟩ := State.topJava?_eq_some.mp hg0
  have hl9 : e.platform.stackLimits (T.setVm s.vm).me = e.platform.stackLimits s.me := X.limits
  have hb9 : (T.setVm s.vm).me.stackBytes = s.me.stackBytes := X.bytes
  refine ⟨X.admits, X.cas, X.clock, hF, ?_, X.hears, X.method, X.code, X.here, X.tail, X.warmed, ?_, ?_, ?_⟩
  · have h := X.room
    have hU : ((T.setVm s.vm).setFrames (.invoking m args :: below)).localsInUse = s.localsInUse := by
      rw [State.localsInUse_invoking hF (meth := meth) (c := c) X.method X.code, State.localsInUse_invoking X.frames X.method X.code]
    simp only [State.hasRoom, Bool.and_eq_true, decide_eq_true_eq] at h ⊢
    obtain ⟨⟨⟨⟨h1, h2, h3, h4, h5, h6⟩, h7⟩, h8⟩, h9⟩ := h
    rw [X.frames, List.length_cons] at h2 h3
    have q1 := X.heapSize
    have q2 := X.used
    simp only [hF, hU, List.length_cons, State.stackLimits_setFrames, State.stackBytes_setFrames, hl9, hb9]
    refine ⟨⟨⟨⟨by omega, by omega, by omega, by omega, by omega, h6⟩, ?_⟩, ?_⟩, X.book⟩
    · show T.heap.size + R'.cells ≤ e.platform.maxCells
      omega
    · show T.slotsUsed + R'.slots ≤ e.platform.maxSlots
      omega
  · rw [State.stackLimits_setFrames]; rfl
  · rw [State.stackBytes_setFrames]; rfl
  · refine ⟨?_, Nat.le_refl _, Nat.le_refl _, ?_, ?_, fun a c9 h9 => ⟨c9, h9, rfl, rfl, fun _ _ => rfl⟩⟩
    · obtain ⟨t, ht, -⟩ := State.frames_cons hr
      show T.setVm s.vm = { ((T.setVm s.vm).setFrames (.invoking m args :: below)).setFrames (T.setVm s.vm).frames with heap := T.heap, slotsUsed := T.slotsUsed }
      rw [State.setFrames_setFrames, State.setFrames_self ht]
      rfl
    · show T.slotsUsed = T.slotsUsed + ((T.heap.toList.drop T.heap.size).map (·.slots.size)).sum
      rw [List.drop_eq_nil_of_le (Nat.le_of_eq Array.length_toList)]
      rfl
    · show ((T.heap.toList.drop T.heap.size).map (·.slots.size)).sum ≤ 0
      rw [List.drop_eq_nil_of_le (Nat.le_of_eq Array.length_toList)]
      exact Nat.le_refl _
/-- 'throw new E()': new; dup; invokespecial; athrow -/
theorem vx_throw0 {cc : ByteArray} {pc : Nat} (hexec : p.tables.exec = Jvm.exec) (hb : c.code = cc) (hl : l.stackTraces = false) {own cls : String} {names : List String} {ik ic mc ms : Nat} {A : Nat → Prop}
    (hown : s.vm.findClass own = some m.cls) (hcls : Bundle.fit cls = true) (hnames : ∀ n ∈ names, Bundle.fit n = true)
    (hk : (Cond.classLink own ik cls).before args s = true) (hini : (Cond.initialized cls).before args s = true) (hat : ∀ w ∈ vx_at0 own ic cls names, w.before args s = true)
    (hgood : ∀ w ∈ Cond.classLink own ik cls :: Cond.initialized cls :: vx_at0 own ic cls names, vx_ot w = true)
    (hU : vx_Zq Bundle.tN "UNASSIGNED_STACK" Bundle.steD A s s.heap) (hN : vx_Zq Bundle.tN "SUPPRESSED_SENTINEL" Bundle.listD A s s.heap) (hS : va_S A s.heap H locs) (hsize : ls.size = c.maxLocals)
    (d0 : decode cc pc = .ok (.new ik, 3)) (d3 : decode cc (pc + 3) = .ok (.dup, 1)) (d4 : decode cc (pc + 4) = .ok (.invokespecial ic, 3)) (d7 : decode cc (pc + 7) = .ok (.athrow, 1))
    (hout : ∀ x ∈ c.exceptionTable.toList, covers x (pc + 7) = false)
    (hRframes : names.length + 3 < R.frames) (hRlocals : (rest.map fun v => v.category).sum + (13 * (names.length + 1) + 42) ≤ R.locals) (hRcells : cells + 1 ≤ R.cells) (hRslots : slots + 6 ≤ R.slots) (hlocks : meth.locks = false)
    (hx : ∀ t : State, s.vm.Alike t.vm → H.size ≤ t.heap.size → (∀ q : Nat, q < H.size → t.heap[q]? = H[q]?) → XC cls s t)
    (hf : ∀ z ∈ locs, free z.base) (hc : cells + 1 ≤ mc) (hs : slots + 6 ≤ ms) :
    W p l e R s m args below meth c H locs cells slots (vx_MQ below Qc XC args s mc ms free) (F0 m pc ls rest) := by
  intro T hT X
  have htr : e.platform.stackTraces = false := (show e.platform.stackTraces = l.stackTraces by rw [X.admits.platform]).trans hl
  have Y := vx_rebase X (R' := { frames := R.frames, locals := R.locals, cells := 1, slots := 6 }) (Nat.le_refl _) (Nat.le_refl _) hRcells hRslots
  obtain ⟨s', hA⟩ : ∃ z, z = (T.setVm s.vm).setFrames (.invoking m args :: below) := ⟨_, rfl⟩
  rw [← hA] at Y
  have hvm : s'.vm = s.vm := by rw [hA]; rfl
  have hhp : s'.heap = H := by rw [hA]; exact hT
  have hW0 : s.WarmedH s'.vm := by rw [hvm]; exact State.WarmedH.refl s
  have hat' : ∀ w ∈ vx_at0 own ic cls names, w.before args s' = true := fun w hw => vx_ot_at hW0 hvm.symm (hgood w (List.mem_cons_of_mem _ (List.mem_cons_of_mem _ hw))) (hat w hw)
  have hk' : (Cond.classLink own ik cls).before args s' = true := vx_ot_at hW0 hvm.symm (hgood _ List.mem_cons_self) hk
  have hini' : (Cond.initialized cls).before args s' = true := vx_ot_at hW0 hvm.symm (hgood _ (List.mem_cons_of_mem _ List.mem_cons_self)) hini
  have hU' : vx_Zq Bundle.tN "UNASSIGNED_STACK" Bundle.steD A s' s'.heap := by rw [hhp]; exact vx_Zq.moved hW0.alike (hU.kept hS.2.1)
  have hN' : vx_Zq Bundle.tN "SUPPRESSED_SENTINEL" Bundle.listD A s' s'.heap := by rw [hhp]; exact vx_Zq.moved hW0.alike (hN.kept hS.2.1)
  have h : ∀ w ∈ Bundle.ownAtoms0 own ic cls names, w.before args s' = true := vx_own hat' (vx_isRefq hU'.1) (vx_isRefq hN'.1) hU'.2.word hN'.2.word
  have hown' : s'.vm.findClass own = some m.cls := by rw [hvm]; exact hown
  have hins : (Cond.instantiable cls 6).before args s' = true := h _ (by simp [Bundle.ownAtoms0])
  obtain ⟨vm₁, cX, kX, hfX, hkX, -, -, X₁, st1⟩ := Y.newCold hexec (own := own) (C := cls) (index := ik) (n := 6) hown' hk' hins hini'
    (g := F0 m pc ls rest) rfl (by rw [hb]; exact d0) (Nat.le_refl _) (Nat.le_refl _)
  generalize hT1 : (T.setVm vm₁).pushCell { cls := cX, slots := kX.instanceTypes.map defaultValue, vm := .none } = T1 at X₁ st1
  have hcat : (Value.ref T.heap.size).category = 1 := rfl
  have hcellA : T1.heap[T.heap.size]? = some (freshCell cX kX) := by rw [← hT1]; exact State.heap_pushCell_size _ _
  have d3' : decode c.code (pc + 3) = .ok (.dup, 1) := by rw [hb]; exact d3
  obtain ⟨U, hsteps, hrun, hend, hW, hsame, ce, hce, hO⟩ := X₁.ctorThrow0 hexec htr (own := own) (cls := cls) (names := names) (ic := ic) hown' hcls hnames h (fun x hx => nomatch hx) hfX hkX hcellA (by rw [hhp, hT]; exact Nat.le_refl _)
    (g := { method := m, pc := pc + 4, locals := ls, stack := .ref T.heap.size :: .ref T.heap.size :: rest, locked := none }) rfl hsize rfl rfl (rest := rest) rfl
    (by rw [hb]; exact d4) (by rw [hb]; exact d7) hout hRframes (by simp only [List.map_cons, List.sum_cons, hcat]; omega) hlocks
  obtain ⟨f1, f2⟩ := vx_frame hsame
  rw [hhp] at f1 f2
  have hWs : s.WarmedH U.vm := State.WarmedH.trans hW0 hW
  have hcl : s.vm.findClass cls = some ce.cls := by
    have h9 := hO.cls
    rw [hvm] at h9
    exact h9
  have hall : s.sameButNew ({ U with vm := s.vm } : State) locs mc ms := by
    subst hA
    obtain ⟨e1, e2⟩ := hsame
    rw [State.setFrames_setFrames] at e1
    have h2 : (T.setVm s.vm).sameButNew ({ U with vm := s.vm } : State) [] (0 + 1) (0 + 6) := ⟨e1, e2⟩
    have h3 := X.same.trans h2
    rw [List.append_nil] at h3
    exact h3.mono hc hs
  refine ⟨U, ?_, .threw T.heap.size, hrun, hend, Or.inr ⟨T.heap.size, rfl, cls, ce, locs, hx U hWs.alike f1 (fun q hq => f2 q hq (fun z hz => nomatch hz)), hce, hO.vm, hcl, hWs, hall, hf⟩⟩
  refine st1 _ ?_
  show Steps p.tables e below (T1.setTop { method := m, pc := pc + 3, locals := ls, stack := .ref T.heap.size :: rest, locked := none }) _
  jvm_step X₁.here [X₁.here.top, hexec, d3', Value.category]
  exact hsteps
/-- 'throw new E("text")': new; dup; ldc; invokespecial; athrow -/
theorem vx_throwS {cc : ByteArray} {pc : Nat} (hexec : p.tables.exec = Jvm.exec) (hb : c.code = cc) (hl : l.stackTraces = false) {own cls text : String} {names : List String} {ik is ic mc ms sa : Nat} {A : Nat → Prop}
    (hown : s.vm.findClass own = some m.cls) (hcls : Bundle.fit cls = true) (hnames : ∀ n ∈ names, Bundle.fit n = true)
    (hk : (Cond.classLink own ik cls).before args s = true) (hini : (Cond.initialized cls).before args s = true) (hstr : vk_R own is text sa s) (hat : ∀ w ∈ vx_atS own ic cls names, w.before args s = true)
    (hgood : ∀ w ∈ Cond.classLink own ik cls :: Cond.initialized cls :: vx_atS own ic cls names, vx_ot w = true)
    (hU : vx_Zq Bundle.tN "UNASSIGNED_STACK" Bundle.steD A s s.heap) (hN : vx_Zq Bundle.tN "SUPPRESSED_SENTINEL" Bundle.listD A s s.heap) (hS : va_S A s.heap H locs) (hsize : ls.size = c.maxLocals)
    (d0 : decode cc pc = .ok (.new ik, 3)) (d3 : decode cc (pc + 3) = .ok (.dup, 1)) (d4 : decode cc (pc + 4) = .ok (.ldc is, 2)) (d6 : decode cc (pc + 6) = .ok (.invokespecial ic, 3)) (d9 : decode cc (pc + 9) = .ok (.athrow, 1))
    (hout : ∀ x ∈ c.exceptionTable.toList, covers x (pc + 9) = false)
    (hRframes : names.length + 3 < R.frames) (hRlocals : (rest.map fun v => v.category).sum + (13 * (names.length + 1) + 43) ≤ R.locals) (hRcells : cells + 1 ≤ R.cells) (hRslots : slots + 6 ≤ R.slots) (hlocks : meth.locks = false)
    (hx : ∀ t : State, s.vm.Alike t.vm → H.size ≤ t.heap.size → (∀ q : Nat, q < H.size → t.heap[q]? = H[q]?) → XC cls s t)
    (hf : ∀ z ∈ locs, free z.base) (hc : cells + 1 ≤ mc) (hs : slots + 6 ≤ ms) :
    W p l e R s m args below meth c H locs cells slots (vx_MQ below Qc XC args s mc ms free) (F0 m pc ls rest) := by
  intro T hT X
  have htr : e.platform.stackTraces = false := (show e.platform.stackTraces = l.stackTraces by rw [X.admits.platform]).trans hl
  have Y := vx_rebase X (R' := { frames := R.frames, locals := R.locals, cells := 1, slots := 6 }) (Nat.le_refl _) (Nat.le_refl _) hRcells hRslots
  obtain ⟨s', hA⟩ : ∃ z, z = (T.setVm s.vm).setFrames (.invoking m args :: below) := ⟨_, rfl⟩
  rw [← hA] at Y
  have hvm : s'.vm = s.vm := by rw [hA]; rfl
  have hhp : s'.heap = H := by rw [hA]; exact hT
  have hW0 : s.WarmedH s'.vm := by rw [hvm]; exact State.WarmedH.refl s
  have hat' : ∀ w ∈ vx_atS own ic cls names, w.before args s' = true := fun w hw => vx_ot_at hW0 hvm.symm (hgood w (List.mem_cons_of_mem _ (List.mem_cons_of_mem _ hw))) (hat w hw)
  have hk' : (Cond.classLink own ik cls).before args s' = true := vx_ot_at hW0 hvm.symm (hgood _ List.mem_cons_self) hk
  have hini' : (Cond.initialized cls).before args s' = true := vx_ot_at hW0 hvm.symm (hgood _ (List.mem_cons_of_mem _ List.mem_cons_self)) hini
  have hU' : vx_Zq Bundle.tN "UNASSIGNED_STACK" Bundle.steD A s' s'.heap := by rw [hhp]; exact vx_Zq.moved hW0.alike (hU.kept hS.2.1)
  have hN' : vx_Zq Bundle.tN "SUPPRESSED_SENTINEL" Bundle.listD A s' s'.heap := by rw [hhp]; exact vx_Zq.moved hW0.alike (hN.kept hS.2.1)
  have h : ∀ w ∈ Bundle.ownAtoms own ic cls names, w.before args s' = true := vx_own hat' (vx_isRefq hU'.1) (vx_isRefq hN'.1) hU'.2.word hN'.2.word
  have hown' : s'.vm.findClass own = some m.cls := by rw [hvm]; exact hown
  have hins : (Cond.instantiable cls 6).before args s' = true := h _ (by simp [Bundle.ownAtoms])
  obtain ⟨vm₁, cX, kX, hfX, hkX, -, -, X₁, st1⟩ := Y.newCold hexec (own := own) (C := cls) (index := ik) (n := 6) hown' hk' hins hini'
    (g := F0 m pc ls rest) rfl (by rw [hb]; exact d0) (Nat.le_refl _) (Nat.le_refl _)
  generalize hT1 : (T.setVm vm₁).pushCell { cls := cX, slots := kX.instanceTypes.map defaultValue, vm := .none } = T1 at X₁ st1
  have hcat : (Value.ref T.heap.size).category = 1 := rfl
  have hcellA : T1.heap[T.heap.size]? = some (freshCell cX kX) := by rw [← hT1]; exact State.heap_pushCell_size _ _
  have d3' : decode c.code (pc + 3) = .ok (.dup, 1) := by rw [hb]; exact d3
  have d4' : decode c.code (pc + 4) = .ok (.ldc is, 2) := by rw [hb]; exact d4
  have hstr' : vk_R own is text sa s' := vk_R.warm hW0 hstr
  obtain ⟨U, hsteps, hrun, hend, hW, hsame, ce, hce, hO⟩ := X₁.ctorThrowS hexec htr (own := own) (cls := cls) (names := names) (ic := ic) hown' hcls hnames h (fun x hx => nomatch hx) hfX hkX hcellA (by rw [hhp, hT]; exact Nat.le_refl _) (msg := .ref sa) rfl
    (g := { method := m, pc := pc + 6, locals := ls, stack := .ref sa :: .ref T.heap.size :: .ref T.heap.size :: rest, locked := none }) rfl hsize rfl rfl (rest := rest) rfl
    (by rw [hb]; exact d6) (by rw [hb]; exact d9) hout hRframes (by simp only [List.map_cons, List.sum_cons, hcat]; omega) hlocks
  obtain ⟨f1, f2⟩ := vx_frame hsame
  rw [hhp] at f1 f2
  have hWs : s.WarmedH U.vm := State.WarmedH.trans hW0 hW
  have hcl : s.vm.findClass cls = some ce.cls := by
    have h9 := hO.cls
    rw [hvm] at h9
    exact h9
  have hall : s.sameButNew ({ U with vm := s.vm } : State) locs mc ms := by
    subst hA
    obtain ⟨e1, e2⟩ := hsame
    rw [State.setFrames_setFrames] at e1
    have h2 : (T.setVm s.vm).sameButNew ({ U with vm := s.vm } : State) [] (0 + 1) (0 + 6) := ⟨e1, e2⟩
    have h3 := X.same.trans h2
    rw [List.append_nil] at h3
    exact h3.mono hc hs
  refine ⟨U, ?_, .threw T.heap.size, hrun, hend, Or.inr ⟨T.heap.size, rfl, cls, ce, locs, hx U hWs.alike f1 (fun q hq => f2 q hq (fun z hz => nomatch hz)), hce, hO.vm, hcl, hWs, hall, hf⟩⟩
  refine st1 _ ?_
  show Steps p.tables e below (T1.setTop { method := m, pc := pc + 3, locals := ls, stack := .ref T.heap.size :: rest, locked := none }) _
  jvm_step X₁.here [X₁.here.top, hexec, d3', Value.category]
  exact X₁.ldcString hexec (own := own) (text := text) (index := is) (a := sa) hown' hstr'.1 hstr'.2
    (g := { method := m, pc := pc + 4, locals := ls, stack := .ref T.heap.size :: .ref T.heap.size :: rest, locked := none }) rfl d4' _ hsteps
/-- 'throw new E("text")', the text by a wide index -/
theorem vx_throwSW {cc : ByteArray} {pc : Nat} (hexec : p.tables.exec = Jvm.exec) (hb : c.code = cc) (hl : l.stackTraces = false) {own cls text : String} {names : List String} {ik is ic mc ms sa : Nat} {A : Nat → Prop}
    (hown : s.vm.findClass own = some m.cls) (hcls : Bundle.fit cls = true) (hnames : ∀ n ∈ names, Bundle.fit n = true)
    (hk : (Cond.classLink own ik cls).before args s = true) (hini : (Cond.initialized cls).before args s = true) (hstr : vk_R own is text sa s) (hat : ∀ w ∈ vx_atS own ic cls names, w.before args s = true)
    (hgood : ∀ w ∈ Cond.classLink own ik cls :: Cond.initialized cls :: vx_atS own ic cls names, vx_ot w = true)
    (hU : vx_Zq Bundle.tN "UNASSIGNED_STACK" Bundle.steD A s s.heap) (hN : vx_Zq Bundle.tN "SUPPRESSED_SENTINEL" Bundle.listD A s s.heap) (hS : va_S A s.heap H locs) (hsize : ls.size = c.maxLocals)
    (d0 : decode cc pc = .ok (.new ik, 3)) (d3 : decode cc (pc + 3) = .ok (.dup, 1)) (d4 : decode cc (pc + 4) = .ok (.ldc_w is, 3)) (d7 : decode cc (pc + 7) = .ok (.invokespecial ic, 3)) (d10 : decode cc (pc + 10) = .ok (.athrow, 1))
    (hout : ∀ x ∈ c.exceptionTable.toList, covers x (pc + 10) = false)
    (hRframes : names.length + 3 < R.frames) (hRlocals : (rest.map fun v => v.category).sum + (13 * (names.length + 1) + 43) ≤ R.locals) (hRcells : cells + 1 ≤ R.cells) (hRslots : slots + 6 ≤ R.slots) (hlocks : meth.locks = false)
    (hx : ∀ t : State, s.vm.Alike t.vm → H.size ≤ t.heap.size → (∀ q : Nat, q < H.size → t.heap[q]? = H[q]?) → XC cls s t)
    (hf : ∀ z ∈ locs, free z.base) (hc : cells + 1 ≤ mc) (hs : slots + 6 ≤ ms) :
    W p l e R s m args below meth c H locs cells slots (vx_MQ below Qc XC args s mc ms free) (F0 m pc ls rest) := by
  intro T hT X
  have htr : e.platform.stackTraces = false := (show e.platform.stackTraces = l.stackTraces by rw [X.admits.platform]).trans hl
  have Y := vx_rebase X (R' := { frames := R.frames, locals := R.locals, cells := 1, slots := 6 }) (Nat.le_refl _) (Nat.le_refl _) hRcells hRslots
  obtain ⟨s', hA⟩ : ∃ z, z = (T.setVm s.vm).setFrames (.invoking m args :: below) := ⟨_, rfl⟩
  rw [← hA] at Y
  have hvm : s'.vm = s.vm := by rw [hA]; rfl
  have hhp : s'.heap = H := by rw [hA]; exact hT
  have hW0 : s.WarmedH s'.vm := by rw [hvm]; exact State.WarmedH.refl s
  have hat' : ∀ w ∈ vx_atS own ic cls names, w.before args s' = true := fun w hw => vx_ot_at hW0 hvm.symm (hgood w (List.mem_cons_of_mem _ (List.mem_cons_of_mem _ hw))) (hat w hw)
  have hk' : (Cond.classLink own ik cls).before args s' = true := vx_ot_at hW0 hvm.symm (hgood _ List.mem_cons_self) hk
  have hini' : (Cond.initialized cls).before args s' = true := vx_ot_at hW0 hvm.symm (hgood _ (List.mem_cons_of_mem _ List.mem_cons_self)) hini
  have hU' : vx_Zq Bundle.tN "UNASSIGNED_STACK" Bundle.steD A s' s'.heap := by rw [hhp]; exact vx_Zq.moved hW0.alike (hU.kept hS.2.1)
  have hN' : vx_Zq Bundle.tN "SUPPRESSED_SENTINEL" Bundle.listD A s' s'.heap := by rw [hhp]; exact vx_Zq.moved hW0.alike (hN.kept hS.2.1)
  have h : ∀ w ∈ Bundle.ownAtoms own ic cls names, w.before args s' = true := vx_own hat' (vx_isRefq hU'.1) (vx_isRefq hN'.1) hU'.2.word hN'.2.word
  have hown' : s'.vm.findClass own = some m.cls := by rw [hvm]; exact hown
  have hins : (Cond.instantiable cls 6).before args s' = true := h _ (by simp [Bundle.ownAtoms])
  obtain ⟨vm₁, cX, kX, hfX, hkX, -, -, X₁, st1⟩ := Y.newCold hexec (own := own) (C := cls) (index := ik) (n := 6) hown' hk' hins hini'
    (g := F0 m pc ls rest) rfl (by rw [hb]; exact d0) (Nat.le_refl _) (Nat.le_refl _)
  generalize hT1 : (T.setVm vm₁).pushCell { cls := cX, slots := kX.instanceTypes.map defaultValue, vm := .none } = T1 at X₁ st1
  have hcat : (Value.ref T.heap.size).category = 1 := rfl
  have hcellA : T1.heap[T.heap.size]? = some (freshCell cX kX) := by rw [← hT1]; exact State.heap_pushCell_size _ _
  have d3' : decode c.code (pc + 3) = .ok (.dup, 1) := by rw [hb]; exact d3
  have d4' : decode c.code (pc + 4) = .ok (.ldc_w is, 3) := by rw [hb]; exact d4
  have hstr' : vk_R own is text sa s' := vk_R.warm hW0 hstr
  obtain ⟨U, hsteps, hrun, hend, hW, hsame, ce, hce, hO⟩ := X₁.ctorThrowS hexec htr (own := own) (cls := cls) (names := names) (ic := ic) hown' hcls hnames h (fun x hx => nomatch hx) hfX hkX hcellA (by rw [hhp, hT]; exact Nat.le_refl _) (msg := .ref sa) rfl
    (g := { method := m, pc := pc + 7, locals := ls, stack := .ref sa :: .ref T.heap.size :: .ref T.heap.size :: rest, locked := none }) rfl hsize rfl rfl (rest := rest) rfl
    (by rw [hb]; exact d7) (by rw [hb]; exact d10) hout hRframes (by simp only [List.map_cons, List.sum_cons, hcat]; omega) hlocks
  obtain ⟨f1, f2⟩ := vx_frame hsame
  rw [hhp] at f1 f2
  have hWs : s.WarmedH U.vm := State.WarmedH.trans hW0 hW
  have hcl : s.vm.findClass cls = some ce.cls := by
    have h9 := hO.cls
    rw [hvm] at h9
    exact h9
  have hall : s.sameButNew ({ U with vm := s.vm } : State) locs mc ms := by
    subst hA
    obtain ⟨e1, e2⟩ := hsame
    rw [State.setFrames_setFrames] at e1
    have h2 : (T.setVm s.vm).sameButNew ({ U with vm := s.vm } : State) [] (0 + 1) (0 + 6) := ⟨e1, e2⟩
    have h3 := X.same.trans h2
    rw [List.append_nil] at h3
    exact h3.mono hc hs
  refine ⟨U, ?_, .threw T.heap.size, hrun, hend, Or.inr ⟨T.heap.size, rfl, cls, ce, locs, hx U hWs.alike f1 (fun q hq => f2 q hq (fun z hz => nomatch hz)), hce, hO.vm, hcl, hWs, hall, hf⟩⟩
  refine st1 _ ?_
  show Steps p.tables e below (T1.setTop { method := m, pc := pc + 3, locals := ls, stack := .ref T.heap.size :: rest, locked := none }) _
  jvm_step X₁.here [X₁.here.top, hexec, d3', Value.category]
  exact X₁.ldcStringW hexec (own := own) (text := text) (index := is) (a := sa) hown' hstr'.1 hstr'.2
    (g := { method := m, pc := pc + 4, locals := ls, stack := .ref T.heap.size :: .ref T.heap.size :: rest, locked := none }) rfl d4' _ hsteps
end Ends
section Bodies
variable {l : Launch}
theorem vx_ofW {y : MethodName} {ws ws' : List Cond} {rm : Room} {Pc : Array Value → State → Prop} {Qc : Array Value → State → Outcome → State → Prop} {XC : String → State → State → Prop} {mc ms : Nat} {free : Addr → Prop} {cc : ByteArray} {maxL : Nat} {ret : Option FieldType}
    (hy : plainName y.cls = true) (hw : ws = Cond.code y cc maxL ret :: ws')
    (body : ∀ p e s m args below meth c s₁, BodyLoose p l y (headSpec ws rm) cc maxL ret e s m args below meth c s₁ → c.maxLocals = maxL → (∀ x ∈ c.exceptionTable.toList, False) → Pc args s →
      W p l e (headSpec ws rm).room s m args below meth c s.heap [] 0 0 (vx_MQ below Qc XC args s mc ms free) (entryFrame m args maxL)) : vx_Met l y ws rm Pc Qc XC mc ms free := by
  refine MetFree.of_bodyS (code := cc) (maxLocals := maxL) (ret := ret) hy ?_ ?_
  · intro args s m h hn
    obtain ⟨meth, c, h1, h2, h3, h4, h5, h6, -, -⟩ := Cond.code_spec hn (atoms_spec (ws := ws) h _ (by rw [hw]; exact List.mem_cons_self))
    exact ⟨meth, c, h1, h2, h3, h4, h5, h6⟩
  · intro p e s m args below meth c s₁ B hml hP _
    have hh0 : s₁.heap = s.heap := by rw [B.state]; rfl
    have ht : ∀ x ∈ c.exceptionTable.toList, False := by
      obtain ⟨meth9, c9, h1, h2, -, -, -, -, h7, -⟩ := Cond.code_spec B.named (atoms_spec (ws := ws) B.pre _ (by rw [hw]; exact List.mem_cons_self))
      cases Option.some.inj (h1.symm.trans B.method)
      cases Option.some.inj (h2.symm.trans (Stand.of_body B).code)
      intro x hx
      rw [Array.isEmpty_iff.mp h7] at hx
      cases hx
    obtain ⟨t, a1, o, b1, b2, b3⟩ := body p e s m args below meth c s₁ B hml ht hP s₁ hh0 (Stand.of_body B)
    exact ⟨t, o, a1, b1, b2, b3⟩
/-- the table of a body with handlers -/
theorem vx_table {p : Program} {x y : MethodName} {S : Spec} {cc bytes : ByteArray} {maxL maxL' : Nat} {ret ret' : Option FieldType} {e : Env} {s s₁ : State} {m : MethodId} {args : Array Value} {below : List Frame} {meth : Method} {c : Code} {hh : List (Nat × Nat × Nat × Nat)}
    (B : BodyLoose p l y S cc maxL ret e s m args below meth c s₁) (h : (Cond.codeWith y bytes maxL' ret' hh).before args s = true) : c.exceptionTable.toList = tableOf hh := by
  obtain ⟨m9, meth9, c9, hn9, h1, h2, -, -, h6, -⟩ := Cond.codeWith_spec h
  cases Option.some.inj (hn9.symm.trans B.named)
  cases Option.some.inj (h1.symm.trans B.method)
  cases Option.some.inj (h2.symm.trans (Stand.of_body B).code)
  rw [← h6, table_eq]
end Bodies
end VXA
/-! ===== END ===== -/
/-! ===== BEGIN a static call of a method with an exception table ===== -/
section VXS
variable {p : Program} {l : Launch} {e : Env} {R : Room} {s : State} {m : MethodId} {args : Array Value} {below : List Frame} {meth : Method} {c : Code} {T : State} {H : Heap} {locs : List Loc} {cells slots : Nat}
abbrev vx_CSW (R : Room) (s : State) (args : Array Value) (own : String) (index : Nat) (y : MethodName) (bytes : ByteArray) (maxL : Nat) (ret : Option FieldType) (hh : List (Nat × Nat × Nat × Nat)) (ws : List Cond) (rm : Room) (mc ms n : Nat) : Prop :=
  (rm.cells = mc ∧ rm.slots = ms ∧ rm.frames + 1 ≤ R.frames ∧ 8 + (maxL + 11) + rm.locals ≤ R.locals ∧ (∀ w ∈ ws, ∀ (a' : Array Value) (U : State), s.WarmedH U.vm → w.before a' U = true) ∧ Cond.codeWith y bytes maxL ret hh ∈ ws) ∧
  (Cond.codeWith y bytes maxL ret hh).before args s = true ∧ (Cond.initialized y.cls).before args s = true ∧ (y.cls ≠ "java/lang/invoke/MethodHandle" ∧ y.cls ≠ "java/lang/invoke/VarHandle") ∧
  (∀ sig, parseMethodDescriptor y.desc = some sig → n = sig.parameters.length) ∧ (Cond.methodLink own index y).before args s = true ∧ (Cond.static y).before args s = true
theorem vx_cwSW {own : String} {index maxL mc ms : Nat} {y : MethodName} {bytes : ByteArray} {ret : Option FieldType} {hh : List (Nat × Nat × Nat × Nat)} {Ts ws ws' : List Cond} {rm : Room} (n : Nat) (ht : ∀ w ∈ Ts, w.before args s = true) (hT : GoodIn Ts (va_wsS own index y ws)) (hw : ws = Cond.codeWith y bytes maxL ret hh :: ws') (hrc : rm.cells = mc) (hrs : rm.slots = ms)
    (hd : y.cls ≠ "java/lang/invoke/MethodHandle" ∧ y.cls ≠ "java/lang/invoke/VarHandle" ∧ (parseMethodDescriptor y.desc).map (fun d => d.parameters.length) = some n) (hR : rm.frames + 1 ≤ R.frames ∧ 8 + (maxL + 11) + rm.locals ≤ R.locals) :
    vx_CSW R s args own index y bytes maxL ret hh ws rm mc ms n := by
  have ok : ∀ w ∈ va_wsS own index y ws, w.before args s = true := fun w h => ht w (hT w h).1
  have hG : GoodIn Ts ws := fun w h => hT w (by unfold va_wsS; exact List.mem_append_right _ h)
  have hc : Cond.codeWith y bytes maxL ret hh ∈ ws := by rw [hw]; exact List.mem_cons_self
  refine ⟨⟨hrc, hrs, hR.1, hR.2, pay_in ht hG, hc⟩, ht _ (hG _ hc).1, ok _ (by simp [va_wsS]), ⟨hd.1, hd.2.1⟩, fun sig h => ?_, ok _ (by simp [va_wsS]), ok _ (by simp [va_wsS])⟩
  have h2 := hd.2.2
  rw [h] at h2
  exact (Option.some.inj h2).symm
theorem vx_callSW (X : Stand p l e R s m args below meth c T locs cells slots) (hexec : p.tables.exec = Jvm.exec) {own : String} {index : Nat} {y : MethodName} {bytes : ByteArray} {maxL : Nat} {ret : Option FieldType} {hh : List (Nat × Nat × Nat × Nat)}
    (hown : s.vm.findClass own = some m.cls) (hlink : (Cond.methodLink own index y).before args s = true) (hstat : (Cond.static y).before args s = true) (hinit : (Cond.initialized y.cls).before args s = true)
    (hcode : (Cond.codeWith y bytes maxL ret hh).before args s = true) (hy : y.cls ≠ "java/lang/invoke/MethodHandle" ∧ y.cls ≠ "java/lang/invoke/VarHandle")
    {W9 : Nat} {Pre : Pt → Array Value → Prop} {Post : Pt → Array Value → Option Value → Pt → Prop} (hK : Back l R p e below s args y 3 W9 Pre Post)
    {g : JFrame} (hg : g.method = m) (hsize : g.locals.size = c.maxLocals) {argsL rest : List Value} (hlen : ∀ sig, parseMethodDescriptor y.desc = some sig → argsL.length = sig.parameters.length)
    (hstack : g.stack = argsL.reverse ++ rest) (hW : 2 * g.monitorRoom + (rest.map fun v => v.category).sum ≤ W9) (hdg : decode c.code g.pc = .ok (.invokestatic index, 3))
    (hpre : ∀ vm₁, s.WarmedH vm₁ → Pre ⟨T.setVm vm₁, locs, cells, slots⟩ argsL.toArray) :
    ∃ (v : Option Value) (vm₁ : Vm) (B : Pt), s.WarmedH vm₁ ∧ Stand p l e R s m args below meth c B.U B.locs B.cells B.slots ∧ Post ⟨T.setVm vm₁, locs, cells, slots⟩ argsL.toArray v B ∧
      ∀ target, Steps p.tables e below (B.U.setTop { g with pc := g.pc + 3, stack := v.toList ++ rest }) target → Steps p.tables e below (T.setTop g) target := by
  obtain ⟨mk, methM, cM, hnamed, hmethM, -, -, -, -, -, -, hsigM⟩ := Cond.codeWith_spec hcode
  have hstatic : methM.isStatic = true := Cond.static_spec hnamed hmethM hstat
  obtain ⟨kP, hkP, -⟩ := className_of_methodNamed hnamed
  have hinitP : kP.init = .initialized := Cond.initialized_spec (findClass_of_methodNamed hnamed) hkP hinit
  obtain ⟨vm₁, X₁, hstep₁⟩ := X.invokestatic hexec hown hlink hnamed hmethM hstatic hkP hinitP hy (g := g) hg (argsL := argsL) (rest := rest) (hlen _ hsigM) hstack hdg
  obtain ⟨v, B, X', hpost, hsteps⟩ := hK m meth c ⟨T.setVm vm₁, locs, cells, slots⟩ { g with stack := rest } (.invokestatic index) mk argsL.toArray X₁ hg hsize hdg hW (X₁.named hnamed) (hpre vm₁ X₁.warmed)
  exact ⟨v, vm₁, B, X₁.warmed, X', hpost, fun target h => hstep₁ _ fun acts => by rw [doInvoke_state]; exact hsteps.trans h⟩
theorem vx_runSW {y : MethodName} {bytes cc : ByteArray} {maxL nL mc ms n index : Nat} {ret : Option FieldType} {hh : List (Nat × Nat × Nat × Nat)} {ws : List Cond} {rm : Room} {Pc : Array Value → State → Prop} {Qc : Array Value → State → Outcome → State → Prop} {free : Addr → Prop} {Ts : List Cond} {own : String} {As rest : List Value} {g : JFrame}
    (S : CallFix p m c cc nL s args Ts own) (hM : Met l y ws rm Pc Qc mc ms free) (cw : vx_CSW R s args own index y bytes maxL ret hh ws rm mc ms n) (hp : PreS s H Pc As)
    (hg : g.method = m) (hn : As.length = n) (hsize : g.locals.size = nL) (hstack : g.stack = As.reverse ++ rest) (hW : 2 * g.monitorRoom + (rest.map fun v => v.category).sum ≤ 8) (hdg : decode cc g.pc = .ok (.invokestatic index, 3)) (hf : cells + mc ≤ R.cells ∧ slots + ms ≤ R.slots) :
    va_Run p l e R s m args below meth c H locs cells slots mc ms g rest (Qc As.toArray) (free) := by
  obtain ⟨⟨hrc, hrs, hfr, hlo, hws, hcw⟩, hcode, hini, hy, hlen, hl, hstt⟩ := cw
  have hK : Back l R p e below s args y 3 8 (PreOf R mc ms Pc) (PostOf Qc mc ms free) := va_backW (hh := hh) (bytes := bytes) (maxL := maxL) (ret := ret) hM hp.1 hrc hrs hfr hlo hws hcw (fun a' U hW => word_at hW (Or.inl (by first | rfl | simp [Cond.onTables, Cond.keeps, Cond.steady])) hini)
  obtain ⟨hx, hb, hml, ho, -⟩ := S
  intro T hT X
  obtain ⟨v, vm₁, ⟨U', l2, c2, s2⟩, hW₁, X', ⟨g', mk, t, L, e1, e2, hq, h1, hL, h2, h3⟩, st⟩ := vx_callSW X hx (hh := hh) (bytes := bytes) (maxL := maxL) (ret := ret) ho hl hstt hini hcode hy hK hg (hsize.trans hml.symm) (argsL := As) (rest := rest) (fun sig h => hn.trans (hlen sig h)) hstack hW (by rw [hb]; exact hdg)
    (fun vm₁ hW₁ => ⟨hf.1, hf.2, hp.2 (T.setVm vm₁) hT hW₁⟩)
  dsimp only [Pt.U, Pt.locs, Pt.cells, Pt.slots] at X' e1 e2 h1 h2 h3 st
  subst h1; subst h2; subst h3
  exact ⟨v, (T.setVm vm₁).calling g' mk As.toArray, t, U', L, hT, X', hL, e1, e2, hq, st⟩
/-- not caught here, past rows that name other classes: it goes on to the caller -/
theorem vx_outP {p : Program} {l : Launch} {e : Env} {R : Room} {s : State} {m : MethodId} {args : Array Value} {below : List Frame} {meth : Method} {c : Code} {H : Heap} {locs : List Loc} {cells slots : Nat} {free : Addr → Prop} {ls : Array Slot} {rest : List Value} {Qc : Array Value → State → Outcome → State → Prop} {XC : String → State → State → Prop}
    {pc : Nat} {own E : String} {ce : Cell} {q : Addr} {mc ms : Nat} (hown : s.vm.findClass own = some m.cls) (hlocks : meth.locks = false)
    (hpass : ∀ z ∈ c.exceptionTable.toList, covers z pc = false ∨ (z.catchType ≠ 0 ∧ ∃ nm : String, (Cond.classLink own z.catchType nm).before args s = true ∧ va_Nc E nm s)) (hcell : H[q]? = some ce) (hv : ce.vm = .none) (hcl : s.vm.findClass E = some ce.cls)
    (hx : ∀ t : State, t.heap = H → s.vm.Alike t.vm → XC E s t) (hf : ∀ z ∈ locs, free z.base) (hc : cells ≤ mc) (hs : slots ≤ ms) :
    vx_W p l e R s m args below meth c H locs cells slots (vx_MQ below Qc XC args s mc ms free) (F0 m pc ls rest) q := by
  intro T hT X
  have hpl : e.platform.magicAccessors = ({} : Platform).magicAccessors := by rw [X.admits.platform]
  obtain ⟨vm', hW', X', st⟩ := X.outThrough hlocks q (g := F0 m pc ls rest) rfl rfl rfl (cell := ce) (by rw [hT]; exact hcell) (by rw [hv]; rfl)
    (by obtain ⟨k9, h9, -⟩ := Vm.findClass_spec hcl; exact ⟨k9, h9⟩) (fun z hz => by
      rcases hpass z hz with h | ⟨hz0, nm, hl1, hn1⟩
      · exact Or.inl h
      · obtain ⟨c6, hc6, hcl6⟩ := Cond.classLink_spec hown hl1 e.platform hpl
        obtain ⟨a8, b8, h1, h2, h3⟩ := hn1
        cases Option.some.inj (h1.symm.trans hcl)
        cases Option.some.inj (h2.symm.trans hc6)
        exact Or.inr ⟨hz0, _, hcl6, h3⟩)
  obtain ⟨g₀, hfr⟩ := X'.frames_eq
  have hcell9 : ((T.setVm vm').setFrames (.throwing q :: below)).heap[q]? = some ce := by
    show T.heap[q]? = some ce
    rw [hT]; exact hcell
  have hend : Ended ((T.setVm vm').setFrames (.throwing q :: below)) below (.threw q) := State.frames_setFrames _ (State.cur_lt_of_frames hfr)
  refine ⟨(T.setVm vm').setFrames (.throwing q :: below), ?_, .threw q, X'.here.running, hend, Or.inr ⟨q, rfl, E, ce, locs, hx _ hT (X'.ends _).1.alike, hcell9, hv, hcl, (X'.ends _).1, (X'.ends _).2.mono hc hs, hf⟩⟩
  rw [X.pushThrowing_eq]
  exact st
/-- a thing of a world lies in the heap -/
theorem vx_lt {D : va_G} {cl : List vw_C} {ws : va_W} {H1 : Heap} (h : va_P D cl ws H1) {k : Nat} {q : Nat × va_E} (hk : ws[k]? = some q) : q.1 < H1.size := (h k q hk).lt
end VXS
/-! ===== END ===== -/
/-! ===== BEGIN methods with a table of their own: called by a name, returning or throwing ===== -/
section VXH
/-! vx_backW, vx_callVX, vx_callSX, vx_callVW, vx_runVW, vx_runVX, vx_runSX, vx_ofWH follow the same proofs as their sisters above (Free/Laws.lean, Shelf42/LK1.lean); vx_outP calls Shelf42/NT130.lean (outThrough). -/
section
variable {l : Launch} {R : Room} {p : Program} {e : Env} {below : List Frame} {s : State} {sargs : Array Value} {y : MethodName} {len W9 : Nat}
theorem vx_backW {ws : List Cond} {rm : Room} {Pc : Array Value → State → Prop} {Qc : Array Value → State → Outcome → State → Prop} {XC : String → State → State → Prop} {mc ms : Nat} {free : Addr → Prop} {bytes : ByteArray} {maxL : Nat} {ret : Option FieldType} {hh : List (Nat × Nat × Nat × Nat)}
    (hM : vx_Met l y ws rm Pc Qc XC mc ms free) (hblind : FrameBlind Pc) (hrc : rm.cells = mc) (hrs : rm.slots = ms)
    (hframes : rm.frames + 1 ≤ R.frames) (hlocals : W9 + (maxL + 11) + rm.locals ≤ R.locals)
    (hws : ∀ w ∈ ws, ∀ a' U, s.WarmedH U.vm → w.before a' U = true) (hcode : Cond.codeWith y bytes maxL ret hh ∈ ws) (hinit : ∀ a' U, s.WarmedH U.vm → (Cond.initialized y.cls).before a' U = true) :
    vx_Back l R p e below s sargs y len W9 (PreOf R mc ms Pc) (PostOf Qc mc ms free) (vx_Post XC mc ms free) := by
  intro m meth c A g ig mk a X hg hsize hdg hW hn hp
  have h1 : (headSpec ws rm).pre.before a A.U = true := atoms_intro fun w hw => hws w hw _ _ X.warmed
  have h2 : (Cond.codeWith y bytes maxL ret hh).before a A.U = true := hws _ hcode _ _ X.warmed
  have h3 : (Cond.initialized y.cls).before a A.U = true := hinit _ _ X.warmed
  have h4 : A.cells + (headSpec ws rm).room.cells ≤ R.cells := by rw [show (headSpec ws rm).room.cells = mc from hrc]; exact hp.1
  have h5 : A.slots + (headSpec ws rm).room.slots ≤ R.slots := by rw [show (headSpec ws rm).room.slots = ms from hrs]; exact hp.2.1
  have hPc : Pc a (A.U.calling g mk a) := hblind _ _ _ _ hp.2.2
  obtain ⟨U, Ls, c0, s0⟩ := A
  dsimp only [Pt.U, Pt.locs, Pt.cells, Pt.slots] at h1 h2 h3 h4 h5 X hn hPc ⊢
  obtain ⟨m9, methY, cY, hn9, hmY, hcY, -, hlY, -⟩ := Cond.codeWith_spec h2
  cases Option.some.inj (hn9.symm.trans hn)
  obtain ⟨kY, hkY, -⟩ := className_of_methodNamed hn
  have hinitY : kY.init = .initialized := Cond.initialized_spec (findClass_of_methodNamed hn) hkY h3
  have h : At U g.method c below := by rw [hg]; exact X.here
  have hlocals9 : W9 + (maxL + 11) + (headSpec ws rm).room.locals ≤ R.locals := hlocals
  have happ : (headSpec ws rm).appliesLoose y e.platform (U.calling g mk a) = true :=
    Spec.appliesLoose_calling (g := g) h hdg hn hkY hinitY
      (X.room_calling (g := g) (R' := (headSpec ws rm).room) hsize hmY hcY hframes (by rw [hlY]; omega) h4 h5) h1
  obtain ⟨mid, hmid⟩ := h.above
  have hfr : (U.setTop g).frames = (.java g :: mid) ++ below := by rw [State.frames_setTop' g h.top, hmid]; rfl
  obtain ⟨o, s₂, hsteps, -, hend, hq⟩ := Steps.callFree hM p X.admits X.cas X.clock (acts := []) hfr happ hPc trivial
  have hq' : vx_Q Qc XC mc ms free a (U.calling g mk a) o s₂ := hq
  rw [State.frames_setTop' g h.top] at hend
  obtain ⟨g₀, hg0⟩ := Option.isSome_iff_exists.mp h.top
  obtain ⟨r, hr⟩ := State.topJava?_eq_some.mp hg0
  have hr' : (({ U with heap := s₂.heap, slotsUsed := s₂.slotsUsed } : State).setVm s₂.vm).frames = .java g₀ :: r := hr
  rcases hq' with ⟨hqc, L, hfe, hL⟩ | ⟨q, rfl, E, ce, L, hx, hce, hcv, hcl, hW₂, hsm, hL⟩
  · obtain ⟨⟨v, rfl⟩, hW₂, e2, q2, q3, q4, q5, q6⟩ := id hfe
    have e3 : s₂ = ({ (U.calling g mk a).setFrames s₂.frames with heap := s₂.heap, slotsUsed := s₂.slotsUsed } : State).setVm s₂.vm := by
      have : s₂ = ({ s₂ with vm := (U.calling g mk a).vm } : State).setVm s₂.vm := rfl
      rw [e2] at this
      exact this
    obtain ⟨c₂, i₂, len₂, hc₂, hd₂, hf₂⟩ := hend
    have hW' : U.WarmedH s₂.vm := hW₂
    have hcc : c₂ = c := by
      have h1 : s₂.code? g.method = U.code? g.method := by
        rw [State.code?_eq, State.code?_eq, hW'.alike.method?]
      exact Option.some.inj (hc₂.symm.trans (h1.trans h.code))
    subst hcc
    have hlen : len₂ = len := by rw [hdg] at hd₂; cases hd₂; rfl
    subst hlen
    have hs₂ : s₂ = (({ U with heap := s₂.heap, slotsUsed := s₂.slotsUsed } : State).setVm s₂.vm).setTop { g with pc := g.pc + len₂, stack := v.toList ++ g.stack } := by
      refine e3.trans ?_
      rw [hf₂, State.calling_eq h.top, State.setFrames_setFrames, State.setTop_of_frames _ hr', hr]
      rfl
    have hsame : U.sameButNew ({ U with heap := s₂.heap, slotsUsed := s₂.slotsUsed } : State) L mc ms := by
      refine ⟨?_, q2, q3, q4, q5, q6⟩
      obtain ⟨t, ht, -⟩ := State.frames_cons hr
      show ({ U with heap := s₂.heap, slotsUsed := s₂.slotsUsed } : State) = { U.setFrames U.frames with heap := s₂.heap, slotsUsed := s₂.slotsUsed }
      rw [State.setFrames_self ht]
    subst hg
    refine Or.inl ⟨v, ⟨(({ U with heap := s₂.heap, slotsUsed := s₂.slotsUsed } : State).setVm s₂.vm), Ls ++ L, c0 + mc, s0 + ms⟩,
      ⟨X.admits, X.cas, X.clock, X.frames, X.room, X.hears, X.method, X.code, (X.here.setHeapUsed s₂.heap s₂.slotsUsed).setVm hW'.alike, X.tail, State.WarmedH.trans X.warmed hW', X.limits, X.bytes, X.same.trans (hsame.setVm s.vm)⟩,
      ⟨g, mk, s₂, L, rfl, rfl, hqc, rfl, hL, rfl, rfl⟩, ?_⟩
    show Steps p.tables e below _ ((({ U with heap := s₂.heap, slotsUsed := s₂.slotsUsed } : State).setVm s₂.vm).setTop { g with pc := g.pc + len₂, stack := v.toList ++ g.stack })
    rw [← hs₂]
    exact hsteps
  · obtain ⟨e2, q2, q3, q4, q5, q6⟩ := id hsm
    have e3 : s₂ = ({ (U.calling g mk a).setFrames s₂.frames with heap := s₂.heap, slotsUsed := s₂.slotsUsed } : State).setVm s₂.vm := by
      have : s₂ = ({ s₂ with vm := (U.calling g mk a).vm } : State).setVm s₂.vm := rfl
      rw [e2] at this
      exact this
    have hf₂ : s₂.frames = .throwing q :: .java g :: U.frames.tail := hend
    have hW' : U.WarmedH s₂.vm := hW₂
    have hs₂ : s₂ = ((({ U with heap := s₂.heap, slotsUsed := s₂.slotsUsed } : State).setVm s₂.vm).setTop g).pushFrame (.throwing q) := by
      refine e3.trans ?_
      rw [hf₂, State.calling_eq h.top, State.setFrames_setFrames, State.pushFrame, State.frames_setTop _ hr', State.setTop_of_frames _ hr', State.setFrames_setFrames, hr]
      rfl
    have hsame : U.sameButNew ({ U with heap := s₂.heap, slotsUsed := s₂.slotsUsed } : State) L mc ms := by
      refine ⟨?_, q2, q3, q4, q5, q6⟩
      obtain ⟨t, ht, -⟩ := State.frames_cons hr
      show ({ U with heap := s₂.heap, slotsUsed := s₂.slotsUsed } : State) = { U.setFrames U.frames with heap := s₂.heap, slotsUsed := s₂.slotsUsed }
      rw [State.setFrames_self ht]
    subst hg
    refine Or.inr ⟨q, ⟨(({ U with heap := s₂.heap, slotsUsed := s₂.slotsUsed } : State).setVm s₂.vm), Ls ++ L, c0 + mc, s0 + ms⟩,
      ⟨X.admits, X.cas, X.clock, X.frames, X.room, X.hears, X.method, X.code, (X.here.setHeapUsed s₂.heap s₂.slotsUsed).setVm hW'.alike, X.tail, State.WarmedH.trans X.warmed hW', X.limits, X.bytes, X.same.trans (hsame.setVm s.vm)⟩,
      ⟨g, mk, s₂, L, E, ce, rfl, rfl, hx, hce, hcv, hcl, rfl, hL, rfl, rfl⟩, ?_⟩
    show Steps p.tables e below _ (((({ U with heap := s₂.heap, slotsUsed := s₂.slotsUsed } : State).setVm s₂.vm).setTop g).pushFrame (.throwing q))
    rw [← hs₂]
    exact hsteps
end
variable {p : Program} {l : Launch} {e : Env} {R : Room} {s : State} {m : MethodId} {args : Array Value} {below : List Frame} {meth : Method} {c : Code} {T : State} {H : Heap} {locs : List Loc} {cells slots : Nat}
theorem vx_callVX (X : Stand p l e R s m args below meth c T locs cells slots) (hexec : p.tables.exec = Jvm.exec) {own C : String} {index : Nat} {y : MethodName} {bytes : ByteArray} {maxL : Nat} {ret : Option FieldType} {hh : List (Nat × Nat × Nat × Nat)}
    (hown : s.vm.findClass own = some m.cls) (hlink : (Cond.methodLink own index y).before args s = true) (hinst : (Cond.instanceMethod y).before args s = true) (hsel : (Cond.selects C y y).before args s = true)
    (hcode : (Cond.codeWith y bytes maxL ret hh).before args s = true) (hy : y.cls ≠ "java/lang/invoke/MethodHandle" ∧ y.cls ≠ "java/lang/invoke/VarHandle")
    {W9 : Nat} {Pre : Pt → Array Value → Prop} {Post : Pt → Array Value → Option Value → Pt → Prop} {PostX : Pt → Array Value → Addr → Pt → Prop} (hK : vx_Back l R p e below s args y 3 W9 Pre Post PostX)
    {b : Addr} {cellB : Cell} (hcell : T.heap[b]? = some cellB) (hobj : cellB.vm.isStatics = false) (hcls : s.vm.findClass C = some cellB.cls)
    {g : JFrame} (hg : g.method = m) (hsize : g.locals.size = c.maxLocals) {argsL rest : List Value} (hlen : ∀ sig, parseMethodDescriptor y.desc = some sig → argsL.length = sig.parameters.length)
    (hstack : g.stack = argsL.reverse ++ .ref b :: rest) (hW : 2 * g.monitorRoom + (rest.map fun v => v.category).sum ≤ W9) (hdg : decode c.code g.pc = .ok (.invokevirtual index, 3))
    (hpre : ∀ vm₁, s.WarmedH vm₁ → Pre ⟨T.setVm vm₁, locs, cells, slots⟩ (Value.ref b :: argsL).toArray) :
    (∃ (v : Option Value) (vm₁ : Vm) (B : Pt), s.WarmedH vm₁ ∧ Stand p l e R s m args below meth c B.U B.locs B.cells B.slots ∧ Post ⟨T.setVm vm₁, locs, cells, slots⟩ (Value.ref b :: argsL).toArray v B ∧
      ∀ target, Steps p.tables e below (B.U.setTop { g with pc := g.pc + 3, stack := v.toList ++ rest }) target → Steps p.tables e below (T.setTop g) target) ∨
    (∃ (q : Addr) (vm₁ : Vm) (B : Pt), s.WarmedH vm₁ ∧ Stand p l e R s m args below meth c B.U B.locs B.cells B.slots ∧ PostX ⟨T.setVm vm₁, locs, cells, slots⟩ (Value.ref b :: argsL).toArray q B ∧
      Steps p.tables e below (T.setTop g) ((B.U.setTop { g with stack := rest }).pushFrame (.throwing q))) := by
  obtain ⟨mk, methM, hnamed, hmethM, hstM, habM⟩ := Cond.instanceMethod_spec hinst
  obtain ⟨m8, methM', cM, hn8, hmethM', -, -, -, -, -, -, hsigM⟩ := Cond.codeWith_spec hcode
  cases Option.some.inj (hn8.symm.trans hnamed)
  cases hmethM.symm.trans hmethM'
  obtain ⟨c2, r2, m2, q1, q2, q3, q4, kP, hkP, hkPi⟩ := Cond.selects_spec hsel
  cases hcls.symm.trans q1
  cases (State.methodFound?_of_named hnamed hy).symm.trans q2
  cases hnamed.symm.trans q3
  have hselP : selectMethod e.platform s.vm cellB.cls mk = .method mk := by rw [Launch.admits_selectMethod X.admits]; exact q4
  obtain ⟨vm₁, X₁, hstep₁⟩ := X.invokevirtual hexec hown hlink hnamed hmethM hstM hkP hkPi hy (a := b) (cell := cellB) hcell
    (fun z h => by rw [h] at hobj; cases hobj) hselP hmethM habM hkP hkPi (g := g) hg (argsL := argsL) (rest := rest) (hlen _ hsigM) hstack hdg
  rcases hK m meth c ⟨T.setVm vm₁, locs, cells, slots⟩ { g with stack := rest } (.invokevirtual index) mk (Value.ref b :: argsL).toArray X₁ hg hsize hdg hW (X₁.named hnamed) (hpre vm₁ X₁.warmed) with ⟨v, B, X', hpost, hsteps⟩ | ⟨q, B, X', hpost, hsteps⟩
  · exact Or.inl ⟨v, vm₁, B, X₁.warmed, X', hpost, fun target h => hstep₁ _ fun acts => by rw [doInvoke_state]; exact hsteps.trans h⟩
  · exact Or.inr ⟨q, vm₁, B, X₁.warmed, X', hpost, hstep₁ _ fun acts => by rw [doInvoke_state]; exact hsteps⟩
theorem vx_callSX (X : Stand p l e R s m args below meth c T locs cells slots) (hexec : p.tables.exec = Jvm.exec) {own : String} {index : Nat} {y : MethodName} {bytes : ByteArray} {maxL : Nat} {ret : Option FieldType} {hh : List (Nat × Nat × Nat × Nat)}
    (hown : s.vm.findClass own = some m.cls) (hlink : (Cond.methodLink own index y).before args s = true) (hstat : (Cond.static y).before args s = true) (hinit : (Cond.initialized y.cls).before args s = true)
    (hcode : (Cond.codeWith y bytes maxL ret hh).before args s = true) (hy : y.cls ≠ "java/lang/invoke/MethodHandle" ∧ y.cls ≠ "java/lang/invoke/VarHandle")
    {W9 : Nat} {Pre : Pt → Array Value → Prop} {Post : Pt → Array Value → Option Value → Pt → Prop} {PostX : Pt → Array Value → Addr → Pt → Prop} (hK : vx_Back l R p e below s args y 3 W9 Pre Post PostX)
    {g : JFrame} (hg : g.method = m) (hsize : g.locals.size = c.maxLocals) {argsL rest : List Value} (hlen : ∀ sig, parseMethodDescriptor y.desc = some sig → argsL.length = sig.parameters.length)
    (hstack : g.stack = argsL.reverse ++ rest) (hW : 2 * g.monitorRoom + (rest.map fun v => v.category).sum ≤ W9) (hdg : decode c.code g.pc = .ok (.invokestatic index, 3))
    (hpre : ∀ vm₁, s.WarmedH vm₁ → Pre ⟨T.setVm vm₁, locs, cells, slots⟩ argsL.toArray) :
    (∃ (v : Option Value) (vm₁ : Vm) (B : Pt), s.WarmedH vm₁ ∧ Stand p l e R s m args below meth c B.U B.locs B.cells B.slots ∧ Post ⟨T.setVm vm₁, locs, cells, slots⟩ argsL.toArray v B ∧
      ∀ target, Steps p.tables e below (B.U.setTop { g with pc := g.pc + 3, stack := v.toList ++ rest }) target → Steps p.tables e below (T.setTop g) target) ∨
    (∃ (q : Addr) (vm₁ : Vm) (B : Pt), s.WarmedH vm₁ ∧ Stand p l e R s m args below meth c B.U B.locs B.cells B.slots ∧ PostX ⟨T.setVm vm₁, locs, cells, slots⟩ argsL.toArray q B ∧
      Steps p.tables e below (T.setTop g) ((B.U.setTop { g with stack := rest }).pushFrame (.throwing q))) := by
  obtain ⟨mk, methM, cM, hnamed, hmethM, -, -, -, -, -, -, hsigM⟩ := Cond.codeWith_spec hcode
  have hstatic : methM.isStatic = true := Cond.static_spec hnamed hmethM hstat
  obtain ⟨kP, hkP, -⟩ := className_of_methodNamed hnamed
  have hinitP : kP.init = .initialized := Cond.initialized_spec (findClass_of_methodNamed hnamed) hkP hinit
  obtain ⟨vm₁, X₁, hstep₁⟩ := X.invokestatic hexec hown hlink hnamed hmethM hstatic hkP hinitP hy (g := g) hg (argsL := argsL) (rest := rest) (hlen _ hsigM) hstack hdg
  rcases hK m meth c ⟨T.setVm vm₁, locs, cells, slots⟩ { g with stack := rest } (.invokestatic index) mk argsL.toArray X₁ hg hsize hdg hW (X₁.named hnamed) (hpre vm₁ X₁.warmed) with ⟨v, B, X', hpost, hsteps⟩ | ⟨q, B, X', hpost, hsteps⟩
  · exact Or.inl ⟨v, vm₁, B, X₁.warmed, X', hpost, fun target h => hstep₁ _ fun acts => by rw [doInvoke_state]; exact hsteps.trans h⟩
  · exact Or.inr ⟨q, vm₁, B, X₁.warmed, X', hpost, hstep₁ _ fun acts => by rw [doInvoke_state]; exact hsteps⟩
theorem vx_callVW (X : Stand p l e R s m args below meth c T locs cells slots) (hexec : p.tables.exec = Jvm.exec) {own C : String} {index : Nat} {y : MethodName} {bytes : ByteArray} {maxL : Nat} {ret : Option FieldType} {hh : List (Nat × Nat × Nat × Nat)}
    (hown : s.vm.findClass own = some m.cls) (hlink : (Cond.methodLink own index y).before args s = true) (hinst : (Cond.instanceMethod y).before args s = true) (hsel : (Cond.selects C y y).before args s = true)
    (hcode : (Cond.codeWith y bytes maxL ret hh).before args s = true) (hy : y.cls ≠ "java/lang/invoke/MethodHandle" ∧ y.cls ≠ "java/lang/invoke/VarHandle")
    {W9 : Nat} {Pre : Pt → Array Value → Prop} {Post : Pt → Array Value → Option Value → Pt → Prop} (hK : Back l R p e below s args y 3 W9 Pre Post)
    {b : Addr} {cellB : Cell} (hcell : T.heap[b]? = some cellB) (hobj : cellB.vm.isStatics = false) (hcls : s.vm.findClass C = some cellB.cls)
    {g : JFrame} (hg : g.method = m) (hsize : g.locals.size = c.maxLocals) {argsL rest : List Value} (hlen : ∀ sig, parseMethodDescriptor y.desc = some sig → argsL.length = sig.parameters.length)
    (hstack : g.stack = argsL.reverse ++ .ref b :: rest) (hW : 2 * g.monitorRoom + (rest.map fun v => v.category).sum ≤ W9) (hdg : decode c.code g.pc = .ok (.invokevirtual index, 3))
    (hpre : ∀ vm₁, s.WarmedH vm₁ → Pre ⟨T.setVm vm₁, locs, cells, slots⟩ (Value.ref b :: argsL).toArray) :
    ∃ (v : Option Value) (vm₁ : Vm) (B : Pt), s.WarmedH vm₁ ∧ Stand p l e R s m args below meth c B.U B.locs B.cells B.slots ∧ Post ⟨T.setVm vm₁, locs, cells, slots⟩ (Value.ref b :: argsL).toArray v B ∧
      ∀ target, Steps p.tables e below (B.U.setTop { g with pc := g.pc + 3, stack := v.toList ++ rest }) target → Steps p.tables e below (T.setTop g) target := by
  obtain ⟨mk, methM, hnamed, hmethM, hstM, habM⟩ := Cond.instanceMethod_spec hinst
  obtain ⟨m8, methM', cM, hn8, hmethM', -, -, -, -, -, -, hsigM⟩ := Cond.codeWith_spec hcode
  cases Option.some.inj (hn8.symm.trans hnamed)
  cases hmethM.symm.trans hmethM'
  obtain ⟨c2, r2, m2, q1, q2, q3, q4, kP, hkP, hkPi⟩ := Cond.selects_spec hsel
  cases hcls.symm.trans q1
  cases (State.methodFound?_of_named hnamed hy).symm.trans q2
  cases hnamed.symm.trans q3
  have hselP : selectMethod e.platform s.vm cellB.cls mk = .method mk := by rw [Launch.admits_selectMethod X.admits]; exact q4
  obtain ⟨vm₁, X₁, hstep₁⟩ := X.invokevirtual hexec hown hlink hnamed hmethM hstM hkP hkPi hy (a := b) (cell := cellB) hcell
    (fun z h => by rw [h] at hobj; cases hobj) hselP hmethM habM hkP hkPi (g := g) hg (argsL := argsL) (rest := rest) (hlen _ hsigM) hstack hdg
  obtain ⟨v, B, X', hpost, hsteps⟩ := hK m meth c ⟨T.setVm vm₁, locs, cells, slots⟩ { g with stack := rest } (.invokevirtual index) mk (Value.ref b :: argsL).toArray X₁ hg hsize hdg hW (X₁.named hnamed) (hpre vm₁ X₁.warmed)
  exact ⟨v, vm₁, B, X₁.warmed, X', hpost, fun target h => hstep₁ _ fun acts => by rw [doInvoke_state]; exact hsteps.trans h⟩
abbrev vx_CVW (R : Room) (s : State) (args : Array Value) (own C : String) (index : Nat) (y : MethodName) (bytes : ByteArray) (maxL : Nat) (ret : Option FieldType) (hh : List (Nat × Nat × Nat × Nat)) (ws : List Cond) (rm : Room) (mc ms n : Nat) : Prop :=
  (rm.cells = mc ∧ rm.slots = ms ∧ rm.frames + 1 ≤ R.frames ∧ 8 + (maxL + 11) + rm.locals ≤ R.locals ∧ (∀ w ∈ ws, ∀ (a' : Array Value) (U : State), s.WarmedH U.vm → w.before a' U = true) ∧ Cond.codeWith y bytes maxL ret hh ∈ ws) ∧
  (Cond.codeWith y bytes maxL ret hh).before args s = true ∧ (Cond.initialized y.cls).before args s = true ∧ (y.cls ≠ "java/lang/invoke/MethodHandle" ∧ y.cls ≠ "java/lang/invoke/VarHandle") ∧
  (∀ sig, parseMethodDescriptor y.desc = some sig → n = sig.parameters.length) ∧ (Cond.methodLink own index y).before args s = true ∧ (Cond.instanceMethod y).before args s = true ∧ (Cond.selects C y y).before args s = true
theorem vx_cwVW {own C : String} {index maxL mc ms : Nat} {y : MethodName} {bytes : ByteArray} {ret : Option FieldType} {hh : List (Nat × Nat × Nat × Nat)} {Ts ws ws' : List Cond} {rm : Room} (n : Nat) (ht : ∀ w ∈ Ts, w.before args s = true) (hT : GoodIn Ts (wsV own index C y ws)) (hw : ws = Cond.codeWith y bytes maxL ret hh :: ws') (hrc : rm.cells = mc) (hrs : rm.slots = ms)
    (hd : y.cls = C ∧ y.cls ≠ "java/lang/invoke/MethodHandle" ∧ y.cls ≠ "java/lang/invoke/VarHandle" ∧ (parseMethodDescriptor y.desc).map (fun d => d.parameters.length) = some n) (hR : rm.frames + 1 ≤ R.frames ∧ 8 + (maxL + 11) + rm.locals ≤ R.locals) :
    vx_CVW R s args own C index y bytes maxL ret hh ws rm mc ms n := by
  obtain ⟨hC, hd⟩ := hd
  subst hC
  have ok : ∀ w ∈ wsV own index y.cls y ws, w.before args s = true := fun w h => ht w (hT w h).1
  have hG : GoodIn Ts ws := fun w h => hT w (by unfold wsV; exact List.mem_append_right _ h)
  have hc : Cond.codeWith y bytes maxL ret hh ∈ ws := by rw [hw]; exact List.mem_cons_self
  refine ⟨⟨hrc, hrs, hR.1, hR.2, pay_in ht hG, hc⟩, ht _ (hG _ hc).1, ok _ (by simp [wsV]), ⟨hd.1, hd.2.1⟩, fun sig h => ?_, ok _ (by simp [wsV]), ok _ (by simp [wsV]), ok _ (by simp [wsV])⟩
  have h2 := hd.2.2
  rw [h] at h2
  exact (Option.some.inj h2).symm
theorem vx_runVW {y : MethodName} {bytes cc : ByteArray} {maxL nL mc ms n index : Nat} {ret : Option FieldType} {hh : List (Nat × Nat × Nat × Nat)} {ws : List Cond} {rm : Room} {Pc : Array Value → State → Prop} {Qc : Array Value → State → Outcome → State → Prop} {free : Addr → Prop} {Ts : List Cond} {own C : String} {b : Addr} {As rest : List Value} {g : JFrame}
    (S : CallFix p m c cc nL s args Ts own) (hM : Met l y ws rm Pc Qc mc ms free) (cw : vx_CVW R s args own C index y bytes maxL ret hh ws rm mc ms n) (hp : PreV s H C b Pc As)
    (hg : g.method = m) (hn : As.length = n) (hsize : g.locals.size = nL) (hstack : g.stack = As.reverse ++ .ref b :: rest) (hW : 2 * g.monitorRoom + (rest.map fun v => v.category).sum ≤ 8) (hdg : decode cc g.pc = .ok (.invokevirtual index, 3)) (hf : cells + mc ≤ R.cells ∧ slots + ms ≤ R.slots) :
    va_Run p l e R s m args below meth c H locs cells slots mc ms g rest (Qc (Value.ref b :: As).toArray) free := by
  obtain ⟨⟨hrc, hrs, hfr, hlo, hws, hcw⟩, hcode, hini, hy, hlen, hl, hin, hse⟩ := cw
  have hK : Back l R p e below s args y 3 8 (PreOf R mc ms Pc) (PostOf Qc mc ms free) := va_backW (hh := hh) (bytes := bytes) (maxL := maxL) (ret := ret) hM hp.1 hrc hrs hfr hlo hws hcw (fun a' U hW => word_at hW (Or.inl (by first | rfl | simp [Cond.onTables, Cond.keeps, Cond.steady])) hini)
  obtain ⟨hx, hb, hml, ho, -⟩ := S
  obtain ⟨-, ⟨cellB, hcB, hoB, hclB⟩, hPc⟩ := hp
  intro T hT X
  obtain ⟨v, vm₁, ⟨U', l2, c2, s2⟩, hW₁, X', ⟨g', mk, t, L, e1, e2, hq, h1, hL, h2, h3⟩, st⟩ := vx_callVW X hx (C := C) (hh := hh) (bytes := bytes) (maxL := maxL) (ret := ret) ho hl hin hse hcode hy hK (by rw [hT]; exact hcB) hoB hclB hg (hsize.trans hml.symm) (argsL := As) (rest := rest) (fun sig h => hn.trans (hlen sig h)) hstack hW (by rw [hb]; exact hdg)
    (fun vm₁ hW₁ => ⟨hf.1, hf.2, hPc (T.setVm vm₁) hT hW₁⟩)
  dsimp only [Pt.U, Pt.locs, Pt.cells, Pt.slots] at X' e1 e2 h1 h2 h3 st
  subst h1; subst h2; subst h3
  exact ⟨v, (T.setVm vm₁).calling g' mk (Value.ref b :: As).toArray, t, U', L, hT, X', hL, e1, e2, hq, st⟩
section
variable {y : MethodName} {bytes cc : ByteArray} {maxL nL mc ms n index : Nat} {ret : Option FieldType} {ws : List Cond} {rm : Room} {Pc : Array Value → State → Prop} {Qc : Array Value → State → Outcome → State → Prop} {XC : String → State → State → Prop} {free : Addr → Prop} {Ts : List Cond} {own C : String} {b : Addr} {As rest : List Value} {g : JFrame}
theorem vx_runVX {hh : List (Nat × Nat × Nat × Nat)} (S : CallFix p m c cc nL s args Ts own) (hM : vx_Met l y ws rm Pc Qc XC mc ms free) (cw : vx_CVW R s args own C index y bytes maxL ret hh ws rm mc ms n) (hp : PreV s H C b Pc As)
    (hg : g.method = m) (hn : As.length = n) (hsize : g.locals.size = nL) (hstack : g.stack = As.reverse ++ .ref b :: rest) (hW : 2 * g.monitorRoom + (rest.map fun v => v.category).sum ≤ 8) (hdg : decode cc g.pc = .ok (.invokevirtual index, 3)) (hf : cells + mc ≤ R.cells ∧ slots + ms ≤ R.slots) :
    vx_Run p l e R s m args below meth c H locs cells slots mc ms g rest (Qc (Value.ref b :: As).toArray) XC free := by
  obtain ⟨⟨hrc, hrs, hfr, hlo, hws, hcw⟩, hcode, hini, hy, hlen, hl, hin, hse⟩ := cw
  have hK : vx_Back l R p e below s args y 3 8 (PreOf R mc ms Pc) (PostOf Qc mc ms free) (vx_Post XC mc ms free) := vx_backW (hh := hh) (bytes := bytes) (maxL := maxL) (ret := ret) hM hp.1 hrc hrs hfr hlo hws hcw (fun a' U hW => word_at hW (Or.inl (by first | rfl | simp [Cond.onTables, Cond.keeps, Cond.steady])) hini)
  obtain ⟨hx, hb, hml, ho, -⟩ := S
  obtain ⟨-, ⟨cellB, hcB, hoB, hclB⟩, hPc⟩ := hp
  intro T hT X
  rcases vx_callVX X hx (C := C) (hh := hh) (bytes := bytes) (maxL := maxL) (ret := ret) ho hl hin hse hcode hy hK (by rw [hT]; exact hcB) hoB hclB hg (hsize.trans hml.symm) (argsL := As) (rest := rest) (fun sig h => hn.trans (hlen sig h)) hstack hW (by rw [hb]; exact hdg)
    (fun vm₁ hW₁ => ⟨hf.1, hf.2, hPc (T.setVm vm₁) hT hW₁⟩) with ⟨v, vm₁, ⟨U', l2, c2, s2⟩, hW₁, X', ⟨g', mk, t, L, e1, e2, hq, h1, hL, h2, h3⟩, st⟩ | ⟨q, vm₁, ⟨U', l2, c2, s2⟩, hW₁, X', ⟨g', mk, t, L, E, ce, e1, e2, hq, hce, hcv, hcl, h1, hL, h2, h3⟩, st⟩
  · dsimp only [Pt.U, Pt.locs, Pt.cells, Pt.slots] at X' e1 e2 h1 h2 h3 st
    subst h1; subst h2; subst h3
    exact Or.inl ⟨v, (T.setVm vm₁).calling g' mk (Value.ref b :: As).toArray, t, U', L, hT, X', hL, e1, e2, hq, st⟩
  · dsimp only [Pt.U, Pt.locs, Pt.cells, Pt.slots] at X' e1 e2 h1 h2 h3 st hcl
    subst h1; subst h2; subst h3
    exact Or.inr ⟨q, (T.setVm vm₁).calling g' mk (Value.ref b :: As).toArray, t, U', L, E, ce, hT, X', hL, e1, e2, hq, hce, hcv, vx_cls hW₁ hcl, st⟩
theorem vx_runSX {hh : List (Nat × Nat × Nat × Nat)} (S : CallFix p m c cc nL s args Ts own) (hM : vx_Met l y ws rm Pc Qc XC mc ms free) (cw : vx_CSW R s args own index y bytes maxL ret hh ws rm mc ms n) (hp : PreS s H Pc As)
    (hg : g.method = m) (hn : As.length = n) (hsize : g.locals.size = nL) (hstack : g.stack = As.reverse ++ rest) (hW : 2 * g.monitorRoom + (rest.map fun v => v.category).sum ≤ 8) (hdg : decode cc g.pc = .ok (.invokestatic index, 3)) (hf : cells + mc ≤ R.cells ∧ slots + ms ≤ R.slots) :
    vx_Run p l e R s m args below meth c H locs cells slots mc ms g rest (Qc As.toArray) XC free := by
  obtain ⟨⟨hrc, hrs, hfr, hlo, hws, hcw⟩, hcode, hini, hy, hlen, hl, hstt⟩ := cw
  have hK : vx_Back l R p e below s args y 3 8 (PreOf R mc ms Pc) (PostOf Qc mc ms free) (vx_Post XC mc ms free) := vx_backW (hh := hh) (bytes := bytes) (maxL := maxL) (ret := ret) hM hp.1 hrc hrs hfr hlo hws hcw (fun a' U hW => word_at hW (Or.inl (by first | rfl | simp [Cond.onTables, Cond.keeps, Cond.steady])) hini)
  obtain ⟨hx, hb, hml, ho, -⟩ := S
  intro T hT X
  rcases vx_callSX X hx (hh := hh) (bytes := bytes) (maxL := maxL) (ret := ret) ho hl hstt hini hcode hy hK hg (hsize.trans hml.symm) (argsL := As) (rest := rest) (fun sig h => hn.trans (hlen sig h)) hstack hW (by rw [hb]; exact hdg)
    (fun vm₁ hW₁ => ⟨hf.1, hf.2, hp.2 (T.setVm vm₁) hT hW₁⟩) with ⟨v, vm₁, ⟨U', l2, c2, s2⟩, hW₁, X', ⟨g', mk, t, L, e1, e2, hq, h1, hL, h2, h3⟩, st⟩ | ⟨q, vm₁, ⟨U', l2, c2, s2⟩, hW₁, X', ⟨g', mk, t, L, E, ce, e1, e2, hq, hce, hcv, hcl, h1, hL, h2, h3⟩, st⟩
  · dsimp only [Pt.U, Pt.locs, Pt.cells, Pt.slots] at X' e1 e2 h1 h2 h3 st
    subst h1; subst h2; subst h3
    exact Or.inl ⟨v, (T.setVm vm₁).calling g' mk As.toArray, t, U', L, hT, X', hL, e1, e2, hq, st⟩
  · dsimp only [Pt.U, Pt.locs, Pt.cells, Pt.slots] at X' e1 e2 h1 h2 h3 st hcl
    subst h1; subst h2; subst h3
    exact Or.inr ⟨q, (T.setVm vm₁).calling g' mk As.toArray, t, U', L, E, ce, hT, X', hL, e1, e2, hq, hce, hcv, vx_cls hW₁ hcl, st⟩
end
end VXH
theorem vx_ofWH {l : Launch} {y : MethodName} {ws ws' : List Cond} {rm : Room} {Pc : Array Value → State → Prop} {Qc : Array Value → State → Outcome → State → Prop} {XC : String → State → State → Prop} {mc ms : Nat} {free : Addr → Prop} {cc : ByteArray} {maxL : Nat} {ret : Option FieldType} {hh : List (Nat × Nat × Nat × Nat)}
    (hy : plainName y.cls = true) (hw : ws = Cond.codeWith y cc maxL ret hh :: ws')
    (body : ∀ p e s m args below meth c s₁, BodyLoose p l y (headSpec ws rm) cc maxL ret e s m args below meth c s₁ → c.maxLocals = maxL → Pc args s →
      W p l e (headSpec ws rm).room s m args below meth c s.heap [] 0 0 (vx_MQ below Qc XC args s mc ms free) (entryFrame m args maxL)) : vx_Met l y ws rm Pc Qc XC mc ms free := by
  refine MetFree.of_bodyS (code := cc) (maxLocals := maxL) (ret := ret) hy ?_ ?_
  · intro args s m h hn
    obtain ⟨m9, meth, c, hn9, h1, h2, h3, h4, -, h5, h6, -⟩ := Cond.codeWith_spec (atoms_spec (ws := ws) h _ (by rw [hw]; exact List.mem_cons_self))
    cases hn.symm.trans hn9
    exact ⟨meth, c, h1, h2, h3, h4, h5, h6⟩
  · intro p e s m args below meth c s₁ B hml hP _
    have hh0 : s₁.heap = s.heap := by rw [B.state]; rfl
    obtain ⟨t, a1, o, b1, b2, b3⟩ := body p e s m args below meth c s₁ B hml hP s₁ hh0 (Stand.of_body B)
    exact ⟨t, o, a1, b1, b2, b3⟩
/-! ===== END ===== -/

/-! ===== BEGIN printed: names, fields, word lists, decode rows ===== -/
end
section
def RX0 : String := "PaperGuild$Follower"
def TX0 : u_T := fun k => match k with
  | 0 => ("PaperGuild$Follower", "place", "I", false)
  | 1 => ("PaperGuild$Follower", "turned", "Z", false)
  | _ => ("PaperGuild$Follower", "span", "I", false)
def tyX0 : Nat → FieldType := fun k => match k with
  | 0 => .int
  | 1 => .boolean
  | _ => .int
abbrev wsX00 : List Cond := u_ws RX0 TX0 3
theorem nmX0 : ∀ a, a < 3 → ∀ b, b < 3 → a ≠ b → (TX0 a).2.1 ≠ (TX0 b).2.1 := by decide +kernel
theorem tyX0_ok : ∀ k, k < 3 → parseFieldDescriptor (TX0 k).2.2.1 = some (tyX0 k) := by decide +kernel
abbrev cX0_init : ByteArray := prog_2_method_1_code
def yX0_init : MethodName := ⟨RX0, "<init>", "()V"⟩
abbrev cX0_follow : ByteArray := prog_2_method_2_code
def yX0_follow : MethodName := ⟨RX0, "follow", "(LPaperGuild$Model;I)V"⟩
abbrev cX0_takeStep : ByteArray := prog_2_method_3_code
def yX0_takeStep : MethodName := ⟨RX0, "takeStep", "(IZ)V"⟩
def RX1 : String := "PaperGuild$Mill"
def TX1 : u_T := fun k => match k with
  | 0 => ("PaperGuild$Mill", "rollLength", "I", false)
  | 1 => ("PaperGuild$Mill", "demanded", "I", false)
  | 2 => ("PaperGuild$Mill", "fewest", "[I", true)
  | _ => ("PaperGuild$Mill", "waysTo", "[I", true)
def tyX1 : Nat → FieldType := fun k => match k with
  | 0 => .int
  | 1 => .int
  | 2 => .array .int
  | _ => .array .int
abbrev wsX10 : List Cond := u_ws RX1 TX1 4
theorem nmX1 : ∀ a, a < 4 → ∀ b, b < 4 → a ≠ b → (TX1 a).2.1 ≠ (TX1 b).2.1 := by decide +kernel
theorem tyX1_ok : ∀ k, k < 4 → parseFieldDescriptor (TX1 k).2.2.1 = some (tyX1 k) := by decide +kernel
abbrev cX1_init : ByteArray := prog_3_method_1_code
def yX1_init : MethodName := ⟨RX1, "<init>", "()V"⟩
abbrev cX1_fewestForRoll : ByteArray := prog_3_method_2_code
def yX1_fewestForRoll : MethodName := ⟨RX1, "fewestForRoll", "()I"⟩
abbrev cX1_restOfRoll : ByteArray := prog_3_method_3_code
def yX1_restOfRoll : MethodName := ⟨RX1, "restOfRoll", "()I"⟩
abbrev cX1_waysForRoll : ByteArray := prog_3_method_4_code
def yX1_waysForRoll : MethodName := ⟨RX1, "waysForRoll", "()I"⟩
abbrev cX1_addWaysWith : ByteArray := prog_3_method_5_code
def yX1_addWaysWith : MethodName := ⟨RX1, "addWaysWith", "(I)V"⟩
abbrev cX1_fillFewest : ByteArray := prog_3_method_6_code
def yX1_fillFewest : MethodName := ⟨RX1, "fillFewest", "()V"⟩
abbrev cX1_fewestFor : ByteArray := prog_3_method_7_code
def yX1_fewestFor : MethodName := ⟨RX1, "fewestFor", "(I)I"⟩
abbrev cX1_isDemanded : ByteArray := prog_3_method_8_code
def yX1_isDemanded : MethodName := ⟨RX1, "isDemanded", "(I)Z"⟩
def RX2 : String := "PaperGuild$Model"
def TX2 : u_T := fun k => match k with
  | 0 => ("PaperGuild$Model", "author", "I", true)
  | 1 => ("PaperGuild$Model", "length", "I", true)
  | 2 => ("PaperGuild$Model", "stepKinds", "[I", true)
  | 3 => ("PaperGuild$Model", "stepPlaces", "[I", true)
  | 4 => ("PaperGuild$Model", "stepsFromLeft", "[Z", true)
  | 5 => ("PaperGuild$Model", "stepCount", "I", false)
  | _ => ("PaperGuild$Model", "stacks", "LPaperGuild$Stacks;", true)
def tyX2 : Nat → FieldType := fun k => match k with
  | 0 => .int
  | 1 => .int
  | 2 => .array .int
  | 3 => .array .int
  | 4 => .array .boolean
  | 5 => .int
  | _ => .object "PaperGuild$Stacks"
abbrev wsX20 : List Cond := u_ws RX2 TX2 7
theorem nmX2 : ∀ a, a < 7 → ∀ b, b < 7 → a ≠ b → (TX2 a).2.1 ≠ (TX2 b).2.1 := by decide +kernel
theorem tyX2_ok : ∀ k, k < 7 → parseFieldDescriptor (TX2 k).2.2.1 = some (tyX2 k) := by decide +kernel
abbrev cX2_init : ByteArray := prog_4_method_1_code
def yX2_init : MethodName := ⟨RX2, "<init>", "(II)V"⟩
abbrev cX2_ownKinds : ByteArray := prog_4_method_2_code
def yX2_ownKinds : MethodName := ⟨RX2, "ownKinds", "()I"⟩
abbrev cX2_addStep : ByteArray := prog_4_method_3_code
def yX2_addStep : MethodName := ⟨RX2, "addStep", "(IIZ)V"⟩
abbrev cX2_removeLastStep : ByteArray := prog_4_method_4_code
def yX2_removeLastStep : MethodName := ⟨RX2, "removeLastStep", "()I"⟩
def RX3 : String := "PaperGuild$Stacks"
def TX3 : u_T := fun k => match k with
  | 0 => ("PaperGuild$Stacks", "cells", "[I", false)
  | 1 => ("PaperGuild$Stacks", "starts", "[I", false)
  | 2 => ("PaperGuild$Stacks", "nextCells", "[I", false)
  | 3 => ("PaperGuild$Stacks", "nextStarts", "[I", false)
  | 4 => ("PaperGuild$Stacks", "filled", "I", false)
  | _ => ("PaperGuild$Stacks", "span", "I", false)
def tyX3 : Nat → FieldType := fun k => match k with
  | 0 => .array .int
  | 1 => .array .int
  | 2 => .array .int
  | 3 => .array .int
  | 4 => .int
  | _ => .int
abbrev wsX30 : List Cond := u_ws RX3 TX3 6
theorem nmX3 : ∀ a, a < 6 → ∀ b, b < 6 → a ≠ b → (TX3 a).2.1 ≠ (TX3 b).2.1 := by decide +kernel
theorem tyX3_ok : ∀ k, k < 6 → parseFieldDescriptor (TX3 k).2.2.1 = some (tyX3 k) := by decide +kernel
abbrev cX3_init : ByteArray := prog_5_method_1_code
def yX3_init : MethodName := ⟨RX3, "<init>", "()V"⟩
abbrev cX3_layFlat : ByteArray := prog_5_method_2_code
def yX3_layFlat : MethodName := ⟨RX3, "layFlat", "(I)V"⟩
abbrev cX3_turnOver : ByteArray := prog_5_method_3_code
def yX3_turnOver : MethodName := ⟨RX3, "turnOver", "(IZ)V"⟩
abbrev cX3_heightAt : ByteArray := prog_5_method_4_code
def yX3_heightAt : MethodName := ⟨RX3, "heightAt", "(I)I"⟩
abbrev cX3_cellIn : ByteArray := prog_5_method_5_code
def yX3_cellIn : MethodName := ⟨RX3, "cellIn", "(II)I"⟩
abbrev cX3_greatestHeight : ByteArray := prog_5_method_6_code
def yX3_greatestHeight : MethodName := ⟨RX3, "greatestHeight", "()I"⟩
abbrev cX3_isPlace : ByteArray := prog_5_method_7_code
def yX3_isPlace : MethodName := ⟨RX3, "isPlace", "(I)Z"⟩
abbrev cX3_copyUpwards : ByteArray := prog_5_method_8_code
def yX3_copyUpwards : MethodName := ⟨RX3, "copyUpwards", "(I)V"⟩
abbrev cX3_copyDownwards : ByteArray := prog_5_method_9_code
def yX3_copyDownwards : MethodName := ⟨RX3, "copyDownwards", "(I)V"⟩
abbrev cX3_copyCell : ByteArray := prog_5_method_10_code
def yX3_copyCell : MethodName := ⟨RX3, "copyCell", "(II)V"⟩
abbrev cX3_swapRows : ByteArray := prog_5_method_11_code
def yX3_swapRows : MethodName := ⟨RX3, "swapRows", "()V"⟩
def RX4 : String := "PaperGuild"
def TX4 : u_T := fun k => match k with
  | 0 => ("PaperGuild", "needed", "[I", true)
  | 1 => ("PaperGuild", "known", "[I", true)
  | 2 => ("PaperGuild", "guildModels", "[LPaperGuild$Model;", true)
  | 3 => ("PaperGuild", "used", "[I", true)
  | 4 => ("PaperGuild", "modelCount", "I", false)
  | 5 => ("PaperGuild", "follower", "LPaperGuild$Follower;", true)
  | 6 => ("PaperGuild", "followedHeights", "[I", true)
  | _ => ("PaperGuild", "mill", "LPaperGuild$Mill;", true)
def tyX4 : Nat → FieldType := fun k => match k with
  | 0 => .array .int
  | 1 => .array .int
  | 2 => .array (.object "PaperGuild$Model")
  | 3 => .array .int
  | 4 => .int
  | 5 => .object "PaperGuild$Follower"
  | 6 => .array .int
  | _ => .object "PaperGuild$Mill"
abbrev wsX40 : List Cond := u_ws RX4 TX4 8
theorem nmX4 : ∀ a, a < 8 → ∀ b, b < 8 → a ≠ b → (TX4 a).2.1 ≠ (TX4 b).2.1 := by decide +kernel
theorem tyX4_ok : ∀ k, k < 8 → parseFieldDescriptor (TX4 k).2.2.1 = some (tyX4 k) := by decide +kernel
abbrev cX4_init : ByteArray := prog_1_method_1_code
def yX4_init : MethodName := ⟨RX4, "<init>", "()V"⟩
abbrev cX4_setNeeds : ByteArray := prog_1_method_2_code
def yX4_setNeeds : MethodName := ⟨RX4, "setNeeds", "(II)I"⟩
abbrev cX4_addModel : ByteArray := prog_1_method_3_code
def yX4_addModel : MethodName := ⟨RX4, "addModel", "(II)I"⟩
abbrev cX4_fold : ByteArray := prog_1_method_4_code
def yX4_fold : MethodName := ⟨RX4, "fold", "(IIIZ)I"⟩
abbrev cX4_unfold : ByteArray := prog_1_method_5_code
def yX4_unfold : MethodName := ⟨RX4, "unfold", "(I)I"⟩
abbrev cX4_use : ByteArray := prog_1_method_6_code
def yX4_use : MethodName := ⟨RX4, "use", "(II)Z"⟩
abbrev cX4_setRoll : ByteArray := prog_1_method_7_code
def yX4_setRoll : MethodName := ⟨RX4, "setRoll", "(II)I"⟩
abbrev cX4_teach : ByteArray := prog_1_method_8_code
def yX4_teach : MethodName := ⟨RX4, "teach", "(II)I"⟩
abbrev cX4_models : ByteArray := prog_1_method_9_code
def yX4_models : MethodName := ⟨RX4, "models", "()I"⟩
abbrev cX4_steps : ByteArray := prog_1_method_10_code
def yX4_steps : MethodName := ⟨RX4, "steps", "(I)I"⟩
abbrev cX4_places : ByteArray := prog_1_method_11_code
def yX4_places : MethodName := ⟨RX4, "places", "(I)I"⟩
abbrev cX4_layers : ByteArray := prog_1_method_12_code
def yX4_layers : MethodName := ⟨RX4, "layers", "(I)I"⟩
abbrev cX4_cellAt : ByteArray := prog_1_method_13_code
def yX4_cellAt : MethodName := ⟨RX4, "cellAt", "(III)I"⟩
abbrev cX4_placeOf : ByteArray := prog_1_method_14_code
def yX4_placeOf : MethodName := ⟨RX4, "placeOf", "(II)I"⟩
abbrev cX4_isTurned : ByteArray := prog_1_method_15_code
def yX4_isTurned : MethodName := ⟨RX4, "isTurned", "(II)Z"⟩
abbrev cX4_layersByFollowing : ByteArray := prog_1_method_16_code
def yX4_layersByFollowing : MethodName := ⟨RX4, "layersByFollowing", "(I)I"⟩
abbrev cX4_bears : ByteArray := prog_1_method_17_code
def yX4_bears : MethodName := ⟨RX4, "bears", "(II)Z"⟩
abbrev cX4_kindsOf : ByteArray := prog_1_method_18_code
def yX4_kindsOf : MethodName := ⟨RX4, "kindsOf", "(I)I"⟩
abbrev cX4_mayFold : ByteArray := prog_1_method_19_code
def yX4_mayFold : MethodName := ⟨RX4, "mayFold", "(II)Z"⟩
abbrev cX4_lessons : ByteArray := prog_1_method_20_code
def yX4_lessons : MethodName := ⟨RX4, "lessons", "(II)I"⟩
abbrev cX4_credit : ByteArray := prog_1_method_21_code
def yX4_credit : MethodName := ⟨RX4, "credit", "(I)I"⟩
abbrev cX4_fewestPieces : ByteArray := prog_1_method_22_code
def yX4_fewestPieces : MethodName := ⟨RX4, "fewestPieces", "()I"⟩
abbrev cX4_ways : ByteArray := prog_1_method_23_code
def yX4_ways : MethodName := ⟨RX4, "ways", "()I"⟩
abbrev cX4_leastRest : ByteArray := prog_1_method_24_code
def yX4_leastRest : MethodName := ⟨RX4, "leastRest", "()I"⟩
abbrev cX4_checkKind : ByteArray := prog_1_method_25_code
def yX4_checkKind : MethodName := ⟨RX4, "checkKind", "(I)V"⟩
abbrev cX4_checkAuthor : ByteArray := prog_1_method_26_code
def yX4_checkAuthor : MethodName := ⟨RX4, "checkAuthor", "(I)V"⟩
abbrev cX4_checkPupil : ByteArray := prog_1_method_27_code
def yX4_checkPupil : MethodName := ⟨RX4, "checkPupil", "(I)V"⟩
abbrev cX4_checkModel : ByteArray := prog_1_method_28_code
def yX4_checkModel : MethodName := ⟨RX4, "checkModel", "(I)V"⟩
abbrev cX4_checkCell : ByteArray := prog_1_method_29_code
def yX4_checkCell : MethodName := ⟨RX4, "checkCell", "(LPaperGuild$Model;I)V"⟩
abbrev cX4_modelAt : ByteArray := prog_1_method_30_code
def yX4_modelAt : MethodName := ⟨RX4, "modelAt", "(I)LPaperGuild$Model;"⟩
abbrev cX4_modelsOf : ByteArray := prog_1_method_31_code
def yX4_modelsOf : MethodName := ⟨RX4, "modelsOf", "(I)I"⟩
abbrev cX4_modelsCountedFor : ByteArray := prog_1_method_32_code
def yX4_modelsCountedFor : MethodName := ⟨RX4, "modelsCountedFor", "(I)I"⟩
abbrev cX4_kindsCountedFor : ByteArray := prog_1_method_33_code
def yX4_kindsCountedFor : MethodName := ⟨RX4, "kindsCountedFor", "(I)I"⟩
abbrev cX4_holds : ByteArray := prog_1_method_34_code
def yX4_holds : MethodName := ⟨RX4, "holds", "(II)Z"⟩
abbrev cX4_lacksAny : ByteArray := prog_1_method_35_code
def yX4_lacksAny : MethodName := ⟨RX4, "lacksAny", "(II)Z"⟩
abbrev cX4_reached : ByteArray := prog_1_method_36_code
def yX4_reached : MethodName := ⟨RX4, "reached", "(I[II)I"⟩
def RX5 : String := "PaperGuildModel"
def TX5 : u_T := fun k => match k with
  | 0 => ("PaperGuildModel", "needs", "[I", true)
  | 1 => ("PaperGuildModel", "models", "I", false)
  | 2 => ("PaperGuildModel", "authors", "[I", true)
  | 3 => ("PaperGuildModel", "lengths", "[I", true)
  | 4 => ("PaperGuildModel", "steps", "[I", true)
  | 5 => ("PaperGuildModel", "uses", "[I", true)
  | 6 => ("PaperGuildModel", "kinds", "[I", true)
  | 7 => ("PaperGuildModel", "at", "[I", true)
  | 8 => ("PaperGuildModel", "lefts", "[I", true)
  | 9 => ("PaperGuildModel", "roll", "I", false)
  | 10 => ("PaperGuildModel", "demand", "I", false)
  | 11 => ("PaperGuildModel", "knows", "[I", true)
  | 12 => ("PaperGuildModel", "places", "[I", true)
  | 13 => ("PaperGuildModel", "heights", "[I", true)
  | 14 => ("PaperGuildModel", "turns", "[I", true)
  | 15 => ("PaperGuildModel", "many", "[I", true)
  | 16 => ("PaperGuildModel", "size", "I", false)
  | 17 => ("PaperGuildModel", "most", "I", false)
  | 18 => ("PaperGuildModel", "cuts", "[I", true)
  | _ => ("PaperGuildModel", "thrown", "I", false)
def tyX5 : Nat → FieldType := fun k => match k with
  | 0 => .array .int
  | 1 => .int
  | 2 => .array .int
  | 3 => .array .int
  | 4 => .array .int
  | 5 => .array .int
  | 6 => .array .int
  | 7 => .array .int
  | 8 => .array .int
  | 9 => .int
  | 10 => .int
  | 11 => .array .int
  | 12 => .array .int
  | 13 => .array .int
  | 14 => .array .int
  | 15 => .array .int
  | 16 => .int
  | 17 => .int
  | 18 => .array .int
  | _ => .int
abbrev wsX50 : List Cond := u_ws RX5 TX5 20
theorem nmX5 : ∀ a, a < 20 → ∀ b, b < 20 → a ≠ b → (TX5 a).2.1 ≠ (TX5 b).2.1 := by decide +kernel
theorem tyX5_ok : ∀ k, k < 20 → parseFieldDescriptor (TX5 k).2.2.1 = some (tyX5 k) := by decide +kernel
abbrev cX5_init : ByteArray := prog_7_method_1_code
def yX5_init : MethodName := ⟨RX5, "<init>", "()V"⟩
abbrev cX5_thrown : ByteArray := prog_7_method_2_code
def yX5_thrown : MethodName := ⟨RX5, "thrown", "()I"⟩
abbrev cX5_fails : ByteArray := prog_7_method_3_code
def yX5_fails : MethodName := ⟨RX5, "fails", "(I)I"⟩
abbrev cX5_in : ByteArray := prog_7_method_4_code
def yX5_in : MethodName := ⟨RX5, "in", "(III)Z"⟩
abbrev cX5_isModel : ByteArray := prog_7_method_5_code
def yX5_isModel : MethodName := ⟨RX5, "isModel", "(I)Z"⟩
abbrev cX5_closed : ByteArray := prog_7_method_6_code
def yX5_closed : MethodName := ⟨RX5, "closed", "(I)I"⟩
abbrev cX5_setNeeds : ByteArray := prog_7_method_7_code
def yX5_setNeeds : MethodName := ⟨RX5, "setNeeds", "(II)I"⟩
abbrev cX5_addModel : ByteArray := prog_7_method_8_code
def yX5_addModel : MethodName := ⟨RX5, "addModel", "(II)I"⟩
abbrev cX5_counts : ByteArray := prog_7_method_9_code
def yX5_counts : MethodName := ⟨RX5, "counts", "(I)V"⟩
abbrev cX5_makes : ByteArray := prog_7_method_10_code
def yX5_makes : MethodName := ⟨RX5, "makes", "(IIZ)V"⟩
abbrev cX5_folds : ByteArray := prog_7_method_11_code
def yX5_folds : MethodName := ⟨RX5, "folds", "(I)V"⟩
abbrev cX5_ownKinds : ByteArray := prog_7_method_12_code
def yX5_ownKinds : MethodName := ⟨RX5, "ownKinds", "(I)I"⟩
abbrev cX5_fold : ByteArray := prog_7_method_13_code
def yX5_fold : MethodName := ⟨RX5, "fold", "(IIIZ)I"⟩
abbrev cX5_unfold : ByteArray := prog_7_method_14_code
def yX5_unfold : MethodName := ⟨RX5, "unfold", "(I)I"⟩
abbrev cX5_used : ByteArray := prog_7_method_15_code
def yX5_used : MethodName := ⟨RX5, "used", "(I)I"⟩
abbrev cX5_use : ByteArray := prog_7_method_16_code
def yX5_use : MethodName := ⟨RX5, "use", "(II)Z"⟩
abbrev cX5_setRoll : ByteArray := prog_7_method_17_code
def yX5_setRoll : MethodName := ⟨RX5, "setRoll", "(II)I"⟩
abbrev cX5_bits : ByteArray := prog_7_method_18_code
def yX5_bits : MethodName := ⟨RX5, "bits", "(I)I"⟩
abbrev cX5_teach : ByteArray := prog_7_method_19_code
def yX5_teach : MethodName := ⟨RX5, "teach", "(II)I"⟩
abbrev cX5_models : ByteArray := prog_7_method_20_code
def yX5_models : MethodName := ⟨RX5, "models", "()I"⟩
abbrev cX5_steps : ByteArray := prog_7_method_21_code
def yX5_steps : MethodName := ⟨RX5, "steps", "(I)I"⟩
abbrev cX5_places : ByteArray := prog_7_method_22_code
def yX5_places : MethodName := ⟨RX5, "places", "(I)I"⟩
abbrev cX5_layersOf : ByteArray := prog_7_method_23_code
def yX5_layersOf : MethodName := ⟨RX5, "layersOf", "(I)I"⟩
abbrev cX5_layers : ByteArray := prog_7_method_24_code
def yX5_layers : MethodName := ⟨RX5, "layers", "(I)I"⟩
abbrev cX5_cellAt : ByteArray := prog_7_method_25_code
def yX5_cellAt : MethodName := ⟨RX5, "cellAt", "(III)I"⟩
abbrev cX5_isCell : ByteArray := prog_7_method_26_code
def yX5_isCell : MethodName := ⟨RX5, "isCell", "(II)Z"⟩
abbrev cX5_placeOf : ByteArray := prog_7_method_27_code
def yX5_placeOf : MethodName := ⟨RX5, "placeOf", "(II)I"⟩
abbrev cX5_isTurned : ByteArray := prog_7_method_28_code
def yX5_isTurned : MethodName := ⟨RX5, "isTurned", "(II)Z"⟩
abbrev cX5_layersByFollowing : ByteArray := prog_7_method_29_code
def yX5_layersByFollowing : MethodName := ⟨RX5, "layersByFollowing", "(I)I"⟩
abbrev cX5_bears : ByteArray := prog_7_method_30_code
def yX5_bears : MethodName := ⟨RX5, "bears", "(II)Z"⟩
abbrev cX5_kindsFor : ByteArray := prog_7_method_31_code
def yX5_kindsFor : MethodName := ⟨RX5, "kindsFor", "(I)I"⟩
abbrev cX5_kindsOf : ByteArray := prog_7_method_32_code
def yX5_kindsOf : MethodName := ⟨RX5, "kindsOf", "(I)I"⟩
abbrev cX5_isExam : ByteArray := prog_7_method_33_code
def yX5_isExam : MethodName := ⟨RX5, "isExam", "(II)Z"⟩
abbrev cX5_mayFold : ByteArray := prog_7_method_34_code
def yX5_mayFold : MethodName := ⟨RX5, "mayFold", "(II)Z"⟩
abbrev cX5_lessons : ByteArray := prog_7_method_35_code
def yX5_lessons : MethodName := ⟨RX5, "lessons", "(II)I"⟩
abbrev cX5_credit : ByteArray := prog_7_method_36_code
def yX5_credit : MethodName := ⟨RX5, "credit", "(I)I"⟩
abbrev cX5_fewest : ByteArray := prog_7_method_37_code
def yX5_fewest : MethodName := ⟨RX5, "fewest", "()V"⟩
abbrev cX5_fewestPieces : ByteArray := prog_7_method_38_code
def yX5_fewestPieces : MethodName := ⟨RX5, "fewestPieces", "()I"⟩
abbrev cX5_ways : ByteArray := prog_7_method_39_code
def yX5_ways : MethodName := ⟨RX5, "ways", "()I"⟩
abbrev cX5_leastRest : ByteArray := prog_7_method_40_code
def yX5_leastRest : MethodName := ⟨RX5, "leastRest", "()I"⟩
def RJ6 : String := "java/lang/Integer"
def TJ6 : u_T := fun k => match k with
  | _ => ("", "", "", false)
def tyJ6 : Nat → FieldType := fun k => match k with
  | _ => .int
abbrev wsJ60 : List Cond := u_ws RJ6 TJ6 0
theorem nmJ6 : ∀ a, a < 0 → ∀ b, b < 0 → a ≠ b → (TJ6 a).2.1 ≠ (TJ6 b).2.1 := by decide +kernel
theorem tyJ6_ok : ∀ k, k < 0 → parseFieldDescriptor (TJ6 k).2.2.1 = some (tyJ6 k) := by decide +kernel
abbrev cJ6_bitCount_0f7a4 : ByteArray := prog_12_method_49_code
def yJ6_bitCount_0f7a4 : MethodName := ⟨RJ6, "bitCount", "(I)I"⟩
def RJ9 : String := "java/lang/Math"
def TJ9 : u_T := fun k => match k with
  | _ => ("", "", "", false)
def tyJ9 : Nat → FieldType := fun k => match k with
  | _ => .int
abbrev wsJ90 : List Cond := u_ws RJ9 TJ9 0
theorem nmJ9 : ∀ a, a < 0 → ∀ b, b < 0 → a ≠ b → (TJ9 a).2.1 ≠ (TJ9 b).2.1 := by decide +kernel
theorem tyJ9_ok : ∀ k, k < 0 → parseFieldDescriptor (TJ9 k).2.2.1 = some (tyJ9 k) := by decide +kernel
abbrev cJ9_max_7cf53 : ByteArray := prog_13_method_65_code
def yJ9_max_7cf53 : MethodName := ⟨RJ9, "max", "(II)I"⟩
abbrev cJ9_min_7cf53 : ByteArray := prog_13_method_69_code
def yJ9_min_7cf53 : MethodName := ⟨RJ9, "min", "(II)I"⟩
def RJ0 : String := "java/lang/String"
def TJ0 : u_T := fun k => match k with
  | _ => ("", "", "", false)
def tyJ0 : Nat → FieldType := fun k => match k with
  | _ => .int
abbrev wsJ00 : List Cond := u_ws RJ0 TJ0 0
theorem nmJ0 : ∀ a, a < 0 → ∀ b, b < 0 → a ≠ b → (TJ0 a).2.1 ≠ (TJ0 b).2.1 := by decide +kernel
theorem tyJ0_ok : ∀ k, k < 0 → parseFieldDescriptor (TJ0 k).2.2.1 = some (tyJ0 k) := by decide +kernel
def RL : String := "PaperGuildLaw"
abbrev cL_setNeeds : ByteArray := method_3_code
def yL_setNeeds : MethodName := ⟨RL, "setNeeds", "(LPaperGuild;II[J)I"⟩
abbrev cL_addModel : ByteArray := method_4_code
def yL_addModel : MethodName := ⟨RL, "addModel", "(LPaperGuild;II[J)I"⟩
abbrev cL_fold : ByteArray := method_5_code
def yL_fold : MethodName := ⟨RL, "fold", "(LPaperGuild;IIIZ[J)I"⟩
abbrev cL_unfold : ByteArray := method_6_code
def yL_unfold : MethodName := ⟨RL, "unfold", "(LPaperGuild;I[J)I"⟩
abbrev cL_use : ByteArray := method_7_code
def yL_use : MethodName := ⟨RL, "use", "(LPaperGuild;II[J)I"⟩
abbrev cL_setRoll : ByteArray := method_8_code
def yL_setRoll : MethodName := ⟨RL, "setRoll", "(LPaperGuild;II[J)I"⟩
abbrev cL_teach : ByteArray := method_9_code
def yL_teach : MethodName := ⟨RL, "teach", "(LPaperGuild;II[J)I"⟩
abbrev cL_steps : ByteArray := method_10_code
def yL_steps : MethodName := ⟨RL, "steps", "(LPaperGuild;I[J)I"⟩
abbrev cL_places : ByteArray := method_11_code
def yL_places : MethodName := ⟨RL, "places", "(LPaperGuild;I[J)I"⟩
abbrev cL_layers : ByteArray := method_12_code
def yL_layers : MethodName := ⟨RL, "layers", "(LPaperGuild;I[J)I"⟩
abbrev cL_cellAt : ByteArray := method_13_code
def yL_cellAt : MethodName := ⟨RL, "cellAt", "(LPaperGuild;III[J)I"⟩
abbrev cL_placeOf : ByteArray := method_14_code
def yL_placeOf : MethodName := ⟨RL, "placeOf", "(LPaperGuild;II[J)I"⟩
abbrev cL_isTurned : ByteArray := method_15_code
def yL_isTurned : MethodName := ⟨RL, "isTurned", "(LPaperGuild;II[J)I"⟩
abbrev cL_layersByFollowing : ByteArray := method_16_code
def yL_layersByFollowing : MethodName := ⟨RL, "layersByFollowing", "(LPaperGuild;I[J)I"⟩
abbrev cL_bears : ByteArray := method_17_code
def yL_bears : MethodName := ⟨RL, "bears", "(LPaperGuild;II[J)I"⟩
abbrev cL_kindsOf : ByteArray := method_18_code
def yL_kindsOf : MethodName := ⟨RL, "kindsOf", "(LPaperGuild;I[J)I"⟩
abbrev cL_mayFold : ByteArray := method_19_code
def yL_mayFold : MethodName := ⟨RL, "mayFold", "(LPaperGuild;II[J)I"⟩
abbrev cL_lessons : ByteArray := method_20_code
def yL_lessons : MethodName := ⟨RL, "lessons", "(LPaperGuild;II[J)I"⟩
abbrev cL_credit : ByteArray := method_21_code
def yL_credit : MethodName := ⟨RL, "credit", "(LPaperGuild;I[J)I"⟩
abbrev cL_law : ByteArray := code
def yL_law : MethodName := ⟨RL, "law", "([I)Z"⟩
def wsX0_init : List Cond := .code yX0_init cX0_init 1 none :: ([.methodLink RX0 1 objectInit, .instanceMethod objectInit, .code objectInit ⟨#[0xb1]⟩ 1 none, .fieldLink RX0 7 "PaperGuild$Follower" "place" "I", .fieldLink RX0 13 "PaperGuild$Follower" "turned" "Z", .fieldLink RX0 17 "PaperGuild$Follower" "span" "I"] ++ wsX00)
def wsX0_takeStep : List Cond := .code yX0_takeStep cX0_takeStep 5 none :: ([.fieldLink RX0 7 "PaperGuild$Follower" "place" "I", .fieldLink RX0 13 "PaperGuild$Follower" "turned" "Z", .fieldLink RX0 17 "PaperGuild$Follower" "span" "I", .methodLink RX0 40 Lib.Math.min.name, .static Lib.Math.min.name, .initialized "java/lang/Math", .code Lib.Math.min.name Lib.Math.min.code 2 (some .int), .methodLink RX0 46 Lib.Math.max.name, .static Lib.Math.max.name, .code Lib.Math.max.name Lib.Math.max.code 2 (some .int)] ++ wsX00)
def wsX0_follow : List Cond := .code yX0_follow cX0_follow 4 none :: ([.fieldLink RX0 7 "PaperGuild$Follower" "place" "I", .fieldLink RX0 13 "PaperGuild$Follower" "turned" "Z", .fieldLink RX0 20 "PaperGuild$Model" "length" "I", .fieldLink RX0 17 "PaperGuild$Follower" "span" "I", .fieldLink RX0 25 "PaperGuild$Model" "stepCount" "I", .fieldLink RX0 28 "PaperGuild$Model" "stepPlaces" "[I", .fieldLink RX0 32 "PaperGuild$Model" "stepsFromLeft" "[Z", .methodLink RX0 36 yX0_takeStep, .instanceMethod yX0_takeStep, .selects RX0 yX0_takeStep yX0_takeStep, .initialized RX0, .code yX0_takeStep cX0_takeStep 5 none, .methodLink RX0 40 Lib.Math.min.name, .static Lib.Math.min.name, .initialized "java/lang/Math", .code Lib.Math.min.name Lib.Math.min.code 2 (some .int), .methodLink RX0 46 Lib.Math.max.name, .static Lib.Math.max.name, .code Lib.Math.max.name Lib.Math.max.code 2 (some .int)] ++ wsX00 ++ wsX20)
def wsX1_init : List Cond := .code yX1_init cX1_init 1 none :: ([.methodLink RX1 3 objectInit, .instanceMethod objectInit, .code objectInit ⟨#[0xb1]⟩ 1 none, .fieldLink RX1 9 "PaperGuild$Mill" "rollLength" "I", .fieldLink RX1 15 "PaperGuild$Mill" "demanded" "I", .arrayClass .int, .fieldLink RX1 18 "PaperGuild$Mill" "fewest" "[I", .fieldLink RX1 22 "PaperGuild$Mill" "waysTo" "[I"] ++ wsX10)
def wsX4_holds : List Cond := .code yX4_holds cX4_holds 2 (some .boolean) :: ([])
def wsX1_isDemanded : List Cond := .code yX1_isDemanded cX1_isDemanded 2 (some .boolean) :: ([.fieldLink RX1 15 "PaperGuild$Mill" "demanded" "I", .static yX4_holds, .initialized RX4, .code yX4_holds cX4_holds 2 (some .boolean)] ++ wsX10)
def wsX1_fewestFor : List Cond := .code yX1_fewestFor cX1_fewestFor 5 (some .int) :: ([.fieldLink RX1 18 "PaperGuild$Mill" "fewest" "[I", .methodLink RX1 28 yX1_isDemanded, .instanceMethod yX1_isDemanded, .selects RX1 yX1_isDemanded yX1_isDemanded, .initialized RX1, .code yX1_isDemanded cX1_isDemanded 2 (some .boolean), .fieldLink RX1 15 "PaperGuild$Mill" "demanded" "I", .static yX4_holds, .initialized RX4, .code yX4_holds cX4_holds 2 (some .boolean)] ++ wsX10)
def wsX1_fillFewest : List Cond := .code yX1_fillFewest cX1_fillFewest 2 none :: ([.fieldLink RX1 18 "PaperGuild$Mill" "fewest" "[I", .fieldLink RX1 9 "PaperGuild$Mill" "rollLength" "I", .methodLink RX1 37 yX1_fewestFor, .instanceMethod yX1_fewestFor, .selects RX1 yX1_fewestFor yX1_fewestFor, .initialized RX1, .code yX1_fewestFor cX1_fewestFor 5 (some .int), .methodLink RX1 28 yX1_isDemanded, .instanceMethod yX1_isDemanded, .selects RX1 yX1_isDemanded yX1_isDemanded, .code yX1_isDemanded cX1_isDemanded 2 (some .boolean), .fieldLink RX1 15 "PaperGuild$Mill" "demanded" "I", .static yX4_holds, .initialized RX4, .code yX4_holds cX4_holds 2 (some .boolean)] ++ wsX10)
def wsX1_fewestForRoll : List Cond := .code yX1_fewestForRoll cX1_fewestForRoll 1 (some .int) :: ([.fieldLink RX1 18 "PaperGuild$Mill" "fewest" "[I", .fieldLink RX1 9 "PaperGuild$Mill" "rollLength" "I", .methodLink RX1 25 yX1_fillFewest, .instanceMethod yX1_fillFewest, .selects RX1 yX1_fillFewest yX1_fillFewest, .initialized RX1, .code yX1_fillFewest cX1_fillFewest 2 none, .methodLink RX1 37 yX1_fewestFor, .instanceMethod yX1_fewestFor, .selects RX1 yX1_fewestFor yX1_fewestFor, .code yX1_fewestFor cX1_fewestFor 5 (some .int), .methodLink RX1 28 yX1_isDemanded, .instanceMethod yX1_isDemanded, .selects RX1 yX1_isDemanded yX1_isDemanded, .code yX1_isDemanded cX1_isDemanded 2 (some .boolean), .fieldLink RX1 15 "PaperGuild$Mill" "demanded" "I", .static yX4_holds, .initialized RX4, .code yX4_holds cX4_holds 2 (some .boolean)] ++ wsX10)
def wsX1_restOfRoll : List Cond := .code yX1_restOfRoll cX1_restOfRoll 2 (some .int) :: ([.fieldLink RX1 9 "PaperGuild$Mill" "rollLength" "I", .fieldLink RX1 18 "PaperGuild$Mill" "fewest" "[I", .methodLink RX1 25 yX1_fillFewest, .instanceMethod yX1_fillFewest, .selects RX1 yX1_fillFewest yX1_fillFewest, .initialized RX1, .code yX1_fillFewest cX1_fillFewest 2 none, .methodLink RX1 37 yX1_fewestFor, .instanceMethod yX1_fewestFor, .selects RX1 yX1_fewestFor yX1_fewestFor, .code yX1_fewestFor cX1_fewestFor 5 (some .int), .methodLink RX1 28 yX1_isDemanded, .instanceMethod yX1_isDemanded, .selects RX1 yX1_isDemanded yX1_isDemanded, .code yX1_isDemanded cX1_isDemanded 2 (some .boolean), .fieldLink RX1 15 "PaperGuild$Mill" "demanded" "I", .static yX4_holds, .initialized RX4, .code yX4_holds cX4_holds 2 (some .boolean)] ++ wsX10)
def wsX1_addWaysWith : List Cond := .code yX1_addWaysWith cX1_addWaysWith 3 none :: ([.fieldLink RX1 9 "PaperGuild$Mill" "rollLength" "I", .fieldLink RX1 22 "PaperGuild$Mill" "waysTo" "[I", .constant RX1 36 (1000007)] ++ wsX10)
def wsX1_waysForRoll : List Cond := .code yX1_waysForRoll cX1_waysForRoll 2 (some .int) :: ([.fieldLink RX1 22 "PaperGuild$Mill" "waysTo" "[I", .fieldLink RX1 9 "PaperGuild$Mill" "rollLength" "I", .methodLink RX1 28 yX1_isDemanded, .instanceMethod yX1_isDemanded, .selects RX1 yX1_isDemanded yX1_isDemanded, .initialized RX1, .code yX1_isDemanded cX1_isDemanded 2 (some .boolean), .fieldLink RX1 15 "PaperGuild$Mill" "demanded" "I", .static yX4_holds, .initialized RX4, .code yX4_holds cX4_holds 2 (some .boolean), .methodLink RX1 32 yX1_addWaysWith, .instanceMethod yX1_addWaysWith, .selects RX1 yX1_addWaysWith yX1_addWaysWith, .code yX1_addWaysWith cX1_addWaysWith 3 none, .constant RX1 36 (1000007)] ++ wsX10)
def wsX3_init : List Cond := .code yX3_init cX3_init 1 none :: ([.methodLink RX3 3 objectInit, .instanceMethod objectInit, .code objectInit ⟨#[0xb1]⟩ 1 none, .arrayClass .int, .fieldLink RX3 9 "PaperGuild$Stacks" "cells" "[I", .fieldLink RX3 15 "PaperGuild$Stacks" "starts" "[I", .fieldLink RX3 18 "PaperGuild$Stacks" "nextCells" "[I", .fieldLink RX3 21 "PaperGuild$Stacks" "nextStarts" "[I", .fieldLink RX3 24 "PaperGuild$Stacks" "filled" "I", .fieldLink RX3 28 "PaperGuild$Stacks" "span" "I"] ++ wsX30)
def wsX3_layFlat : List Cond := .code yX3_layFlat cX3_layFlat 3 none :: ([.methodLink RX3 31 Lib.Math.min.name, .static Lib.Math.min.name, .initialized "java/lang/Math", .code Lib.Math.min.name Lib.Math.min.code 2 (some .int), .methodLink RX3 37 Lib.Math.max.name, .static Lib.Math.max.name, .code Lib.Math.max.name Lib.Math.max.code 2 (some .int), .fieldLink RX3 28 "PaperGuild$Stacks" "span" "I", .fieldLink RX3 9 "PaperGuild$Stacks" "cells" "[I", .fieldLink RX3 15 "PaperGuild$Stacks" "starts" "[I"] ++ wsX30)
def wsX2_init_r1 : List Cond := [Cond.methodLink RX2 3 objectInit, Cond.instanceMethod objectInit, Cond.code objectInit ⟨#[0xb1]⟩ 1 none, Cond.arrayClass .int, Cond.fieldLink RX2 9 "PaperGuild$Model" "stepKinds" "[I", Cond.fieldLink RX2 15 "PaperGuild$Model" "stepPlaces" "[I", Cond.arrayClass .boolean, Cond.fieldLink RX2 18 "PaperGuild$Model" "stepsFromLeft" "[Z", Cond.fieldLink RX2 22 "PaperGuild$Model" "stepCount" "I", Cond.fieldLink RX2 26 "PaperGuild$Model" "author" "I", Cond.fieldLink RX2 29 "PaperGuild$Model" "length" "I", Cond.classLink RX2 32 RX3, Cond.instantiable RX3 6, Cond.initialized RX3, Cond.fieldLink RX2 35 "PaperGuild$Model" "stacks" "LPaperGuild$Stacks;", Cond.instanceMethod yX3_init, Cond.code yX3_init cX3_init 1 none, Cond.methodLink RX3 3 objectInit, Cond.fieldLink RX3 9 "PaperGuild$Stacks" "cells" "[I", Cond.fieldLink RX3 15 "PaperGuild$Stacks" "starts" "[I", Cond.fieldLink RX3 18 "PaperGuild$Stacks" "nextCells" "[I", Cond.fieldLink RX3 21 "PaperGuild$Stacks" "nextStarts" "[I", Cond.fieldLink RX3 24 "PaperGuild$Stacks" "filled" "I", Cond.fieldLink RX3 28 "PaperGuild$Stacks" "span" "I"]
def wsX2_init_r2 : List Cond := [Cond.methodLink RX2 39 yX3_layFlat, Cond.instanceMethod yX3_layFlat, Cond.selects RX3 yX3_layFlat yX3_layFlat, Cond.code yX3_layFlat cX3_layFlat 3 none, Cond.methodLink RX3 31 Lib.Math.min.name, Cond.static Lib.Math.min.name, Cond.initialized "java/lang/Math", Cond.code Lib.Math.min.name Lib.Math.min.code 2 (some .int), Cond.methodLink RX3 37 Lib.Math.max.name, Cond.static Lib.Math.max.name, Cond.code Lib.Math.max.name Lib.Math.max.code 2 (some .int)]
def wsX2_init : List Cond := .code yX2_init cX2_init 3 none :: ((wsX2_init_r1 ++ wsX2_init_r2) ++ wsX20 ++ wsX30)
def wsX2_ownKinds : List Cond := .code yX2_ownKinds cX2_ownKinds 3 (some .int) :: ([.fieldLink RX2 22 "PaperGuild$Model" "stepCount" "I", .fieldLink RX2 9 "PaperGuild$Model" "stepKinds" "[I"] ++ wsX20)
def wsX3_isPlace : List Cond := .code yX3_isPlace cX3_isPlace 2 (some .boolean) :: ([.fieldLink RX3 28 "PaperGuild$Stacks" "span" "I"] ++ wsX30)
def wsX3_heightAt : List Cond := .code yX3_heightAt cX3_heightAt 2 (some .int) :: ([.fieldLink RX3 15 "PaperGuild$Stacks" "starts" "[I", .methodLink RX3 50 yX3_isPlace, .instanceMethod yX3_isPlace, .selects RX3 yX3_isPlace yX3_isPlace, .initialized RX3, .code yX3_isPlace cX3_isPlace 2 (some .boolean), .fieldLink RX3 28 "PaperGuild$Stacks" "span" "I"] ++ wsX30)
def wsX3_cellIn : List Cond := .code yX3_cellIn cX3_cellIn 3 (some .int) :: ([.fieldLink RX3 9 "PaperGuild$Stacks" "cells" "[I", .fieldLink RX3 15 "PaperGuild$Stacks" "starts" "[I", .methodLink RX3 54 yX3_heightAt, .instanceMethod yX3_heightAt, .selects RX3 yX3_heightAt yX3_heightAt, .initialized RX3, .code yX3_heightAt cX3_heightAt 2 (some .int), .methodLink RX3 50 yX3_isPlace, .instanceMethod yX3_isPlace, .selects RX3 yX3_isPlace yX3_isPlace, .code yX3_isPlace cX3_isPlace 2 (some .boolean), .fieldLink RX3 28 "PaperGuild$Stacks" "span" "I"] ++ wsX30)
def wsX3_copyCell : List Cond := .code yX3_copyCell cX3_copyCell 3 none :: ([.fieldLink RX3 24 "PaperGuild$Stacks" "filled" "I", .fieldLink RX3 18 "PaperGuild$Stacks" "nextCells" "[I", .methodLink RX3 62 yX3_cellIn, .instanceMethod yX3_cellIn, .selects RX3 yX3_cellIn yX3_cellIn, .initialized RX3, .code yX3_cellIn cX3_cellIn 3 (some .int), .fieldLink RX3 9 "PaperGuild$Stacks" "cells" "[I", .fieldLink RX3 15 "PaperGuild$Stacks" "starts" "[I", .methodLink RX3 54 yX3_heightAt, .instanceMethod yX3_heightAt, .selects RX3 yX3_heightAt yX3_heightAt, .code yX3_heightAt cX3_heightAt 2 (some .int), .methodLink RX3 50 yX3_isPlace, .instanceMethod yX3_isPlace, .selects RX3 yX3_isPlace yX3_isPlace, .code yX3_isPlace cX3_isPlace 2 (some .boolean), .fieldLink RX3 28 "PaperGuild$Stacks" "span" "I"] ++ wsX30)
def wsX3_copyUpwards : List Cond := .code yX3_copyUpwards cX3_copyUpwards 4 none :: ([.methodLink RX3 54 yX3_heightAt, .instanceMethod yX3_heightAt, .selects RX3 yX3_heightAt yX3_heightAt, .initialized RX3, .code yX3_heightAt cX3_heightAt 2 (some .int), .fieldLink RX3 15 "PaperGuild$Stacks" "starts" "[I", .methodLink RX3 50 yX3_isPlace, .instanceMethod yX3_isPlace, .selects RX3 yX3_isPlace yX3_isPlace, .code yX3_isPlace cX3_isPlace 2 (some .boolean), .fieldLink RX3 28 "PaperGuild$Stacks" "span" "I", .methodLink RX3 58 yX3_copyCell, .instanceMethod yX3_copyCell, .selects RX3 yX3_copyCell yX3_copyCell, .code yX3_copyCell cX3_copyCell 3 none, .fieldLink RX3 24 "PaperGuild$Stacks" "filled" "I", .fieldLink RX3 18 "PaperGuild$Stacks" "nextCells" "[I", .methodLink RX3 62 yX3_cellIn, .instanceMethod yX3_cellIn, .selects RX3 yX3_cellIn yX3_cellIn, .code yX3_cellIn cX3_cellIn 3 (some .int), .fieldLink RX3 9 "PaperGuild$Stacks" "cells" "[I"] ++ wsX30)
def wsX3_copyDownwards : List Cond := .code yX3_copyDownwards cX3_copyDownwards 3 none :: ([.methodLink RX3 54 yX3_heightAt, .instanceMethod yX3_heightAt, .selects RX3 yX3_heightAt yX3_heightAt, .initialized RX3, .code yX3_heightAt cX3_heightAt 2 (some .int), .fieldLink RX3 15 "PaperGuild$Stacks" "starts" "[I", .methodLink RX3 50 yX3_isPlace, .instanceMethod yX3_isPlace, .selects RX3 yX3_isPlace yX3_isPlace, .code yX3_isPlace cX3_isPlace 2 (some .boolean), .fieldLink RX3 28 "PaperGuild$Stacks" "span" "I", .methodLink RX3 58 yX3_copyCell, .instanceMethod yX3_copyCell, .selects RX3 yX3_copyCell yX3_copyCell, .code yX3_copyCell cX3_copyCell 3 none, .fieldLink RX3 24 "PaperGuild$Stacks" "filled" "I", .fieldLink RX3 18 "PaperGuild$Stacks" "nextCells" "[I", .methodLink RX3 62 yX3_cellIn, .instanceMethod yX3_cellIn, .selects RX3 yX3_cellIn yX3_cellIn, .code yX3_cellIn cX3_cellIn 3 (some .int), .fieldLink RX3 9 "PaperGuild$Stacks" "cells" "[I"] ++ wsX30)
def wsX3_swapRows : List Cond := .code yX3_swapRows cX3_swapRows 3 none :: ([.fieldLink RX3 9 "PaperGuild$Stacks" "cells" "[I", .fieldLink RX3 15 "PaperGuild$Stacks" "starts" "[I", .fieldLink RX3 18 "PaperGuild$Stacks" "nextCells" "[I", .fieldLink RX3 21 "PaperGuild$Stacks" "nextStarts" "[I"] ++ wsX30)
def wsX3_turnOver_r1 : List Cond := [Cond.fieldLink RX3 28 "PaperGuild$Stacks" "span" "I", Cond.methodLink RX3 31 Lib.Math.min.name, Cond.static Lib.Math.min.name, Cond.initialized "java/lang/Math", Cond.code Lib.Math.min.name Lib.Math.min.code 2 (some .int), Cond.methodLink RX3 37 Lib.Math.max.name, Cond.static Lib.Math.max.name, Cond.code Lib.Math.max.name Lib.Math.max.code 2 (some .int), Cond.fieldLink RX3 24 "PaperGuild$Stacks" "filled" "I", Cond.fieldLink RX3 21 "PaperGuild$Stacks" "nextStarts" "[I", Cond.methodLink RX3 40 yX3_copyUpwards, Cond.instanceMethod yX3_copyUpwards, Cond.selects RX3 yX3_copyUpwards yX3_copyUpwards, Cond.initialized RX3, Cond.code yX3_copyUpwards cX3_copyUpwards 4 none, Cond.methodLink RX3 54 yX3_heightAt, Cond.instanceMethod yX3_heightAt, Cond.selects RX3 yX3_heightAt yX3_heightAt, Cond.code yX3_heightAt cX3_heightAt 2 (some .int), Cond.fieldLink RX3 15 "PaperGuild$Stacks" "starts" "[I", Cond.methodLink RX3 50 yX3_isPlace, Cond.instanceMethod yX3_isPlace, Cond.selects RX3 yX3_isPlace yX3_isPlace, Cond.code yX3_isPlace cX3_isPlace 2 (some .boolean)]
def wsX3_turnOver_r2 : List Cond := [Cond.methodLink RX3 58 yX3_copyCell, Cond.instanceMethod yX3_copyCell, Cond.selects RX3 yX3_copyCell yX3_copyCell, Cond.code yX3_copyCell cX3_copyCell 3 none, Cond.fieldLink RX3 18 "PaperGuild$Stacks" "nextCells" "[I", Cond.methodLink RX3 62 yX3_cellIn, Cond.instanceMethod yX3_cellIn, Cond.selects RX3 yX3_cellIn yX3_cellIn, Cond.code yX3_cellIn cX3_cellIn 3 (some .int), Cond.fieldLink RX3 9 "PaperGuild$Stacks" "cells" "[I", Cond.methodLink RX3 44 yX3_copyDownwards, Cond.instanceMethod yX3_copyDownwards, Cond.selects RX3 yX3_copyDownwards yX3_copyDownwards, Cond.code yX3_copyDownwards cX3_copyDownwards 3 none, Cond.methodLink RX3 47 yX3_swapRows, Cond.instanceMethod yX3_swapRows, Cond.selects RX3 yX3_swapRows yX3_swapRows, Cond.code yX3_swapRows cX3_swapRows 3 none]
def wsX3_turnOver : List Cond := .code yX3_turnOver cX3_turnOver 7 none :: ((wsX3_turnOver_r1 ++ wsX3_turnOver_r2) ++ wsX30)
def wsX2_addStep_r1 : List Cond := [Cond.fieldLink RX2 22 "PaperGuild$Model" "stepCount" "I", Cond.fieldLink RX2 9 "PaperGuild$Model" "stepKinds" "[I", Cond.fieldLink RX2 15 "PaperGuild$Model" "stepPlaces" "[I", Cond.fieldLink RX2 18 "PaperGuild$Model" "stepsFromLeft" "[Z", Cond.fieldLink RX2 35 "PaperGuild$Model" "stacks" "LPaperGuild$Stacks;", Cond.methodLink RX2 43 yX3_turnOver, Cond.instanceMethod yX3_turnOver, Cond.selects RX3 yX3_turnOver yX3_turnOver, Cond.initialized RX3, Cond.code yX3_turnOver cX3_turnOver 7 none, Cond.fieldLink RX3 28 "PaperGuild$Stacks" "span" "I", Cond.methodLink RX3 31 Lib.Math.min.name, Cond.static Lib.Math.min.name, Cond.initialized "java/lang/Math", Cond.code Lib.Math.min.name Lib.Math.min.code 2 (some .int), Cond.methodLink RX3 37 Lib.Math.max.name, Cond.static Lib.Math.max.name, Cond.code Lib.Math.max.name Lib.Math.max.code 2 (some .int), Cond.fieldLink RX3 24 "PaperGuild$Stacks" "filled" "I", Cond.fieldLink RX3 21 "PaperGuild$Stacks" "nextStarts" "[I", Cond.methodLink RX3 40 yX3_copyUpwards, Cond.instanceMethod yX3_copyUpwards, Cond.selects RX3 yX3_copyUpwards yX3_copyUpwards, Cond.code yX3_copyUpwards cX3_copyUpwards 4 none]
def wsX2_addStep_r2 : List Cond := [Cond.methodLink RX3 54 yX3_heightAt, Cond.instanceMethod yX3_heightAt, Cond.selects RX3 yX3_heightAt yX3_heightAt, Cond.code yX3_heightAt cX3_heightAt 2 (some .int), Cond.fieldLink RX3 15 "PaperGuild$Stacks" "starts" "[I", Cond.methodLink RX3 50 yX3_isPlace, Cond.instanceMethod yX3_isPlace, Cond.selects RX3 yX3_isPlace yX3_isPlace, Cond.code yX3_isPlace cX3_isPlace 2 (some .boolean), Cond.methodLink RX3 58 yX3_copyCell, Cond.instanceMethod yX3_copyCell, Cond.selects RX3 yX3_copyCell yX3_copyCell, Cond.code yX3_copyCell cX3_copyCell 3 none, Cond.fieldLink RX3 18 "PaperGuild$Stacks" "nextCells" "[I", Cond.methodLink RX3 62 yX3_cellIn, Cond.instanceMethod yX3_cellIn, Cond.selects RX3 yX3_cellIn yX3_cellIn, Cond.code yX3_cellIn cX3_cellIn 3 (some .int), Cond.fieldLink RX3 9 "PaperGuild$Stacks" "cells" "[I", Cond.methodLink RX3 44 yX3_copyDownwards, Cond.instanceMethod yX3_copyDownwards, Cond.selects RX3 yX3_copyDownwards yX3_copyDownwards, Cond.code yX3_copyDownwards cX3_copyDownwards 3 none, Cond.methodLink RX3 47 yX3_swapRows]
def wsX2_addStep_r3 : List Cond := [Cond.instanceMethod yX3_swapRows, Cond.selects RX3 yX3_swapRows yX3_swapRows, Cond.code yX3_swapRows cX3_swapRows 3 none]
def wsX2_addStep : List Cond := .code yX2_addStep cX2_addStep 4 none :: ((wsX2_addStep_r1 ++ (wsX2_addStep_r2 ++ wsX2_addStep_r3)) ++ wsX20 ++ wsX30)
def wsX2_removeLastStep_r1 : List Cond := [Cond.fieldLink RX2 22 "PaperGuild$Model" "stepCount" "I", Cond.fieldLink RX2 35 "PaperGuild$Model" "stacks" "LPaperGuild$Stacks;", Cond.fieldLink RX2 29 "PaperGuild$Model" "length" "I", Cond.fieldLink RX2 15 "PaperGuild$Model" "stepPlaces" "[I", Cond.fieldLink RX2 18 "PaperGuild$Model" "stepsFromLeft" "[Z", Cond.fieldLink RX2 9 "PaperGuild$Model" "stepKinds" "[I", Cond.methodLink RX2 39 yX3_layFlat, Cond.instanceMethod yX3_layFlat, Cond.selects RX3 yX3_layFlat yX3_layFlat, Cond.initialized RX3, Cond.code yX3_layFlat cX3_layFlat 3 none, Cond.methodLink RX3 31 Lib.Math.min.name, Cond.static Lib.Math.min.name, Cond.initialized "java/lang/Math", Cond.code Lib.Math.min.name Lib.Math.min.code 2 (some .int), Cond.methodLink RX3 37 Lib.Math.max.name, Cond.static Lib.Math.max.name, Cond.code Lib.Math.max.name Lib.Math.max.code 2 (some .int), Cond.fieldLink RX3 28 "PaperGuild$Stacks" "span" "I", Cond.fieldLink RX3 9 "PaperGuild$Stacks" "cells" "[I", Cond.fieldLink RX3 15 "PaperGuild$Stacks" "starts" "[I", Cond.methodLink RX2 43 yX3_turnOver, Cond.instanceMethod yX3_turnOver, Cond.selects RX3 yX3_turnOver yX3_turnOver]
def wsX2_removeLastStep_r2 : List Cond := [Cond.code yX3_turnOver cX3_turnOver 7 none, Cond.fieldLink RX3 24 "PaperGuild$Stacks" "filled" "I", Cond.fieldLink RX3 21 "PaperGuild$Stacks" "nextStarts" "[I", Cond.methodLink RX3 40 yX3_copyUpwards, Cond.instanceMethod yX3_copyUpwards, Cond.selects RX3 yX3_copyUpwards yX3_copyUpwards, Cond.code yX3_copyUpwards cX3_copyUpwards 4 none, Cond.methodLink RX3 54 yX3_heightAt, Cond.instanceMethod yX3_heightAt, Cond.selects RX3 yX3_heightAt yX3_heightAt, Cond.code yX3_heightAt cX3_heightAt 2 (some .int), Cond.methodLink RX3 50 yX3_isPlace, Cond.instanceMethod yX3_isPlace, Cond.selects RX3 yX3_isPlace yX3_isPlace, Cond.code yX3_isPlace cX3_isPlace 2 (some .boolean), Cond.methodLink RX3 58 yX3_copyCell, Cond.instanceMethod yX3_copyCell, Cond.selects RX3 yX3_copyCell yX3_copyCell, Cond.code yX3_copyCell cX3_copyCell 3 none, Cond.fieldLink RX3 18 "PaperGuild$Stacks" "nextCells" "[I", Cond.methodLink RX3 62 yX3_cellIn, Cond.instanceMethod yX3_cellIn, Cond.selects RX3 yX3_cellIn yX3_cellIn, Cond.code yX3_cellIn cX3_cellIn 3 (some .int)]
def wsX2_removeLastStep_r3 : List Cond := [Cond.methodLink RX3 44 yX3_copyDownwards, Cond.instanceMethod yX3_copyDownwards, Cond.selects RX3 yX3_copyDownwards yX3_copyDownwards, Cond.code yX3_copyDownwards cX3_copyDownwards 3 none, Cond.methodLink RX3 47 yX3_swapRows, Cond.instanceMethod yX3_swapRows, Cond.selects RX3 yX3_swapRows yX3_swapRows, Cond.code yX3_swapRows cX3_swapRows 3 none]
def wsX2_removeLastStep : List Cond := .code yX2_removeLastStep cX2_removeLastStep 2 (some .int) :: ((wsX2_removeLastStep_r1 ++ (wsX2_removeLastStep_r2 ++ wsX2_removeLastStep_r3)) ++ wsX20 ++ wsX30)
def wsX3_greatestHeight : List Cond := .code yX3_greatestHeight cX3_greatestHeight 3 (some .int) :: ([.fieldLink RX3 28 "PaperGuild$Stacks" "span" "I", .methodLink RX3 37 Lib.Math.max.name, .static Lib.Math.max.name, .initialized "java/lang/Math", .code Lib.Math.max.name Lib.Math.max.code 2 (some .int), .methodLink RX3 54 yX3_heightAt, .instanceMethod yX3_heightAt, .selects RX3 yX3_heightAt yX3_heightAt, .initialized RX3, .code yX3_heightAt cX3_heightAt 2 (some .int), .fieldLink RX3 15 "PaperGuild$Stacks" "starts" "[I", .methodLink RX3 50 yX3_isPlace, .instanceMethod yX3_isPlace, .selects RX3 yX3_isPlace yX3_isPlace, .code yX3_isPlace cX3_isPlace 2 (some .boolean)] ++ wsX30)
def wsX4_init_r1 : List Cond := [Cond.methodLink RX4 1 objectInit, Cond.instanceMethod objectInit, Cond.code objectInit ⟨#[0xb1]⟩ 1 none, Cond.arrayClass .int, Cond.fieldLink RX4 9 "PaperGuild" "needed" "[I", Cond.fieldLink RX4 13 "PaperGuild" "known" "[I", Cond.classLink RX4 16 RX2, Cond.fieldLink RX4 18 "PaperGuild" "guildModels" "[LPaperGuild$Model;", Cond.fieldLink RX4 22 "PaperGuild" "used" "[I", Cond.fieldLink RX4 25 "PaperGuild" "modelCount" "I", Cond.classLink RX4 29 RX0, Cond.instantiable RX0 3, Cond.initialized RX0, Cond.fieldLink RX4 32 "PaperGuild" "follower" "LPaperGuild$Follower;", Cond.fieldLink RX4 36 "PaperGuild" "followedHeights" "[I", Cond.classLink RX4 39 RX1, Cond.instantiable RX1 4, Cond.initialized RX1, Cond.fieldLink RX4 42 "PaperGuild" "mill" "LPaperGuild$Mill;", Cond.instanceMethod yX0_init, Cond.code yX0_init cX0_init 1 none, Cond.methodLink RX0 1 objectInit, Cond.fieldLink RX0 7 "PaperGuild$Follower" "place" "I", Cond.fieldLink RX0 13 "PaperGuild$Follower" "turned" "Z"]
def wsX4_init_r2 : List Cond := [Cond.fieldLink RX0 17 "PaperGuild$Follower" "span" "I", Cond.instanceMethod yX1_init, Cond.code yX1_init cX1_init 1 none, Cond.methodLink RX1 3 objectInit, Cond.fieldLink RX1 9 "PaperGuild$Mill" "rollLength" "I", Cond.fieldLink RX1 15 "PaperGuild$Mill" "demanded" "I", Cond.fieldLink RX1 18 "PaperGuild$Mill" "fewest" "[I", Cond.fieldLink RX1 22 "PaperGuild$Mill" "waysTo" "[I"]
def wsX4_init : List Cond := .code yX4_init cX4_init 1 none :: ((wsX4_init_r1 ++ wsX4_init_r2) ++ wsX40 ++ wsX00 ++ wsX10)
def wsX4_checkKind : List Cond := .code yX4_checkKind cX4_checkKind 2 none :: ([.classLink RX4 149 "java/lang/IndexOutOfBoundsException", .initialized "java/lang/IndexOutOfBoundsException"] ++ (vx_atS RX4 153 "java/lang/IndexOutOfBoundsException" ["java/lang/RuntimeException", "java/lang/Exception"]).filter goodWord)
def wsX4_reached : List Cond := .code yX4_reached cX4_reached 6 (some .int) :: ([.methodLink RX4 61 yX4_holds, .static yX4_holds, .initialized RX4, .code yX4_holds cX4_holds 2 (some .boolean)])
def wsX4_setNeeds : List Cond := .code yX4_setNeeds cX4_setNeeds 4 (some .int) :: ([.classLink RX4 50 "java/lang/IllegalArgumentException", .initialized "java/lang/IllegalArgumentException", .fieldLink RX4 9 "PaperGuild" "needed" "[I", .methodLink RX4 46 yX4_checkKind, .instanceMethod yX4_checkKind, .selects RX4 yX4_checkKind yX4_checkKind, .initialized RX4, .code yX4_checkKind cX4_checkKind 2 none, .classLink RX4 149 "java/lang/IndexOutOfBoundsException", .initialized "java/lang/IndexOutOfBoundsException", .methodLink RX4 57 yX4_reached, .static yX4_reached, .code yX4_reached cX4_reached 6 (some .int), .methodLink RX4 61 yX4_holds, .static yX4_holds, .code yX4_holds cX4_holds 2 (some .boolean)] ++ wsX40 ++ (vx_atS RX4 54 "java/lang/IllegalArgumentException" ["java/lang/RuntimeException", "java/lang/Exception"]).filter goodWord ++ (vx_atS RX4 153 "java/lang/IndexOutOfBoundsException" ["java/lang/RuntimeException", "java/lang/Exception"]).filter goodWord)
def wsX4_checkAuthor : List Cond := .code yX4_checkAuthor cX4_checkAuthor 2 none :: ([.classLink RX4 149 "java/lang/IndexOutOfBoundsException", .initialized "java/lang/IndexOutOfBoundsException"] ++ (vx_atS RX4 153 "java/lang/IndexOutOfBoundsException" ["java/lang/RuntimeException", "java/lang/Exception"]).filter goodWord)
def wsX4_addModel_r1 : List Cond := [Cond.classLink RX4 50 "java/lang/IllegalArgumentException", Cond.initialized "java/lang/IllegalArgumentException", Cond.classLink RX4 72 "java/lang/IllegalStateException", Cond.initialized "java/lang/IllegalStateException", Cond.fieldLink RX4 25 "PaperGuild" "modelCount" "I", Cond.fieldLink RX4 18 "PaperGuild" "guildModels" "[LPaperGuild$Model;", Cond.classLink RX4 16 RX2, Cond.instantiable RX2 7, Cond.initialized RX2, Cond.methodLink RX4 67 yX4_checkAuthor, Cond.instanceMethod yX4_checkAuthor, Cond.selects RX4 yX4_checkAuthor yX4_checkAuthor, Cond.initialized RX4, Cond.code yX4_checkAuthor cX4_checkAuthor 2 none, Cond.classLink RX4 149 "java/lang/IndexOutOfBoundsException", Cond.initialized "java/lang/IndexOutOfBoundsException", Cond.methodLink RX4 77 yX2_init, Cond.instanceMethod yX2_init, Cond.code yX2_init cX2_init 3 none, Cond.methodLink RX2 3 objectInit, Cond.instanceMethod objectInit, Cond.code objectInit ⟨#[0xb1]⟩ 1 none, Cond.arrayClass .int, Cond.fieldLink RX2 9 "PaperGuild$Model" "stepKinds" "[I"]
def wsX4_addModel_r2 : List Cond := [Cond.fieldLink RX2 15 "PaperGuild$Model" "stepPlaces" "[I", Cond.arrayClass .boolean, Cond.fieldLink RX2 18 "PaperGuild$Model" "stepsFromLeft" "[Z", Cond.fieldLink RX2 22 "PaperGuild$Model" "stepCount" "I", Cond.fieldLink RX2 26 "PaperGuild$Model" "author" "I", Cond.fieldLink RX2 29 "PaperGuild$Model" "length" "I", Cond.classLink RX2 32 RX3, Cond.instantiable RX3 6, Cond.initialized RX3, Cond.fieldLink RX2 35 "PaperGuild$Model" "stacks" "LPaperGuild$Stacks;", Cond.instanceMethod yX3_init, Cond.code yX3_init cX3_init 1 none, Cond.methodLink RX3 3 objectInit, Cond.fieldLink RX3 9 "PaperGuild$Stacks" "cells" "[I", Cond.fieldLink RX3 15 "PaperGuild$Stacks" "starts" "[I", Cond.fieldLink RX3 18 "PaperGuild$Stacks" "nextCells" "[I", Cond.fieldLink RX3 21 "PaperGuild$Stacks" "nextStarts" "[I", Cond.fieldLink RX3 24 "PaperGuild$Stacks" "filled" "I", Cond.fieldLink RX3 28 "PaperGuild$Stacks" "span" "I", Cond.methodLink RX2 39 yX3_layFlat, Cond.instanceMethod yX3_layFlat, Cond.selects RX3 yX3_layFlat yX3_layFlat, Cond.code yX3_layFlat cX3_layFlat 3 none, Cond.methodLink RX3 31 Lib.Math.min.name]
def wsX4_addModel_r3 : List Cond := [Cond.static Lib.Math.min.name, Cond.initialized "java/lang/Math", Cond.code Lib.Math.min.name Lib.Math.min.code 2 (some .int), Cond.methodLink RX3 37 Lib.Math.max.name, Cond.static Lib.Math.max.name, Cond.code Lib.Math.max.name Lib.Math.max.code 2 (some .int)]
def wsX4_addModel : List Cond := .code yX4_addModel cX4_addModel 3 (some .int) :: ((wsX4_addModel_r1 ++ (wsX4_addModel_r2 ++ wsX4_addModel_r3)) ++ wsX40 ++ wsX20 ++ wsX30 ++ (vx_atS RX4 54 "java/lang/IllegalArgumentException" ["java/lang/RuntimeException", "java/lang/Exception"]).filter goodWord ++ (vx_atS RX4 76 "java/lang/IllegalStateException" ["java/lang/RuntimeException", "java/lang/Exception"]).filter goodWord ++ (vx_atS RX4 153 "java/lang/IndexOutOfBoundsException" ["java/lang/RuntimeException", "java/lang/Exception"]).filter goodWord)
def wsX4_checkModel : List Cond := .code yX4_checkModel cX4_checkModel 2 none :: ([.classLink RX4 149 "java/lang/IndexOutOfBoundsException", .initialized "java/lang/IndexOutOfBoundsException", .fieldLink RX4 25 "PaperGuild" "modelCount" "I"] ++ wsX40 ++ (vx_atS RX4 153 "java/lang/IndexOutOfBoundsException" ["java/lang/RuntimeException", "java/lang/Exception"]).filter goodWord)
def wsX4_modelAt : List Cond := .code yX4_modelAt cX4_modelAt 3 (some (.object "PaperGuild$Model")) :: ([.classLink RX4 149 "java/lang/IndexOutOfBoundsException", .initialized "java/lang/IndexOutOfBoundsException", .fieldLink RX4 18 "PaperGuild" "guildModels" "[LPaperGuild$Model;", .methodLink RX4 118 yX4_checkModel, .instanceMethod yX4_checkModel, .selects RX4 yX4_checkModel yX4_checkModel, .initialized RX4, .code yX4_checkModel cX4_checkModel 2 none, .fieldLink RX4 25 "PaperGuild" "modelCount" "I"] ++ wsX40 ++ (vx_atS RX4 153 "java/lang/IndexOutOfBoundsException" ["java/lang/RuntimeException", "java/lang/Exception"]).filter goodWord)
def wsX4_lacksAny : List Cond := .code yX4_lacksAny cX4_lacksAny 2 (some .boolean) :: ([])
def wsX4_fold_r1 : List Cond := [Cond.classLink RX4 50 "java/lang/IllegalArgumentException", Cond.initialized "java/lang/IllegalArgumentException", Cond.classLink RX4 72 "java/lang/IllegalStateException", Cond.initialized "java/lang/IllegalStateException", Cond.fieldLink RX4 84 "PaperGuild$Model" "stacks" "LPaperGuild$Stacks;", Cond.fieldLink RX4 88 "PaperGuild$Stacks" "span" "I", Cond.fieldLink RX4 95 "PaperGuild$Model" "stepCount" "I", Cond.fieldLink RX4 9 "PaperGuild" "needed" "[I", Cond.methodLink RX4 80 yX4_modelAt, Cond.instanceMethod yX4_modelAt, Cond.selects RX4 yX4_modelAt yX4_modelAt, Cond.initialized RX4, Cond.code yX4_modelAt cX4_modelAt 3 (some (.object "PaperGuild$Model")), Cond.classLink RX4 149 "java/lang/IndexOutOfBoundsException", Cond.initialized "java/lang/IndexOutOfBoundsException", Cond.fieldLink RX4 18 "PaperGuild" "guildModels" "[LPaperGuild$Model;", Cond.methodLink RX4 118 yX4_checkModel, Cond.instanceMethod yX4_checkModel, Cond.selects RX4 yX4_checkModel yX4_checkModel, Cond.code yX4_checkModel cX4_checkModel 2 none, Cond.fieldLink RX4 25 "PaperGuild" "modelCount" "I", Cond.methodLink RX4 46 yX4_checkKind, Cond.instanceMethod yX4_checkKind, Cond.selects RX4 yX4_checkKind yX4_checkKind]
def wsX4_fold_r2 : List Cond := [Cond.code yX4_checkKind cX4_checkKind 2 none, Cond.methodLink RX4 100 yX2_ownKinds, Cond.instanceMethod yX2_ownKinds, Cond.selects RX2 yX2_ownKinds yX2_ownKinds, Cond.initialized RX2, Cond.code yX2_ownKinds cX2_ownKinds 3 (some .int), Cond.fieldLink RX2 22 "PaperGuild$Model" "stepCount" "I", Cond.fieldLink RX2 9 "PaperGuild$Model" "stepKinds" "[I", Cond.methodLink RX4 104 yX4_lacksAny, Cond.static yX4_lacksAny, Cond.code yX4_lacksAny cX4_lacksAny 2 (some .boolean), Cond.methodLink RX4 109 yX2_addStep, Cond.instanceMethod yX2_addStep, Cond.selects RX2 yX2_addStep yX2_addStep, Cond.code yX2_addStep cX2_addStep 4 none, Cond.fieldLink RX2 15 "PaperGuild$Model" "stepPlaces" "[I", Cond.fieldLink RX2 18 "PaperGuild$Model" "stepsFromLeft" "[Z", Cond.fieldLink RX2 35 "PaperGuild$Model" "stacks" "LPaperGuild$Stacks;", Cond.methodLink RX2 43 yX3_turnOver, Cond.instanceMethod yX3_turnOver, Cond.selects RX3 yX3_turnOver yX3_turnOver, Cond.initialized RX3, Cond.code yX3_turnOver cX3_turnOver 7 none, Cond.fieldLink RX3 28 "PaperGuild$Stacks" "span" "I"]
def wsX4_fold_r3 : List Cond := [Cond.methodLink RX3 31 Lib.Math.min.name, Cond.static Lib.Math.min.name, Cond.initialized "java/lang/Math", Cond.code Lib.Math.min.name Lib.Math.min.code 2 (some .int), Cond.methodLink RX3 37 Lib.Math.max.name, Cond.static Lib.Math.max.name, Cond.code Lib.Math.max.name Lib.Math.max.code 2 (some .int), Cond.fieldLink RX3 24 "PaperGuild$Stacks" "filled" "I", Cond.fieldLink RX3 21 "PaperGuild$Stacks" "nextStarts" "[I", Cond.methodLink RX3 40 yX3_copyUpwards, Cond.instanceMethod yX3_copyUpwards, Cond.selects RX3 yX3_copyUpwards yX3_copyUpwards, Cond.code yX3_copyUpwards cX3_copyUpwards 4 none, Cond.methodLink RX3 54 yX3_heightAt, Cond.instanceMethod yX3_heightAt, Cond.selects RX3 yX3_heightAt yX3_heightAt, Cond.code yX3_heightAt cX3_heightAt 2 (some .int), Cond.fieldLink RX3 15 "PaperGuild$Stacks" "starts" "[I", Cond.methodLink RX3 50 yX3_isPlace, Cond.instanceMethod yX3_isPlace, Cond.selects RX3 yX3_isPlace yX3_isPlace, Cond.code yX3_isPlace cX3_isPlace 2 (some .boolean), Cond.methodLink RX3 58 yX3_copyCell, Cond.instanceMethod yX3_copyCell]
def wsX4_fold_r4 : List Cond := [Cond.selects RX3 yX3_copyCell yX3_copyCell, Cond.code yX3_copyCell cX3_copyCell 3 none, Cond.fieldLink RX3 18 "PaperGuild$Stacks" "nextCells" "[I", Cond.methodLink RX3 62 yX3_cellIn, Cond.instanceMethod yX3_cellIn, Cond.selects RX3 yX3_cellIn yX3_cellIn, Cond.code yX3_cellIn cX3_cellIn 3 (some .int), Cond.fieldLink RX3 9 "PaperGuild$Stacks" "cells" "[I", Cond.methodLink RX3 44 yX3_copyDownwards, Cond.instanceMethod yX3_copyDownwards, Cond.selects RX3 yX3_copyDownwards yX3_copyDownwards, Cond.code yX3_copyDownwards cX3_copyDownwards 3 none, Cond.methodLink RX3 47 yX3_swapRows, Cond.instanceMethod yX3_swapRows, Cond.selects RX3 yX3_swapRows yX3_swapRows, Cond.code yX3_swapRows cX3_swapRows 3 none]
def wsX4_fold : List Cond := .code yX4_fold cX4_fold 6 (some .int) :: ((wsX4_fold_r1 ++ (wsX4_fold_r2 ++ (wsX4_fold_r3 ++ wsX4_fold_r4))) ++ wsX20 ++ wsX30 ++ wsX40 ++ (vx_atS RX4 54 "java/lang/IllegalArgumentException" ["java/lang/RuntimeException", "java/lang/Exception"]).filter goodWord ++ (vx_atS RX4 76 "java/lang/IllegalStateException" ["java/lang/RuntimeException", "java/lang/Exception"]).filter goodWord ++ (vx_atS RX4 153 "java/lang/IndexOutOfBoundsException" ["java/lang/RuntimeException", "java/lang/Exception"]).filter goodWord)
def wsX4_unfold_r1 : List Cond := [Cond.classLink RX4 72 "java/lang/IllegalStateException", Cond.initialized "java/lang/IllegalStateException", Cond.fieldLink RX4 95 "PaperGuild$Model" "stepCount" "I", Cond.methodLink RX4 80 yX4_modelAt, Cond.instanceMethod yX4_modelAt, Cond.selects RX4 yX4_modelAt yX4_modelAt, Cond.initialized RX4, Cond.code yX4_modelAt cX4_modelAt 3 (some (.object "PaperGuild$Model")), Cond.classLink RX4 149 "java/lang/IndexOutOfBoundsException", Cond.initialized "java/lang/IndexOutOfBoundsException", Cond.fieldLink RX4 18 "PaperGuild" "guildModels" "[LPaperGuild$Model;", Cond.methodLink RX4 118 yX4_checkModel, Cond.instanceMethod yX4_checkModel, Cond.selects RX4 yX4_checkModel yX4_checkModel, Cond.code yX4_checkModel cX4_checkModel 2 none, Cond.fieldLink RX4 25 "PaperGuild" "modelCount" "I", Cond.methodLink RX4 115 yX2_removeLastStep, Cond.instanceMethod yX2_removeLastStep, Cond.selects RX2 yX2_removeLastStep yX2_removeLastStep, Cond.initialized RX2, Cond.code yX2_removeLastStep cX2_removeLastStep 2 (some .int), Cond.fieldLink RX2 22 "PaperGuild$Model" "stepCount" "I", Cond.fieldLink RX2 35 "PaperGuild$Model" "stacks" "LPaperGuild$Stacks;", Cond.fieldLink RX2 29 "PaperGuild$Model" "length" "I"]
def wsX4_unfold_r2 : List Cond := [Cond.fieldLink RX2 15 "PaperGuild$Model" "stepPlaces" "[I", Cond.fieldLink RX2 18 "PaperGuild$Model" "stepsFromLeft" "[Z", Cond.fieldLink RX2 9 "PaperGuild$Model" "stepKinds" "[I", Cond.methodLink RX2 39 yX3_layFlat, Cond.instanceMethod yX3_layFlat, Cond.selects RX3 yX3_layFlat yX3_layFlat, Cond.initialized RX3, Cond.code yX3_layFlat cX3_layFlat 3 none, Cond.methodLink RX3 31 Lib.Math.min.name, Cond.static Lib.Math.min.name, Cond.initialized "java/lang/Math", Cond.code Lib.Math.min.name Lib.Math.min.code 2 (some .int), Cond.methodLink RX3 37 Lib.Math.max.name, Cond.static Lib.Math.max.name, Cond.code Lib.Math.max.name Lib.Math.max.code 2 (some .int), Cond.fieldLink RX3 28 "PaperGuild$Stacks" "span" "I", Cond.fieldLink RX3 9 "PaperGuild$Stacks" "cells" "[I", Cond.fieldLink RX3 15 "PaperGuild$Stacks" "starts" "[I", Cond.methodLink RX2 43 yX3_turnOver, Cond.instanceMethod yX3_turnOver, Cond.selects RX3 yX3_turnOver yX3_turnOver, Cond.code yX3_turnOver cX3_turnOver 7 none, Cond.fieldLink RX3 24 "PaperGuild$Stacks" "filled" "I", Cond.fieldLink RX3 21 "PaperGuild$Stacks" "nextStarts" "[I"]
def wsX4_unfold_r3 : List Cond := [Cond.methodLink RX3 40 yX3_copyUpwards, Cond.instanceMethod yX3_copyUpwards, Cond.selects RX3 yX3_copyUpwards yX3_copyUpwards, Cond.code yX3_copyUpwards cX3_copyUpwards 4 none, Cond.methodLink RX3 54 yX3_heightAt, Cond.instanceMethod yX3_heightAt, Cond.selects RX3 yX3_heightAt yX3_heightAt, Cond.code yX3_heightAt cX3_heightAt 2 (some .int), Cond.methodLink RX3 50 yX3_isPlace, Cond.instanceMethod yX3_isPlace, Cond.selects RX3 yX3_isPlace yX3_isPlace, Cond.code yX3_isPlace cX3_isPlace 2 (some .boolean), Cond.methodLink RX3 58 yX3_copyCell, Cond.instanceMethod yX3_copyCell, Cond.selects RX3 yX3_copyCell yX3_copyCell, Cond.code yX3_copyCell cX3_copyCell 3 none, Cond.fieldLink RX3 18 "PaperGuild$Stacks" "nextCells" "[I", Cond.methodLink RX3 62 yX3_cellIn, Cond.instanceMethod yX3_cellIn, Cond.selects RX3 yX3_cellIn yX3_cellIn, Cond.code yX3_cellIn cX3_cellIn 3 (some .int), Cond.methodLink RX3 44 yX3_copyDownwards, Cond.instanceMethod yX3_copyDownwards, Cond.selects RX3 yX3_copyDownwards yX3_copyDownwards]
def wsX4_unfold_r4 : List Cond := [Cond.code yX3_copyDownwards cX3_copyDownwards 3 none, Cond.methodLink RX3 47 yX3_swapRows, Cond.instanceMethod yX3_swapRows, Cond.selects RX3 yX3_swapRows yX3_swapRows, Cond.code yX3_swapRows cX3_swapRows 3 none]
def wsX4_unfold : List Cond := .code yX4_unfold cX4_unfold 3 (some .int) :: ((wsX4_unfold_r1 ++ (wsX4_unfold_r2 ++ (wsX4_unfold_r3 ++ wsX4_unfold_r4))) ++ wsX20 ++ wsX40 ++ wsX30 ++ (vx_atS RX4 76 "java/lang/IllegalStateException" ["java/lang/RuntimeException", "java/lang/Exception"]).filter goodWord ++ (vx_atS RX4 153 "java/lang/IndexOutOfBoundsException" ["java/lang/RuntimeException", "java/lang/Exception"]).filter goodWord)
def wsX4_modelsCountedFor : List Cond := .code yX4_modelsCountedFor cX4_modelsCountedFor 2 (some .int) :: ([.fieldLink RX4 22 "PaperGuild" "used" "[I", .methodLink RX4 57 yX4_reached, .static yX4_reached, .initialized RX4, .code yX4_reached cX4_reached 6 (some .int), .methodLink RX4 61 yX4_holds, .static yX4_holds, .code yX4_holds cX4_holds 2 (some .boolean)] ++ wsX40)
def wsX4_use : List Cond := .code yX4_use cX4_use 4 (some .boolean) :: ([.classLink RX4 50 "java/lang/IllegalArgumentException", .initialized "java/lang/IllegalArgumentException", .fieldLink RX4 22 "PaperGuild" "used" "[I", .methodLink RX4 118 yX4_checkModel, .instanceMethod yX4_checkModel, .selects RX4 yX4_checkModel yX4_checkModel, .initialized RX4, .code yX4_checkModel cX4_checkModel 2 none, .classLink RX4 149 "java/lang/IndexOutOfBoundsException", .initialized "java/lang/IndexOutOfBoundsException", .fieldLink RX4 25 "PaperGuild" "modelCount" "I", .methodLink RX4 121 yX4_modelsCountedFor, .instanceMethod yX4_modelsCountedFor, .selects RX4 yX4_modelsCountedFor yX4_modelsCountedFor, .code yX4_modelsCountedFor cX4_modelsCountedFor 2 (some .int), .methodLink RX4 57 yX4_reached, .static yX4_reached, .code yX4_reached cX4_reached 6 (some .int), .methodLink RX4 61 yX4_holds, .static yX4_holds, .code yX4_holds cX4_holds 2 (some .boolean)] ++ wsX40 ++ (vx_atS RX4 54 "java/lang/IllegalArgumentException" ["java/lang/RuntimeException", "java/lang/Exception"]).filter goodWord ++ (vx_atS RX4 153 "java/lang/IndexOutOfBoundsException" ["java/lang/RuntimeException", "java/lang/Exception"]).filter goodWord)
def wsX4_setRoll : List Cond := .code yX4_setRoll cX4_setRoll 4 (some .int) :: ([.classLink RX4 50 "java/lang/IllegalArgumentException", .initialized "java/lang/IllegalArgumentException", .constant RX4 127 (1048575), .fieldLink RX4 42 "PaperGuild" "mill" "LPaperGuild$Mill;", .fieldLink RX4 130 "PaperGuild$Mill" "rollLength" "I", .fieldLink RX4 133 "PaperGuild$Mill" "demanded" "I"] ++ wsX40 ++ wsX10 ++ (vx_atS RX4 54 "java/lang/IllegalArgumentException" ["java/lang/RuntimeException", "java/lang/Exception"]).filter goodWord)
def wsX4_checkPupil : List Cond := .code yX4_checkPupil cX4_checkPupil 2 none :: ([.classLink RX4 149 "java/lang/IndexOutOfBoundsException", .initialized "java/lang/IndexOutOfBoundsException"] ++ (vx_atS RX4 153 "java/lang/IndexOutOfBoundsException" ["java/lang/RuntimeException", "java/lang/Exception"]).filter goodWord)
def wsJ6_bitCount_0f7a4 : List Cond := .code yJ6_bitCount_0f7a4 cJ6_bitCount_0f7a4 1 (some .int) :: ([.constant RJ6 265 (1431655765), .constant RJ6 266 (858993459), .constant RJ6 267 (252645135)])
def wsX4_teach_r1 : List Cond := [Cond.classLink RX4 72 "java/lang/IllegalStateException", Cond.initialized "java/lang/IllegalStateException", Cond.fieldLink RX4 13 "PaperGuild" "known" "[I", Cond.fieldLink RX4 9 "PaperGuild" "needed" "[I", Cond.methodLink RX4 136 yX4_checkPupil, Cond.instanceMethod yX4_checkPupil, Cond.selects RX4 yX4_checkPupil yX4_checkPupil, Cond.initialized RX4, Cond.code yX4_checkPupil cX4_checkPupil 2 none, Cond.classLink RX4 149 "java/lang/IndexOutOfBoundsException", Cond.initialized "java/lang/IndexOutOfBoundsException", Cond.methodLink RX4 46 yX4_checkKind, Cond.instanceMethod yX4_checkKind, Cond.selects RX4 yX4_checkKind yX4_checkKind, Cond.code yX4_checkKind cX4_checkKind 2 none, Cond.methodLink RX4 104 yX4_lacksAny, Cond.static yX4_lacksAny, Cond.code yX4_lacksAny cX4_lacksAny 2 (some .boolean), Cond.methodLink RX4 141 yJ6_bitCount_0f7a4, Cond.static yJ6_bitCount_0f7a4, Cond.initialized RJ6, Cond.code yJ6_bitCount_0f7a4 cJ6_bitCount_0f7a4 1 (some .int), Cond.constant RJ6 265 (1431655765), Cond.constant RJ6 266 (858993459)]
def wsX4_teach_r2 : List Cond := [Cond.constant RJ6 267 (252645135)]
def wsX4_teach : List Cond := .code yX4_teach cX4_teach 3 (some .int) :: ((wsX4_teach_r1 ++ wsX4_teach_r2) ++ wsX40 ++ (vx_atS RX4 76 "java/lang/IllegalStateException" ["java/lang/RuntimeException", "java/lang/Exception"]).filter goodWord ++ (vx_atS RX4 153 "java/lang/IndexOutOfBoundsException" ["java/lang/RuntimeException", "java/lang/Exception"]).filter goodWord)
def wsX4_models : List Cond := .code yX4_models cX4_models 1 (some .int) :: ([.fieldLink RX4 25 "PaperGuild" "modelCount" "I"] ++ wsX40)
def wsX4_steps : List Cond := .code yX4_steps cX4_steps 2 (some .int) :: ([.fieldLink RX4 95 "PaperGuild$Model" "stepCount" "I", .methodLink RX4 80 yX4_modelAt, .instanceMethod yX4_modelAt, .selects RX4 yX4_modelAt yX4_modelAt, .initialized RX4, .code yX4_modelAt cX4_modelAt 3 (some (.object "PaperGuild$Model")), .classLink RX4 149 "java/lang/IndexOutOfBoundsException", .initialized "java/lang/IndexOutOfBoundsException", .fieldLink RX4 18 "PaperGuild" "guildModels" "[LPaperGuild$Model;", .methodLink RX4 118 yX4_checkModel, .instanceMethod yX4_checkModel, .selects RX4 yX4_checkModel yX4_checkModel, .code yX4_checkModel cX4_checkModel 2 none, .fieldLink RX4 25 "PaperGuild" "modelCount" "I"] ++ wsX20 ++ wsX40 ++ (vx_atS RX4 153 "java/lang/IndexOutOfBoundsException" ["java/lang/RuntimeException", "java/lang/Exception"]).filter goodWord)
def wsX4_places : List Cond := .code yX4_places cX4_places 2 (some .int) :: ([.fieldLink RX4 84 "PaperGuild$Model" "stacks" "LPaperGuild$Stacks;", .fieldLink RX4 88 "PaperGuild$Stacks" "span" "I", .methodLink RX4 80 yX4_modelAt, .instanceMethod yX4_modelAt, .selects RX4 yX4_modelAt yX4_modelAt, .initialized RX4, .code yX4_modelAt cX4_modelAt 3 (some (.object "PaperGuild$Model")), .classLink RX4 149 "java/lang/IndexOutOfBoundsException", .initialized "java/lang/IndexOutOfBoundsException", .fieldLink RX4 18 "PaperGuild" "guildModels" "[LPaperGuild$Model;", .methodLink RX4 118 yX4_checkModel, .instanceMethod yX4_checkModel, .selects RX4 yX4_checkModel yX4_checkModel, .code yX4_checkModel cX4_checkModel 2 none, .fieldLink RX4 25 "PaperGuild" "modelCount" "I"] ++ wsX20 ++ wsX30 ++ wsX40 ++ (vx_atS RX4 153 "java/lang/IndexOutOfBoundsException" ["java/lang/RuntimeException", "java/lang/Exception"]).filter goodWord)
def wsX4_layers_r1 : List Cond := [Cond.fieldLink RX4 84 "PaperGuild$Model" "stacks" "LPaperGuild$Stacks;", Cond.methodLink RX4 80 yX4_modelAt, Cond.instanceMethod yX4_modelAt, Cond.selects RX4 yX4_modelAt yX4_modelAt, Cond.initialized RX4, Cond.code yX4_modelAt cX4_modelAt 3 (some (.object "PaperGuild$Model")), Cond.classLink RX4 149 "java/lang/IndexOutOfBoundsException", Cond.initialized "java/lang/IndexOutOfBoundsException", Cond.fieldLink RX4 18 "PaperGuild" "guildModels" "[LPaperGuild$Model;", Cond.methodLink RX4 118 yX4_checkModel, Cond.instanceMethod yX4_checkModel, Cond.selects RX4 yX4_checkModel yX4_checkModel, Cond.code yX4_checkModel cX4_checkModel 2 none, Cond.fieldLink RX4 25 "PaperGuild" "modelCount" "I", Cond.methodLink RX4 146 yX3_greatestHeight, Cond.instanceMethod yX3_greatestHeight, Cond.selects RX3 yX3_greatestHeight yX3_greatestHeight, Cond.initialized RX3, Cond.code yX3_greatestHeight cX3_greatestHeight 3 (some .int), Cond.fieldLink RX3 28 "PaperGuild$Stacks" "span" "I", Cond.methodLink RX3 37 Lib.Math.max.name, Cond.static Lib.Math.max.name, Cond.initialized "java/lang/Math", Cond.code Lib.Math.max.name Lib.Math.max.code 2 (some .int)]
def wsX4_layers_r2 : List Cond := [Cond.methodLink RX3 54 yX3_heightAt, Cond.instanceMethod yX3_heightAt, Cond.selects RX3 yX3_heightAt yX3_heightAt, Cond.code yX3_heightAt cX3_heightAt 2 (some .int), Cond.fieldLink RX3 15 "PaperGuild$Stacks" "starts" "[I", Cond.methodLink RX3 50 yX3_isPlace, Cond.instanceMethod yX3_isPlace, Cond.selects RX3 yX3_isPlace yX3_isPlace, Cond.code yX3_isPlace cX3_isPlace 2 (some .boolean)]
def wsX4_layers : List Cond := .code yX4_layers cX4_layers 2 (some .int) :: ((wsX4_layers_r1 ++ wsX4_layers_r2) ++ wsX20 ++ wsX40 ++ wsX30 ++ (vx_atS RX4 153 "java/lang/IndexOutOfBoundsException" ["java/lang/RuntimeException", "java/lang/Exception"]).filter goodWord)
def wsX4_cellAt_r1 : List Cond := [Cond.classLink RX4 149 "java/lang/IndexOutOfBoundsException", Cond.initialized "java/lang/IndexOutOfBoundsException", Cond.fieldLink RX4 84 "PaperGuild$Model" "stacks" "LPaperGuild$Stacks;", Cond.fieldLink RX4 88 "PaperGuild$Stacks" "span" "I", Cond.methodLink RX4 80 yX4_modelAt, Cond.instanceMethod yX4_modelAt, Cond.selects RX4 yX4_modelAt yX4_modelAt, Cond.initialized RX4, Cond.code yX4_modelAt cX4_modelAt 3 (some (.object "PaperGuild$Model")), Cond.fieldLink RX4 18 "PaperGuild" "guildModels" "[LPaperGuild$Model;", Cond.methodLink RX4 118 yX4_checkModel, Cond.instanceMethod yX4_checkModel, Cond.selects RX4 yX4_checkModel yX4_checkModel, Cond.code yX4_checkModel cX4_checkModel 2 none, Cond.fieldLink RX4 25 "PaperGuild" "modelCount" "I", Cond.methodLink RX4 154 yX3_heightAt, Cond.instanceMethod yX3_heightAt, Cond.selects RX3 yX3_heightAt yX3_heightAt, Cond.initialized RX3, Cond.code yX3_heightAt cX3_heightAt 2 (some .int), Cond.fieldLink RX3 15 "PaperGuild$Stacks" "starts" "[I", Cond.methodLink RX3 50 yX3_isPlace, Cond.instanceMethod yX3_isPlace, Cond.selects RX3 yX3_isPlace yX3_isPlace]
def wsX4_cellAt_r2 : List Cond := [Cond.code yX3_isPlace cX3_isPlace 2 (some .boolean), Cond.fieldLink RX3 28 "PaperGuild$Stacks" "span" "I", Cond.methodLink RX4 159 yX3_cellIn, Cond.instanceMethod yX3_cellIn, Cond.selects RX3 yX3_cellIn yX3_cellIn, Cond.code yX3_cellIn cX3_cellIn 3 (some .int), Cond.fieldLink RX3 9 "PaperGuild$Stacks" "cells" "[I", Cond.methodLink RX3 54 yX3_heightAt]
def wsX4_cellAt : List Cond := .code yX4_cellAt cX4_cellAt 5 (some .int) :: ((wsX4_cellAt_r1 ++ wsX4_cellAt_r2) ++ wsX20 ++ wsX30 ++ wsX40 ++ (vx_atS RX4 153 "java/lang/IndexOutOfBoundsException" ["java/lang/RuntimeException", "java/lang/Exception"]).filter goodWord)
def wsX4_checkCell : List Cond := .code yX4_checkCell cX4_checkCell 3 none :: ([.classLink RX4 149 "java/lang/IndexOutOfBoundsException", .initialized "java/lang/IndexOutOfBoundsException", .fieldLink RX4 177 "PaperGuild$Model" "length" "I"] ++ wsX20 ++ (vx_atS RX4 153 "java/lang/IndexOutOfBoundsException" ["java/lang/RuntimeException", "java/lang/Exception"]).filter goodWord)
def wsX4_placeOf_r1 : List Cond := [Cond.fieldLink RX4 32 "PaperGuild" "follower" "LPaperGuild$Follower;", Cond.fieldLink RX4 170 "PaperGuild$Follower" "place" "I", Cond.methodLink RX4 80 yX4_modelAt, Cond.instanceMethod yX4_modelAt, Cond.selects RX4 yX4_modelAt yX4_modelAt, Cond.initialized RX4, Cond.code yX4_modelAt cX4_modelAt 3 (some (.object "PaperGuild$Model")), Cond.classLink RX4 149 "java/lang/IndexOutOfBoundsException", Cond.initialized "java/lang/IndexOutOfBoundsException", Cond.fieldLink RX4 18 "PaperGuild" "guildModels" "[LPaperGuild$Model;", Cond.methodLink RX4 118 yX4_checkModel, Cond.instanceMethod yX4_checkModel, Cond.selects RX4 yX4_checkModel yX4_checkModel, Cond.code yX4_checkModel cX4_checkModel 2 none, Cond.fieldLink RX4 25 "PaperGuild" "modelCount" "I", Cond.methodLink RX4 163 yX4_checkCell, Cond.instanceMethod yX4_checkCell, Cond.selects RX4 yX4_checkCell yX4_checkCell, Cond.code yX4_checkCell cX4_checkCell 3 none, Cond.fieldLink RX4 177 "PaperGuild$Model" "length" "I", Cond.methodLink RX4 167 yX0_follow, Cond.instanceMethod yX0_follow, Cond.selects RX0 yX0_follow yX0_follow, Cond.initialized RX0]
def wsX4_placeOf_r2 : List Cond := [Cond.code yX0_follow cX0_follow 4 none, Cond.fieldLink RX0 7 "PaperGuild$Follower" "place" "I", Cond.fieldLink RX0 13 "PaperGuild$Follower" "turned" "Z", Cond.fieldLink RX0 20 "PaperGuild$Model" "length" "I", Cond.fieldLink RX0 17 "PaperGuild$Follower" "span" "I", Cond.fieldLink RX0 25 "PaperGuild$Model" "stepCount" "I", Cond.fieldLink RX0 28 "PaperGuild$Model" "stepPlaces" "[I", Cond.fieldLink RX0 32 "PaperGuild$Model" "stepsFromLeft" "[Z", Cond.methodLink RX0 36 yX0_takeStep, Cond.instanceMethod yX0_takeStep, Cond.selects RX0 yX0_takeStep yX0_takeStep, Cond.code yX0_takeStep cX0_takeStep 5 none, Cond.methodLink RX0 40 Lib.Math.min.name, Cond.static Lib.Math.min.name, Cond.initialized "java/lang/Math", Cond.code Lib.Math.min.name Lib.Math.min.code 2 (some .int), Cond.methodLink RX0 46 Lib.Math.max.name, Cond.static Lib.Math.max.name, Cond.code Lib.Math.max.name Lib.Math.max.code 2 (some .int)]
def wsX4_placeOf : List Cond := .code yX4_placeOf cX4_placeOf 4 (some .int) :: ((wsX4_placeOf_r1 ++ wsX4_placeOf_r2) ++ wsX40 ++ wsX00 ++ wsX20 ++ (vx_atS RX4 153 "java/lang/IndexOutOfBoundsException" ["java/lang/RuntimeException", "java/lang/Exception"]).filter goodWord)
def wsX4_isTurned_r1 : List Cond := [Cond.fieldLink RX4 32 "PaperGuild" "follower" "LPaperGuild$Follower;", Cond.fieldLink RX4 173 "PaperGuild$Follower" "turned" "Z", Cond.methodLink RX4 80 yX4_modelAt, Cond.instanceMethod yX4_modelAt, Cond.selects RX4 yX4_modelAt yX4_modelAt, Cond.initialized RX4, Cond.code yX4_modelAt cX4_modelAt 3 (some (.object "PaperGuild$Model")), Cond.classLink RX4 149 "java/lang/IndexOutOfBoundsException", Cond.initialized "java/lang/IndexOutOfBoundsException", Cond.fieldLink RX4 18 "PaperGuild" "guildModels" "[LPaperGuild$Model;", Cond.methodLink RX4 118 yX4_checkModel, Cond.instanceMethod yX4_checkModel, Cond.selects RX4 yX4_checkModel yX4_checkModel, Cond.code yX4_checkModel cX4_checkModel 2 none, Cond.fieldLink RX4 25 "PaperGuild" "modelCount" "I", Cond.methodLink RX4 163 yX4_checkCell, Cond.instanceMethod yX4_checkCell, Cond.selects RX4 yX4_checkCell yX4_checkCell, Cond.code yX4_checkCell cX4_checkCell 3 none, Cond.fieldLink RX4 177 "PaperGuild$Model" "length" "I", Cond.methodLink RX4 167 yX0_follow, Cond.instanceMethod yX0_follow, Cond.selects RX0 yX0_follow yX0_follow, Cond.initialized RX0]
def wsX4_isTurned_r2 : List Cond := [Cond.code yX0_follow cX0_follow 4 none, Cond.fieldLink RX0 7 "PaperGuild$Follower" "place" "I", Cond.fieldLink RX0 13 "PaperGuild$Follower" "turned" "Z", Cond.fieldLink RX0 20 "PaperGuild$Model" "length" "I", Cond.fieldLink RX0 17 "PaperGuild$Follower" "span" "I", Cond.fieldLink RX0 25 "PaperGuild$Model" "stepCount" "I", Cond.fieldLink RX0 28 "PaperGuild$Model" "stepPlaces" "[I", Cond.fieldLink RX0 32 "PaperGuild$Model" "stepsFromLeft" "[Z", Cond.methodLink RX0 36 yX0_takeStep, Cond.instanceMethod yX0_takeStep, Cond.selects RX0 yX0_takeStep yX0_takeStep, Cond.code yX0_takeStep cX0_takeStep 5 none, Cond.methodLink RX0 40 Lib.Math.min.name, Cond.static Lib.Math.min.name, Cond.initialized "java/lang/Math", Cond.code Lib.Math.min.name Lib.Math.min.code 2 (some .int), Cond.methodLink RX0 46 Lib.Math.max.name, Cond.static Lib.Math.max.name, Cond.code Lib.Math.max.name Lib.Math.max.code 2 (some .int)]
def wsX4_isTurned : List Cond := .code yX4_isTurned cX4_isTurned 4 (some .boolean) :: ((wsX4_isTurned_r1 ++ wsX4_isTurned_r2) ++ wsX40 ++ wsX00 ++ wsX20 ++ (vx_atS RX4 153 "java/lang/IndexOutOfBoundsException" ["java/lang/RuntimeException", "java/lang/Exception"]).filter goodWord)
def wsX4_layersByFollowing_r1 : List Cond := [Cond.fieldLink RX4 36 "PaperGuild" "followedHeights" "[I", Cond.fieldLink RX4 177 "PaperGuild$Model" "length" "I", Cond.fieldLink RX4 32 "PaperGuild" "follower" "LPaperGuild$Follower;", Cond.fieldLink RX4 170 "PaperGuild$Follower" "place" "I", Cond.methodLink RX4 180 Lib.Math.max.name, Cond.static Lib.Math.max.name, Cond.initialized "java/lang/Math", Cond.code Lib.Math.max.name Lib.Math.max.code 2 (some .int), Cond.methodLink RX4 80 yX4_modelAt, Cond.instanceMethod yX4_modelAt, Cond.selects RX4 yX4_modelAt yX4_modelAt, Cond.initialized RX4, Cond.code yX4_modelAt cX4_modelAt 3 (some (.object "PaperGuild$Model")), Cond.classLink RX4 149 "java/lang/IndexOutOfBoundsException", Cond.initialized "java/lang/IndexOutOfBoundsException", Cond.fieldLink RX4 18 "PaperGuild" "guildModels" "[LPaperGuild$Model;", Cond.methodLink RX4 118 yX4_checkModel, Cond.instanceMethod yX4_checkModel, Cond.selects RX4 yX4_checkModel yX4_checkModel, Cond.code yX4_checkModel cX4_checkModel 2 none, Cond.fieldLink RX4 25 "PaperGuild" "modelCount" "I", Cond.methodLink RX4 167 yX0_follow, Cond.instanceMethod yX0_follow, Cond.selects RX0 yX0_follow yX0_follow]
def wsX4_layersByFollowing_r2 : List Cond := [Cond.initialized RX0, Cond.code yX0_follow cX0_follow 4 none, Cond.fieldLink RX0 7 "PaperGuild$Follower" "place" "I", Cond.fieldLink RX0 13 "PaperGuild$Follower" "turned" "Z", Cond.fieldLink RX0 20 "PaperGuild$Model" "length" "I", Cond.fieldLink RX0 17 "PaperGuild$Follower" "span" "I", Cond.fieldLink RX0 25 "PaperGuild$Model" "stepCount" "I", Cond.fieldLink RX0 28 "PaperGuild$Model" "stepPlaces" "[I", Cond.fieldLink RX0 32 "PaperGuild$Model" "stepsFromLeft" "[Z", Cond.methodLink RX0 36 yX0_takeStep, Cond.instanceMethod yX0_takeStep, Cond.selects RX0 yX0_takeStep yX0_takeStep, Cond.code yX0_takeStep cX0_takeStep 5 none, Cond.methodLink RX0 40 Lib.Math.min.name, Cond.static Lib.Math.min.name, Cond.code Lib.Math.min.name Lib.Math.min.code 2 (some .int), Cond.methodLink RX0 46 Lib.Math.max.name]
def wsX4_layersByFollowing : List Cond := .code yX4_layersByFollowing cX4_layersByFollowing 6 (some .int) :: ((wsX4_layersByFollowing_r1 ++ wsX4_layersByFollowing_r2) ++ wsX40 ++ wsX20 ++ wsX00 ++ (vx_atS RX4 153 "java/lang/IndexOutOfBoundsException" ["java/lang/RuntimeException", "java/lang/Exception"]).filter goodWord)
def wsX4_bears_r1 : List Cond := [Cond.classLink RX4 50 "java/lang/IllegalArgumentException", Cond.initialized "java/lang/IllegalArgumentException", Cond.methodLink RX4 180 Lib.Math.max.name, Cond.static Lib.Math.max.name, Cond.initialized "java/lang/Math", Cond.code Lib.Math.max.name Lib.Math.max.code 2 (some .int), Cond.fieldLink RX4 84 "PaperGuild$Model" "stacks" "LPaperGuild$Stacks;", Cond.methodLink RX4 80 yX4_modelAt, Cond.instanceMethod yX4_modelAt, Cond.selects RX4 yX4_modelAt yX4_modelAt, Cond.initialized RX4, Cond.code yX4_modelAt cX4_modelAt 3 (some (.object "PaperGuild$Model")), Cond.classLink RX4 149 "java/lang/IndexOutOfBoundsException", Cond.initialized "java/lang/IndexOutOfBoundsException", Cond.fieldLink RX4 18 "PaperGuild" "guildModels" "[LPaperGuild$Model;", Cond.methodLink RX4 118 yX4_checkModel, Cond.instanceMethod yX4_checkModel, Cond.selects RX4 yX4_checkModel yX4_checkModel, Cond.code yX4_checkModel cX4_checkModel 2 none, Cond.fieldLink RX4 25 "PaperGuild" "modelCount" "I", Cond.methodLink RX4 146 yX3_greatestHeight, Cond.instanceMethod yX3_greatestHeight, Cond.selects RX3 yX3_greatestHeight yX3_greatestHeight, Cond.initialized RX3]
def wsX4_bears_r2 : List Cond := [Cond.code yX3_greatestHeight cX3_greatestHeight 3 (some .int), Cond.fieldLink RX3 28 "PaperGuild$Stacks" "span" "I", Cond.methodLink RX3 37 Lib.Math.max.name, Cond.methodLink RX3 54 yX3_heightAt, Cond.instanceMethod yX3_heightAt, Cond.selects RX3 yX3_heightAt yX3_heightAt, Cond.code yX3_heightAt cX3_heightAt 2 (some .int), Cond.fieldLink RX3 15 "PaperGuild$Stacks" "starts" "[I", Cond.methodLink RX3 50 yX3_isPlace, Cond.instanceMethod yX3_isPlace, Cond.selects RX3 yX3_isPlace yX3_isPlace, Cond.code yX3_isPlace cX3_isPlace 2 (some .boolean)]
def wsX4_bears : List Cond := .code yX4_bears cX4_bears 5 (some .boolean) :: ((wsX4_bears_r1 ++ wsX4_bears_r2) ++ wsX20 ++ wsX40 ++ wsX30 ++ (vx_atS RX4 54 "java/lang/IllegalArgumentException" ["java/lang/RuntimeException", "java/lang/Exception"]).filter goodWord ++ (vx_atS RX4 153 "java/lang/IndexOutOfBoundsException" ["java/lang/RuntimeException", "java/lang/Exception"]).filter goodWord)
def wsX4_kindsCountedFor_r1 : List Cond := [Cond.fieldLink RX4 25 "PaperGuild" "modelCount" "I", Cond.methodLink RX4 121 yX4_modelsCountedFor, Cond.instanceMethod yX4_modelsCountedFor, Cond.selects RX4 yX4_modelsCountedFor yX4_modelsCountedFor, Cond.initialized RX4, Cond.code yX4_modelsCountedFor cX4_modelsCountedFor 2 (some .int), Cond.fieldLink RX4 22 "PaperGuild" "used" "[I", Cond.methodLink RX4 57 yX4_reached, Cond.static yX4_reached, Cond.code yX4_reached cX4_reached 6 (some .int), Cond.methodLink RX4 61 yX4_holds, Cond.static yX4_holds, Cond.code yX4_holds cX4_holds 2 (some .boolean), Cond.methodLink RX4 80 yX4_modelAt, Cond.instanceMethod yX4_modelAt, Cond.selects RX4 yX4_modelAt yX4_modelAt, Cond.code yX4_modelAt cX4_modelAt 3 (some (.object "PaperGuild$Model")), Cond.classLink RX4 149 "java/lang/IndexOutOfBoundsException", Cond.initialized "java/lang/IndexOutOfBoundsException", Cond.fieldLink RX4 18 "PaperGuild" "guildModels" "[LPaperGuild$Model;", Cond.methodLink RX4 118 yX4_checkModel, Cond.instanceMethod yX4_checkModel, Cond.selects RX4 yX4_checkModel yX4_checkModel, Cond.code yX4_checkModel cX4_checkModel 2 none]
def wsX4_kindsCountedFor_r2 : List Cond := [Cond.methodLink RX4 100 yX2_ownKinds, Cond.instanceMethod yX2_ownKinds, Cond.selects RX2 yX2_ownKinds yX2_ownKinds, Cond.initialized RX2, Cond.code yX2_ownKinds cX2_ownKinds 3 (some .int), Cond.fieldLink RX2 22 "PaperGuild$Model" "stepCount" "I", Cond.fieldLink RX2 9 "PaperGuild$Model" "stepKinds" "[I"]
def wsX4_kindsCountedFor : List Cond := .code yX4_kindsCountedFor cX4_kindsCountedFor 5 (some .int) :: ((wsX4_kindsCountedFor_r1 ++ wsX4_kindsCountedFor_r2) ++ wsX40 ++ wsX20 ++ (vx_atS RX4 153 "java/lang/IndexOutOfBoundsException" ["java/lang/RuntimeException", "java/lang/Exception"]).filter goodWord)
def wsX4_kindsOf_r1 : List Cond := [Cond.methodLink RX4 118 yX4_checkModel, Cond.instanceMethod yX4_checkModel, Cond.selects RX4 yX4_checkModel yX4_checkModel, Cond.initialized RX4, Cond.code yX4_checkModel cX4_checkModel 2 none, Cond.classLink RX4 149 "java/lang/IndexOutOfBoundsException", Cond.initialized "java/lang/IndexOutOfBoundsException", Cond.fieldLink RX4 25 "PaperGuild" "modelCount" "I", Cond.methodLink RX4 187 yX4_kindsCountedFor, Cond.instanceMethod yX4_kindsCountedFor, Cond.selects RX4 yX4_kindsCountedFor yX4_kindsCountedFor, Cond.code yX4_kindsCountedFor cX4_kindsCountedFor 5 (some .int), Cond.methodLink RX4 121 yX4_modelsCountedFor, Cond.instanceMethod yX4_modelsCountedFor, Cond.selects RX4 yX4_modelsCountedFor yX4_modelsCountedFor, Cond.code yX4_modelsCountedFor cX4_modelsCountedFor 2 (some .int), Cond.fieldLink RX4 22 "PaperGuild" "used" "[I", Cond.methodLink RX4 57 yX4_reached, Cond.static yX4_reached, Cond.code yX4_reached cX4_reached 6 (some .int), Cond.methodLink RX4 61 yX4_holds, Cond.static yX4_holds, Cond.code yX4_holds cX4_holds 2 (some .boolean), Cond.methodLink RX4 80 yX4_modelAt]
def wsX4_kindsOf_r2 : List Cond := [Cond.instanceMethod yX4_modelAt, Cond.selects RX4 yX4_modelAt yX4_modelAt, Cond.code yX4_modelAt cX4_modelAt 3 (some (.object "PaperGuild$Model")), Cond.fieldLink RX4 18 "PaperGuild" "guildModels" "[LPaperGuild$Model;", Cond.methodLink RX4 100 yX2_ownKinds, Cond.instanceMethod yX2_ownKinds, Cond.selects RX2 yX2_ownKinds yX2_ownKinds, Cond.initialized RX2, Cond.code yX2_ownKinds cX2_ownKinds 3 (some .int), Cond.fieldLink RX2 22 "PaperGuild$Model" "stepCount" "I", Cond.fieldLink RX2 9 "PaperGuild$Model" "stepKinds" "[I"]
def wsX4_kindsOf : List Cond := .code yX4_kindsOf cX4_kindsOf 2 (some .int) :: ((wsX4_kindsOf_r1 ++ wsX4_kindsOf_r2) ++ wsX40 ++ wsX20 ++ (vx_atS RX4 153 "java/lang/IndexOutOfBoundsException" ["java/lang/RuntimeException", "java/lang/Exception"]).filter goodWord)
def wsX4_mayFold_r1 : List Cond := [Cond.fieldLink RX4 13 "PaperGuild" "known" "[I", Cond.methodLink RX4 136 yX4_checkPupil, Cond.instanceMethod yX4_checkPupil, Cond.selects RX4 yX4_checkPupil yX4_checkPupil, Cond.initialized RX4, Cond.code yX4_checkPupil cX4_checkPupil 2 none, Cond.classLink RX4 149 "java/lang/IndexOutOfBoundsException", Cond.initialized "java/lang/IndexOutOfBoundsException", Cond.methodLink RX4 118 yX4_checkModel, Cond.instanceMethod yX4_checkModel, Cond.selects RX4 yX4_checkModel yX4_checkModel, Cond.code yX4_checkModel cX4_checkModel 2 none, Cond.fieldLink RX4 25 "PaperGuild" "modelCount" "I", Cond.methodLink RX4 187 yX4_kindsCountedFor, Cond.instanceMethod yX4_kindsCountedFor, Cond.selects RX4 yX4_kindsCountedFor yX4_kindsCountedFor, Cond.code yX4_kindsCountedFor cX4_kindsCountedFor 5 (some .int), Cond.methodLink RX4 121 yX4_modelsCountedFor, Cond.instanceMethod yX4_modelsCountedFor, Cond.selects RX4 yX4_modelsCountedFor yX4_modelsCountedFor, Cond.code yX4_modelsCountedFor cX4_modelsCountedFor 2 (some .int), Cond.fieldLink RX4 22 "PaperGuild" "used" "[I", Cond.methodLink RX4 57 yX4_reached, Cond.static yX4_reached]
def wsX4_mayFold_r2 : List Cond := [Cond.code yX4_reached cX4_reached 6 (some .int), Cond.methodLink RX4 61 yX4_holds, Cond.static yX4_holds, Cond.code yX4_holds cX4_holds 2 (some .boolean), Cond.methodLink RX4 80 yX4_modelAt, Cond.instanceMethod yX4_modelAt, Cond.selects RX4 yX4_modelAt yX4_modelAt, Cond.code yX4_modelAt cX4_modelAt 3 (some (.object "PaperGuild$Model")), Cond.fieldLink RX4 18 "PaperGuild" "guildModels" "[LPaperGuild$Model;", Cond.methodLink RX4 100 yX2_ownKinds, Cond.instanceMethod yX2_ownKinds, Cond.selects RX2 yX2_ownKinds yX2_ownKinds, Cond.initialized RX2, Cond.code yX2_ownKinds cX2_ownKinds 3 (some .int), Cond.fieldLink RX2 22 "PaperGuild$Model" "stepCount" "I", Cond.fieldLink RX2 9 "PaperGuild$Model" "stepKinds" "[I", Cond.methodLink RX4 104 yX4_lacksAny, Cond.static yX4_lacksAny, Cond.code yX4_lacksAny cX4_lacksAny 2 (some .boolean)]
def wsX4_mayFold : List Cond := .code yX4_mayFold cX4_mayFold 3 (some .boolean) :: ((wsX4_mayFold_r1 ++ wsX4_mayFold_r2) ++ wsX40 ++ wsX20 ++ (vx_atS RX4 153 "java/lang/IndexOutOfBoundsException" ["java/lang/RuntimeException", "java/lang/Exception"]).filter goodWord)
def wsX4_lessons_r1 : List Cond := [Cond.fieldLink RX4 13 "PaperGuild" "known" "[I", Cond.fieldLink RX4 9 "PaperGuild" "needed" "[I", Cond.methodLink RX4 136 yX4_checkPupil, Cond.instanceMethod yX4_checkPupil, Cond.selects RX4 yX4_checkPupil yX4_checkPupil, Cond.initialized RX4, Cond.code yX4_checkPupil cX4_checkPupil 2 none, Cond.classLink RX4 149 "java/lang/IndexOutOfBoundsException", Cond.initialized "java/lang/IndexOutOfBoundsException", Cond.methodLink RX4 118 yX4_checkModel, Cond.instanceMethod yX4_checkModel, Cond.selects RX4 yX4_checkModel yX4_checkModel, Cond.code yX4_checkModel cX4_checkModel 2 none, Cond.fieldLink RX4 25 "PaperGuild" "modelCount" "I", Cond.methodLink RX4 187 yX4_kindsCountedFor, Cond.instanceMethod yX4_kindsCountedFor, Cond.selects RX4 yX4_kindsCountedFor yX4_kindsCountedFor, Cond.code yX4_kindsCountedFor cX4_kindsCountedFor 5 (some .int), Cond.methodLink RX4 121 yX4_modelsCountedFor, Cond.instanceMethod yX4_modelsCountedFor, Cond.selects RX4 yX4_modelsCountedFor yX4_modelsCountedFor, Cond.code yX4_modelsCountedFor cX4_modelsCountedFor 2 (some .int), Cond.fieldLink RX4 22 "PaperGuild" "used" "[I", Cond.methodLink RX4 57 yX4_reached]
def wsX4_lessons_r2 : List Cond := [Cond.static yX4_reached, Cond.code yX4_reached cX4_reached 6 (some .int), Cond.methodLink RX4 61 yX4_holds, Cond.static yX4_holds, Cond.code yX4_holds cX4_holds 2 (some .boolean), Cond.methodLink RX4 80 yX4_modelAt, Cond.instanceMethod yX4_modelAt, Cond.selects RX4 yX4_modelAt yX4_modelAt, Cond.code yX4_modelAt cX4_modelAt 3 (some (.object "PaperGuild$Model")), Cond.fieldLink RX4 18 "PaperGuild" "guildModels" "[LPaperGuild$Model;", Cond.methodLink RX4 100 yX2_ownKinds, Cond.instanceMethod yX2_ownKinds, Cond.selects RX2 yX2_ownKinds yX2_ownKinds, Cond.initialized RX2, Cond.code yX2_ownKinds cX2_ownKinds 3 (some .int), Cond.fieldLink RX2 22 "PaperGuild$Model" "stepCount" "I", Cond.fieldLink RX2 9 "PaperGuild$Model" "stepKinds" "[I", Cond.methodLink RX4 141 yJ6_bitCount_0f7a4, Cond.static yJ6_bitCount_0f7a4, Cond.initialized RJ6, Cond.code yJ6_bitCount_0f7a4 cJ6_bitCount_0f7a4 1 (some .int), Cond.constant RJ6 265 (1431655765), Cond.constant RJ6 266 (858993459), Cond.constant RJ6 267 (252645135)]
def wsX4_lessons : List Cond := .code yX4_lessons cX4_lessons 4 (some .int) :: ((wsX4_lessons_r1 ++ wsX4_lessons_r2) ++ wsX40 ++ wsX20 ++ (vx_atS RX4 153 "java/lang/IndexOutOfBoundsException" ["java/lang/RuntimeException", "java/lang/Exception"]).filter goodWord)
def wsX4_modelsOf : List Cond := .code yX4_modelsOf cX4_modelsOf 4 (some .int) :: ([.fieldLink RX4 25 "PaperGuild" "modelCount" "I", .fieldLink RX4 212 "PaperGuild$Model" "author" "I", .methodLink RX4 80 yX4_modelAt, .instanceMethod yX4_modelAt, .selects RX4 yX4_modelAt yX4_modelAt, .initialized RX4, .code yX4_modelAt cX4_modelAt 3 (some (.object "PaperGuild$Model")), .classLink RX4 149 "java/lang/IndexOutOfBoundsException", .initialized "java/lang/IndexOutOfBoundsException", .fieldLink RX4 18 "PaperGuild" "guildModels" "[LPaperGuild$Model;", .methodLink RX4 118 yX4_checkModel, .instanceMethod yX4_checkModel, .selects RX4 yX4_checkModel yX4_checkModel, .code yX4_checkModel cX4_checkModel 2 none] ++ wsX40 ++ wsX20 ++ (vx_atS RX4 153 "java/lang/IndexOutOfBoundsException" ["java/lang/RuntimeException", "java/lang/Exception"]).filter goodWord)
def wsX4_credit_r1 : List Cond := [Cond.fieldLink RX4 25 "PaperGuild" "modelCount" "I", Cond.methodLink RX4 67 yX4_checkAuthor, Cond.instanceMethod yX4_checkAuthor, Cond.selects RX4 yX4_checkAuthor yX4_checkAuthor, Cond.initialized RX4, Cond.code yX4_checkAuthor cX4_checkAuthor 2 none, Cond.classLink RX4 149 "java/lang/IndexOutOfBoundsException", Cond.initialized "java/lang/IndexOutOfBoundsException", Cond.methodLink RX4 190 yX4_modelsOf, Cond.instanceMethod yX4_modelsOf, Cond.selects RX4 yX4_modelsOf yX4_modelsOf, Cond.code yX4_modelsOf cX4_modelsOf 4 (some .int), Cond.fieldLink RX4 212 "PaperGuild$Model" "author" "I", Cond.methodLink RX4 80 yX4_modelAt, Cond.instanceMethod yX4_modelAt, Cond.selects RX4 yX4_modelAt yX4_modelAt, Cond.code yX4_modelAt cX4_modelAt 3 (some (.object "PaperGuild$Model")), Cond.fieldLink RX4 18 "PaperGuild" "guildModels" "[LPaperGuild$Model;", Cond.methodLink RX4 118 yX4_checkModel, Cond.instanceMethod yX4_checkModel, Cond.selects RX4 yX4_checkModel yX4_checkModel, Cond.code yX4_checkModel cX4_checkModel 2 none, Cond.methodLink RX4 61 yX4_holds, Cond.static yX4_holds]
def wsX4_credit_r2 : List Cond := [Cond.code yX4_holds cX4_holds 2 (some .boolean), Cond.methodLink RX4 121 yX4_modelsCountedFor, Cond.instanceMethod yX4_modelsCountedFor, Cond.selects RX4 yX4_modelsCountedFor yX4_modelsCountedFor, Cond.code yX4_modelsCountedFor cX4_modelsCountedFor 2 (some .int), Cond.fieldLink RX4 22 "PaperGuild" "used" "[I", Cond.methodLink RX4 57 yX4_reached, Cond.static yX4_reached, Cond.code yX4_reached cX4_reached 6 (some .int)]
def wsX4_credit : List Cond := .code yX4_credit cX4_credit 5 (some .int) :: ((wsX4_credit_r1 ++ wsX4_credit_r2) ++ wsX40 ++ wsX20 ++ (vx_atS RX4 153 "java/lang/IndexOutOfBoundsException" ["java/lang/RuntimeException", "java/lang/Exception"]).filter goodWord)
def wsX4_fewestPieces : List Cond := .code yX4_fewestPieces cX4_fewestPieces 1 (some .int) :: ([.fieldLink RX4 42 "PaperGuild" "mill" "LPaperGuild$Mill;", .methodLink RX4 193 yX1_fewestForRoll, .instanceMethod yX1_fewestForRoll, .selects RX1 yX1_fewestForRoll yX1_fewestForRoll, .initialized RX1, .code yX1_fewestForRoll cX1_fewestForRoll 1 (some .int), .fieldLink RX1 18 "PaperGuild$Mill" "fewest" "[I", .fieldLink RX1 9 "PaperGuild$Mill" "rollLength" "I", .methodLink RX1 25 yX1_fillFewest, .instanceMethod yX1_fillFewest, .selects RX1 yX1_fillFewest yX1_fillFewest, .code yX1_fillFewest cX1_fillFewest 2 none, .methodLink RX1 37 yX1_fewestFor, .instanceMethod yX1_fewestFor, .selects RX1 yX1_fewestFor yX1_fewestFor, .code yX1_fewestFor cX1_fewestFor 5 (some .int), .methodLink RX1 28 yX1_isDemanded, .instanceMethod yX1_isDemanded, .selects RX1 yX1_isDemanded yX1_isDemanded, .code yX1_isDemanded cX1_isDemanded 2 (some .boolean), .fieldLink RX1 15 "PaperGuild$Mill" "demanded" "I", .static yX4_holds, .initialized RX4, .code yX4_holds cX4_holds 2 (some .boolean)] ++ wsX40 ++ wsX10)
def wsX4_ways : List Cond := .code yX4_ways cX4_ways 1 (some .int) :: ([.fieldLink RX4 42 "PaperGuild" "mill" "LPaperGuild$Mill;", .methodLink RX4 196 yX1_waysForRoll, .instanceMethod yX1_waysForRoll, .selects RX1 yX1_waysForRoll yX1_waysForRoll, .initialized RX1, .code yX1_waysForRoll cX1_waysForRoll 2 (some .int), .fieldLink RX1 22 "PaperGuild$Mill" "waysTo" "[I", .fieldLink RX1 9 "PaperGuild$Mill" "rollLength" "I", .methodLink RX1 28 yX1_isDemanded, .instanceMethod yX1_isDemanded, .selects RX1 yX1_isDemanded yX1_isDemanded, .code yX1_isDemanded cX1_isDemanded 2 (some .boolean), .fieldLink RX1 15 "PaperGuild$Mill" "demanded" "I", .static yX4_holds, .initialized RX4, .code yX4_holds cX4_holds 2 (some .boolean), .methodLink RX1 32 yX1_addWaysWith, .instanceMethod yX1_addWaysWith, .selects RX1 yX1_addWaysWith yX1_addWaysWith, .code yX1_addWaysWith cX1_addWaysWith 3 none, .constant RX1 36 (1000007)] ++ wsX40 ++ wsX10)
def wsX4_leastRest : List Cond := .code yX4_leastRest cX4_leastRest 1 (some .int) :: ([.fieldLink RX4 42 "PaperGuild" "mill" "LPaperGuild$Mill;", .methodLink RX4 199 yX1_restOfRoll, .instanceMethod yX1_restOfRoll, .selects RX1 yX1_restOfRoll yX1_restOfRoll, .initialized RX1, .code yX1_restOfRoll cX1_restOfRoll 2 (some .int), .fieldLink RX1 9 "PaperGuild$Mill" "rollLength" "I", .fieldLink RX1 18 "PaperGuild$Mill" "fewest" "[I", .methodLink RX1 25 yX1_fillFewest, .instanceMethod yX1_fillFewest, .selects RX1 yX1_fillFewest yX1_fillFewest, .code yX1_fillFewest cX1_fillFewest 2 none, .methodLink RX1 37 yX1_fewestFor, .instanceMethod yX1_fewestFor, .selects RX1 yX1_fewestFor yX1_fewestFor, .code yX1_fewestFor cX1_fewestFor 5 (some .int), .methodLink RX1 28 yX1_isDemanded, .instanceMethod yX1_isDemanded, .selects RX1 yX1_isDemanded yX1_isDemanded, .code yX1_isDemanded cX1_isDemanded 2 (some .boolean), .fieldLink RX1 15 "PaperGuild$Mill" "demanded" "I", .static yX4_holds, .initialized RX4, .code yX4_holds cX4_holds 2 (some .boolean)] ++ wsX40 ++ wsX10)
def wsX5_init : List Cond := .code yX5_init cX5_init 1 none :: ([.methodLink RX5 1 objectInit, .instanceMethod objectInit, .code objectInit ⟨#[0xb1]⟩ 1 none, .arrayClass .int, .fieldLink RX5 7 "PaperGuildModel" "needs" "[I", .fieldLink RX5 13 "PaperGuildModel" "authors" "[I", .fieldLink RX5 16 "PaperGuildModel" "lengths" "[I", .fieldLink RX5 19 "PaperGuildModel" "steps" "[I", .fieldLink RX5 22 "PaperGuildModel" "uses" "[I", .fieldLink RX5 25 "PaperGuildModel" "kinds" "[I", .fieldLink RX5 28 "PaperGuildModel" "at" "[I", .fieldLink RX5 31 "PaperGuildModel" "lefts" "[I", .fieldLink RX5 34 "PaperGuildModel" "knows" "[I", .fieldLink RX5 37 "PaperGuildModel" "places" "[I", .fieldLink RX5 40 "PaperGuildModel" "heights" "[I", .fieldLink RX5 43 "PaperGuildModel" "turns" "[I", .fieldLink RX5 46 "PaperGuildModel" "many" "[I", .fieldLink RX5 49 "PaperGuildModel" "cuts" "[I"] ++ wsX50)
def wsX5_thrown : List Cond := .code yX5_thrown cX5_thrown 1 (some .int) :: ([.fieldLink RX5 52 "PaperGuildModel" "thrown" "I"] ++ wsX50)
def wsX5_fails : List Cond := .code yX5_fails cX5_fails 2 (some .int) :: ([.fieldLink RX5 52 "PaperGuildModel" "thrown" "I"] ++ wsX50)
def wsX5_in : List Cond := .code yX5_in cX5_in 3 (some .boolean) :: ([])
def wsX5_isModel : List Cond := .code yX5_isModel cX5_isModel 2 (some .boolean) :: ([.fieldLink RX5 56 "PaperGuildModel" "models" "I", .fieldLink RX5 52 "PaperGuildModel" "thrown" "I", .methodLink RX5 59 yX5_in, .static yX5_in, .initialized RX5, .code yX5_in cX5_in 3 (some .boolean)] ++ wsX50)
def wsX5_closed : List Cond := .code yX5_closed cX5_closed 5 (some .int) :: ([.fieldLink RX5 7 "PaperGuildModel" "needs" "[I"] ++ wsX50)
def wsX5_setNeeds : List Cond := .code yX5_setNeeds cX5_setNeeds 4 (some .int) :: ([.fieldLink RX5 52 "PaperGuildModel" "thrown" "I", .fieldLink RX5 7 "PaperGuildModel" "needs" "[I", .methodLink RX5 59 yX5_in, .static yX5_in, .initialized RX5, .code yX5_in cX5_in 3 (some .boolean), .methodLink RX5 63 yX5_closed, .instanceMethod yX5_closed, .selects RX5 yX5_closed yX5_closed, .code yX5_closed cX5_closed 5 (some .int), .methodLink RX5 67 yX5_fails, .instanceMethod yX5_fails, .selects RX5 yX5_fails yX5_fails, .code yX5_fails cX5_fails 2 (some .int)] ++ wsX50)
def wsX5_addModel : List Cond := .code yX5_addModel cX5_addModel 3 (some .int) :: ([.fieldLink RX5 56 "PaperGuildModel" "models" "I", .fieldLink RX5 52 "PaperGuildModel" "thrown" "I", .fieldLink RX5 13 "PaperGuildModel" "authors" "[I", .fieldLink RX5 16 "PaperGuildModel" "lengths" "[I", .methodLink RX5 59 yX5_in, .static yX5_in, .initialized RX5, .code yX5_in cX5_in 3 (some .boolean)] ++ wsX50)
def wsX5_counts : List Cond := .code yX5_counts cX5_counts 3 none :: ([.fieldLink RX5 46 "PaperGuildModel" "many" "[I", .fieldLink RX5 37 "PaperGuildModel" "places" "[I", .fieldLink RX5 70 "PaperGuildModel" "most" "I"] ++ wsX50)
def wsX5_makes : List Cond := .code yX5_makes cX5_makes 10 none :: ([.fieldLink RX5 73 "PaperGuildModel" "size" "I", .fieldLink RX5 37 "PaperGuildModel" "places" "[I", .fieldLink RX5 46 "PaperGuildModel" "many" "[I", .fieldLink RX5 40 "PaperGuildModel" "heights" "[I", .fieldLink RX5 43 "PaperGuildModel" "turns" "[I", .methodLink RX5 76 yX5_counts, .instanceMethod yX5_counts, .selects RX5 yX5_counts yX5_counts, .initialized RX5, .code yX5_counts cX5_counts 3 none, .fieldLink RX5 70 "PaperGuildModel" "most" "I"] ++ wsX50)
def wsX5_folds : List Cond := .code yX5_folds cX5_folds 4 none :: ([.fieldLink RX5 16 "PaperGuildModel" "lengths" "[I", .fieldLink RX5 37 "PaperGuildModel" "places" "[I", .fieldLink RX5 40 "PaperGuildModel" "heights" "[I", .fieldLink RX5 43 "PaperGuildModel" "turns" "[I", .fieldLink RX5 73 "PaperGuildModel" "size" "I", .fieldLink RX5 70 "PaperGuildModel" "most" "I", .fieldLink RX5 19 "PaperGuildModel" "steps" "[I", .fieldLink RX5 28 "PaperGuildModel" "at" "[I", .fieldLink RX5 31 "PaperGuildModel" "lefts" "[I", .methodLink RX5 76 yX5_counts, .instanceMethod yX5_counts, .selects RX5 yX5_counts yX5_counts, .initialized RX5, .code yX5_counts cX5_counts 3 none, .fieldLink RX5 46 "PaperGuildModel" "many" "[I", .methodLink RX5 80 yX5_makes, .instanceMethod yX5_makes, .selects RX5 yX5_makes yX5_makes, .code yX5_makes cX5_makes 10 none] ++ wsX50)
def wsX5_ownKinds : List Cond := .code yX5_ownKinds cX5_ownKinds 4 (some .int) :: ([.fieldLink RX5 19 "PaperGuildModel" "steps" "[I", .fieldLink RX5 25 "PaperGuildModel" "kinds" "[I"] ++ wsX50)
def wsX5_fold_r1 : List Cond := [Cond.fieldLink RX5 56 "PaperGuildModel" "models" "I", Cond.fieldLink RX5 52 "PaperGuildModel" "thrown" "I", Cond.fieldLink RX5 73 "PaperGuildModel" "size" "I", Cond.fieldLink RX5 19 "PaperGuildModel" "steps" "[I", Cond.fieldLink RX5 7 "PaperGuildModel" "needs" "[I", Cond.fieldLink RX5 25 "PaperGuildModel" "kinds" "[I", Cond.fieldLink RX5 28 "PaperGuildModel" "at" "[I", Cond.fieldLink RX5 31 "PaperGuildModel" "lefts" "[I", Cond.methodLink RX5 59 yX5_in, Cond.static yX5_in, Cond.initialized RX5, Cond.code yX5_in cX5_in 3 (some .boolean), Cond.methodLink RX5 84 yX5_folds, Cond.instanceMethod yX5_folds, Cond.selects RX5 yX5_folds yX5_folds, Cond.code yX5_folds cX5_folds 4 none, Cond.fieldLink RX5 16 "PaperGuildModel" "lengths" "[I", Cond.fieldLink RX5 37 "PaperGuildModel" "places" "[I", Cond.fieldLink RX5 40 "PaperGuildModel" "heights" "[I", Cond.fieldLink RX5 43 "PaperGuildModel" "turns" "[I", Cond.fieldLink RX5 70 "PaperGuildModel" "most" "I", Cond.methodLink RX5 76 yX5_counts, Cond.instanceMethod yX5_counts, Cond.selects RX5 yX5_counts yX5_counts]
def wsX5_fold_r2 : List Cond := [Cond.code yX5_counts cX5_counts 3 none, Cond.fieldLink RX5 46 "PaperGuildModel" "many" "[I", Cond.methodLink RX5 80 yX5_makes, Cond.instanceMethod yX5_makes, Cond.selects RX5 yX5_makes yX5_makes, Cond.code yX5_makes cX5_makes 10 none, Cond.methodLink RX5 67 yX5_fails, Cond.instanceMethod yX5_fails, Cond.selects RX5 yX5_fails yX5_fails, Cond.code yX5_fails cX5_fails 2 (some .int), Cond.methodLink RX5 87 yX5_ownKinds, Cond.instanceMethod yX5_ownKinds, Cond.selects RX5 yX5_ownKinds yX5_ownKinds, Cond.code yX5_ownKinds cX5_ownKinds 4 (some .int)]
def wsX5_fold : List Cond := .code yX5_fold cX5_fold 6 (some .int) :: ((wsX5_fold_r1 ++ wsX5_fold_r2) ++ wsX50)
def wsX5_unfold : List Cond := .code yX5_unfold cX5_unfold 2 (some .int) :: ([.fieldLink RX5 19 "PaperGuildModel" "steps" "[I", .fieldLink RX5 25 "PaperGuildModel" "kinds" "[I", .methodLink RX5 90 yX5_isModel, .instanceMethod yX5_isModel, .selects RX5 yX5_isModel yX5_isModel, .initialized RX5, .code yX5_isModel cX5_isModel 2 (some .boolean), .fieldLink RX5 56 "PaperGuildModel" "models" "I", .fieldLink RX5 52 "PaperGuildModel" "thrown" "I", .methodLink RX5 59 yX5_in, .static yX5_in, .code yX5_in cX5_in 3 (some .boolean), .methodLink RX5 67 yX5_fails, .instanceMethod yX5_fails, .selects RX5 yX5_fails yX5_fails, .code yX5_fails cX5_fails 2 (some .int)] ++ wsX50)
def wsX5_used : List Cond := .code yX5_used cX5_used 5 (some .int) :: ([.fieldLink RX5 56 "PaperGuildModel" "models" "I", .fieldLink RX5 22 "PaperGuildModel" "uses" "[I"] ++ wsX50)
def wsX5_use : List Cond := .code yX5_use cX5_use 4 (some .boolean) :: ([.fieldLink RX5 56 "PaperGuildModel" "models" "I", .fieldLink RX5 52 "PaperGuildModel" "thrown" "I", .fieldLink RX5 22 "PaperGuildModel" "uses" "[I", .methodLink RX5 59 yX5_in, .static yX5_in, .initialized RX5, .code yX5_in cX5_in 3 (some .boolean), .methodLink RX5 94 yX5_used, .instanceMethod yX5_used, .selects RX5 yX5_used yX5_used, .code yX5_used cX5_used 5 (some .int)] ++ wsX50)
def wsX5_setRoll : List Cond := .code yX5_setRoll cX5_setRoll 4 (some .int) :: ([.constant RX5 97 (1048575), .fieldLink RX5 52 "PaperGuildModel" "thrown" "I", .fieldLink RX5 98 "PaperGuildModel" "roll" "I", .fieldLink RX5 101 "PaperGuildModel" "demand" "I", .methodLink RX5 59 yX5_in, .static yX5_in, .initialized RX5, .code yX5_in cX5_in 3 (some .boolean)] ++ wsX50)
def wsX5_bits : List Cond := .code yX5_bits cX5_bits 3 (some .int) :: ([])
def wsX5_teach : List Cond := .code yX5_teach cX5_teach 3 (some .int) :: ([.fieldLink RX5 7 "PaperGuildModel" "needs" "[I", .fieldLink RX5 34 "PaperGuildModel" "knows" "[I", .fieldLink RX5 52 "PaperGuildModel" "thrown" "I", .methodLink RX5 59 yX5_in, .static yX5_in, .initialized RX5, .code yX5_in cX5_in 3 (some .boolean), .methodLink RX5 104 yX5_bits, .static yX5_bits, .code yX5_bits cX5_bits 3 (some .int)] ++ wsX50)
def wsX5_models : List Cond := .code yX5_models cX5_models 1 (some .int) :: ([.fieldLink RX5 52 "PaperGuildModel" "thrown" "I", .fieldLink RX5 56 "PaperGuildModel" "models" "I"] ++ wsX50)
def wsX5_steps : List Cond := .code yX5_steps cX5_steps 2 (some .int) :: ([.fieldLink RX5 19 "PaperGuildModel" "steps" "[I", .methodLink RX5 90 yX5_isModel, .instanceMethod yX5_isModel, .selects RX5 yX5_isModel yX5_isModel, .initialized RX5, .code yX5_isModel cX5_isModel 2 (some .boolean), .fieldLink RX5 56 "PaperGuildModel" "models" "I", .fieldLink RX5 52 "PaperGuildModel" "thrown" "I", .methodLink RX5 59 yX5_in, .static yX5_in, .code yX5_in cX5_in 3 (some .boolean)] ++ wsX50)
def wsX5_places_r1 : List Cond := [Cond.fieldLink RX5 73 "PaperGuildModel" "size" "I", Cond.methodLink RX5 90 yX5_isModel, Cond.instanceMethod yX5_isModel, Cond.selects RX5 yX5_isModel yX5_isModel, Cond.initialized RX5, Cond.code yX5_isModel cX5_isModel 2 (some .boolean), Cond.fieldLink RX5 56 "PaperGuildModel" "models" "I", Cond.fieldLink RX5 52 "PaperGuildModel" "thrown" "I", Cond.methodLink RX5 59 yX5_in, Cond.static yX5_in, Cond.code yX5_in cX5_in 3 (some .boolean), Cond.methodLink RX5 84 yX5_folds, Cond.instanceMethod yX5_folds, Cond.selects RX5 yX5_folds yX5_folds, Cond.code yX5_folds cX5_folds 4 none, Cond.fieldLink RX5 16 "PaperGuildModel" "lengths" "[I", Cond.fieldLink RX5 37 "PaperGuildModel" "places" "[I", Cond.fieldLink RX5 40 "PaperGuildModel" "heights" "[I", Cond.fieldLink RX5 43 "PaperGuildModel" "turns" "[I", Cond.fieldLink RX5 70 "PaperGuildModel" "most" "I", Cond.fieldLink RX5 19 "PaperGuildModel" "steps" "[I", Cond.fieldLink RX5 28 "PaperGuildModel" "at" "[I", Cond.fieldLink RX5 31 "PaperGuildModel" "lefts" "[I", Cond.methodLink RX5 76 yX5_counts]
def wsX5_places_r2 : List Cond := [Cond.instanceMethod yX5_counts, Cond.selects RX5 yX5_counts yX5_counts, Cond.code yX5_counts cX5_counts 3 none, Cond.fieldLink RX5 46 "PaperGuildModel" "many" "[I", Cond.methodLink RX5 80 yX5_makes, Cond.instanceMethod yX5_makes, Cond.selects RX5 yX5_makes yX5_makes, Cond.code yX5_makes cX5_makes 10 none]
def wsX5_places : List Cond := .code yX5_places cX5_places 2 (some .int) :: ((wsX5_places_r1 ++ wsX5_places_r2) ++ wsX50)
def wsX5_layersOf : List Cond := .code yX5_layersOf cX5_layersOf 4 (some .int) :: ([.fieldLink RX5 73 "PaperGuildModel" "size" "I", .fieldLink RX5 46 "PaperGuildModel" "many" "[I", .methodLink RX5 84 yX5_folds, .instanceMethod yX5_folds, .selects RX5 yX5_folds yX5_folds, .initialized RX5, .code yX5_folds cX5_folds 4 none, .fieldLink RX5 16 "PaperGuildModel" "lengths" "[I", .fieldLink RX5 37 "PaperGuildModel" "places" "[I", .fieldLink RX5 40 "PaperGuildModel" "heights" "[I", .fieldLink RX5 43 "PaperGuildModel" "turns" "[I", .fieldLink RX5 70 "PaperGuildModel" "most" "I", .fieldLink RX5 19 "PaperGuildModel" "steps" "[I", .fieldLink RX5 28 "PaperGuildModel" "at" "[I", .fieldLink RX5 31 "PaperGuildModel" "lefts" "[I", .methodLink RX5 76 yX5_counts, .instanceMethod yX5_counts, .selects RX5 yX5_counts yX5_counts, .code yX5_counts cX5_counts 3 none, .methodLink RX5 80 yX5_makes, .instanceMethod yX5_makes, .selects RX5 yX5_makes yX5_makes, .code yX5_makes cX5_makes 10 none] ++ wsX50)
def wsX5_layers_r1 : List Cond := [Cond.methodLink RX5 90 yX5_isModel, Cond.instanceMethod yX5_isModel, Cond.selects RX5 yX5_isModel yX5_isModel, Cond.initialized RX5, Cond.code yX5_isModel cX5_isModel 2 (some .boolean), Cond.fieldLink RX5 56 "PaperGuildModel" "models" "I", Cond.fieldLink RX5 52 "PaperGuildModel" "thrown" "I", Cond.methodLink RX5 59 yX5_in, Cond.static yX5_in, Cond.code yX5_in cX5_in 3 (some .boolean), Cond.methodLink RX5 107 yX5_layersOf, Cond.instanceMethod yX5_layersOf, Cond.selects RX5 yX5_layersOf yX5_layersOf, Cond.code yX5_layersOf cX5_layersOf 4 (some .int), Cond.fieldLink RX5 73 "PaperGuildModel" "size" "I", Cond.fieldLink RX5 46 "PaperGuildModel" "many" "[I", Cond.methodLink RX5 84 yX5_folds, Cond.instanceMethod yX5_folds, Cond.selects RX5 yX5_folds yX5_folds, Cond.code yX5_folds cX5_folds 4 none, Cond.fieldLink RX5 16 "PaperGuildModel" "lengths" "[I", Cond.fieldLink RX5 37 "PaperGuildModel" "places" "[I", Cond.fieldLink RX5 40 "PaperGuildModel" "heights" "[I", Cond.fieldLink RX5 43 "PaperGuildModel" "turns" "[I"]
def wsX5_layers_r2 : List Cond := [Cond.fieldLink RX5 70 "PaperGuildModel" "most" "I", Cond.fieldLink RX5 19 "PaperGuildModel" "steps" "[I", Cond.fieldLink RX5 28 "PaperGuildModel" "at" "[I", Cond.fieldLink RX5 31 "PaperGuildModel" "lefts" "[I", Cond.methodLink RX5 76 yX5_counts, Cond.instanceMethod yX5_counts, Cond.selects RX5 yX5_counts yX5_counts, Cond.code yX5_counts cX5_counts 3 none, Cond.methodLink RX5 80 yX5_makes, Cond.instanceMethod yX5_makes, Cond.selects RX5 yX5_makes yX5_makes, Cond.code yX5_makes cX5_makes 10 none]
def wsX5_layers : List Cond := .code yX5_layers cX5_layers 2 (some .int) :: ((wsX5_layers_r1 ++ wsX5_layers_r2) ++ wsX50)
def wsX5_cellAt_r1 : List Cond := [Cond.fieldLink RX5 16 "PaperGuildModel" "lengths" "[I", Cond.fieldLink RX5 37 "PaperGuildModel" "places" "[I", Cond.fieldLink RX5 40 "PaperGuildModel" "heights" "[I", Cond.methodLink RX5 90 yX5_isModel, Cond.instanceMethod yX5_isModel, Cond.selects RX5 yX5_isModel yX5_isModel, Cond.initialized RX5, Cond.code yX5_isModel cX5_isModel 2 (some .boolean), Cond.fieldLink RX5 56 "PaperGuildModel" "models" "I", Cond.fieldLink RX5 52 "PaperGuildModel" "thrown" "I", Cond.methodLink RX5 59 yX5_in, Cond.static yX5_in, Cond.code yX5_in cX5_in 3 (some .boolean), Cond.methodLink RX5 84 yX5_folds, Cond.instanceMethod yX5_folds, Cond.selects RX5 yX5_folds yX5_folds, Cond.code yX5_folds cX5_folds 4 none, Cond.fieldLink RX5 43 "PaperGuildModel" "turns" "[I", Cond.fieldLink RX5 73 "PaperGuildModel" "size" "I", Cond.fieldLink RX5 70 "PaperGuildModel" "most" "I", Cond.fieldLink RX5 19 "PaperGuildModel" "steps" "[I", Cond.fieldLink RX5 28 "PaperGuildModel" "at" "[I", Cond.fieldLink RX5 31 "PaperGuildModel" "lefts" "[I", Cond.methodLink RX5 76 yX5_counts]
def wsX5_cellAt_r2 : List Cond := [Cond.instanceMethod yX5_counts, Cond.selects RX5 yX5_counts yX5_counts, Cond.code yX5_counts cX5_counts 3 none, Cond.fieldLink RX5 46 "PaperGuildModel" "many" "[I", Cond.methodLink RX5 80 yX5_makes, Cond.instanceMethod yX5_makes, Cond.selects RX5 yX5_makes yX5_makes, Cond.code yX5_makes cX5_makes 10 none, Cond.methodLink RX5 67 yX5_fails, Cond.instanceMethod yX5_fails, Cond.selects RX5 yX5_fails yX5_fails, Cond.code yX5_fails cX5_fails 2 (some .int)]
def wsX5_cellAt : List Cond := .code yX5_cellAt cX5_cellAt 5 (some .int) :: ((wsX5_cellAt_r1 ++ wsX5_cellAt_r2) ++ wsX50)
def wsX5_isCell : List Cond := .code yX5_isCell cX5_isCell 3 (some .boolean) :: ([.fieldLink RX5 56 "PaperGuildModel" "models" "I", .fieldLink RX5 16 "PaperGuildModel" "lengths" "[I", .fieldLink RX5 52 "PaperGuildModel" "thrown" "I", .methodLink RX5 59 yX5_in, .static yX5_in, .initialized RX5, .code yX5_in cX5_in 3 (some .boolean)] ++ wsX50)
def wsX5_placeOf_r1 : List Cond := [Cond.fieldLink RX5 37 "PaperGuildModel" "places" "[I", Cond.methodLink RX5 110 yX5_isCell, Cond.instanceMethod yX5_isCell, Cond.selects RX5 yX5_isCell yX5_isCell, Cond.initialized RX5, Cond.code yX5_isCell cX5_isCell 3 (some .boolean), Cond.fieldLink RX5 56 "PaperGuildModel" "models" "I", Cond.fieldLink RX5 16 "PaperGuildModel" "lengths" "[I", Cond.fieldLink RX5 52 "PaperGuildModel" "thrown" "I", Cond.methodLink RX5 59 yX5_in, Cond.static yX5_in, Cond.code yX5_in cX5_in 3 (some .boolean), Cond.methodLink RX5 84 yX5_folds, Cond.instanceMethod yX5_folds, Cond.selects RX5 yX5_folds yX5_folds, Cond.code yX5_folds cX5_folds 4 none, Cond.fieldLink RX5 40 "PaperGuildModel" "heights" "[I", Cond.fieldLink RX5 43 "PaperGuildModel" "turns" "[I", Cond.fieldLink RX5 73 "PaperGuildModel" "size" "I", Cond.fieldLink RX5 70 "PaperGuildModel" "most" "I", Cond.fieldLink RX5 19 "PaperGuildModel" "steps" "[I", Cond.fieldLink RX5 28 "PaperGuildModel" "at" "[I", Cond.fieldLink RX5 31 "PaperGuildModel" "lefts" "[I", Cond.methodLink RX5 76 yX5_counts]
def wsX5_placeOf_r2 : List Cond := [Cond.instanceMethod yX5_counts, Cond.selects RX5 yX5_counts yX5_counts, Cond.code yX5_counts cX5_counts 3 none, Cond.fieldLink RX5 46 "PaperGuildModel" "many" "[I", Cond.methodLink RX5 80 yX5_makes, Cond.instanceMethod yX5_makes, Cond.selects RX5 yX5_makes yX5_makes, Cond.code yX5_makes cX5_makes 10 none]
def wsX5_placeOf : List Cond := .code yX5_placeOf cX5_placeOf 3 (some .int) :: ((wsX5_placeOf_r1 ++ wsX5_placeOf_r2) ++ wsX50)
def wsX5_isTurned_r1 : List Cond := [Cond.fieldLink RX5 43 "PaperGuildModel" "turns" "[I", Cond.methodLink RX5 110 yX5_isCell, Cond.instanceMethod yX5_isCell, Cond.selects RX5 yX5_isCell yX5_isCell, Cond.initialized RX5, Cond.code yX5_isCell cX5_isCell 3 (some .boolean), Cond.fieldLink RX5 56 "PaperGuildModel" "models" "I", Cond.fieldLink RX5 16 "PaperGuildModel" "lengths" "[I", Cond.fieldLink RX5 52 "PaperGuildModel" "thrown" "I", Cond.methodLink RX5 59 yX5_in, Cond.static yX5_in, Cond.code yX5_in cX5_in 3 (some .boolean), Cond.methodLink RX5 84 yX5_folds, Cond.instanceMethod yX5_folds, Cond.selects RX5 yX5_folds yX5_folds, Cond.code yX5_folds cX5_folds 4 none, Cond.fieldLink RX5 37 "PaperGuildModel" "places" "[I", Cond.fieldLink RX5 40 "PaperGuildModel" "heights" "[I", Cond.fieldLink RX5 73 "PaperGuildModel" "size" "I", Cond.fieldLink RX5 70 "PaperGuildModel" "most" "I", Cond.fieldLink RX5 19 "PaperGuildModel" "steps" "[I", Cond.fieldLink RX5 28 "PaperGuildModel" "at" "[I", Cond.fieldLink RX5 31 "PaperGuildModel" "lefts" "[I", Cond.methodLink RX5 76 yX5_counts]
def wsX5_isTurned_r2 : List Cond := [Cond.instanceMethod yX5_counts, Cond.selects RX5 yX5_counts yX5_counts, Cond.code yX5_counts cX5_counts 3 none, Cond.fieldLink RX5 46 "PaperGuildModel" "many" "[I", Cond.methodLink RX5 80 yX5_makes, Cond.instanceMethod yX5_makes, Cond.selects RX5 yX5_makes yX5_makes, Cond.code yX5_makes cX5_makes 10 none]
def wsX5_isTurned : List Cond := .code yX5_isTurned cX5_isTurned 3 (some .boolean) :: ((wsX5_isTurned_r1 ++ wsX5_isTurned_r2) ++ wsX50)
def wsX5_layersByFollowing_r1 : List Cond := [Cond.methodLink RX5 90 yX5_isModel, Cond.instanceMethod yX5_isModel, Cond.selects RX5 yX5_isModel yX5_isModel, Cond.initialized RX5, Cond.code yX5_isModel cX5_isModel 2 (some .boolean), Cond.fieldLink RX5 56 "PaperGuildModel" "models" "I", Cond.fieldLink RX5 52 "PaperGuildModel" "thrown" "I", Cond.methodLink RX5 59 yX5_in, Cond.static yX5_in, Cond.code yX5_in cX5_in 3 (some .boolean), Cond.methodLink RX5 107 yX5_layersOf, Cond.instanceMethod yX5_layersOf, Cond.selects RX5 yX5_layersOf yX5_layersOf, Cond.code yX5_layersOf cX5_layersOf 4 (some .int), Cond.fieldLink RX5 73 "PaperGuildModel" "size" "I", Cond.fieldLink RX5 46 "PaperGuildModel" "many" "[I", Cond.methodLink RX5 84 yX5_folds, Cond.instanceMethod yX5_folds, Cond.selects RX5 yX5_folds yX5_folds, Cond.code yX5_folds cX5_folds 4 none, Cond.fieldLink RX5 16 "PaperGuildModel" "lengths" "[I", Cond.fieldLink RX5 37 "PaperGuildModel" "places" "[I", Cond.fieldLink RX5 40 "PaperGuildModel" "heights" "[I", Cond.fieldLink RX5 43 "PaperGuildModel" "turns" "[I"]
def wsX5_layersByFollowing_r2 : List Cond := [Cond.fieldLink RX5 70 "PaperGuildModel" "most" "I", Cond.fieldLink RX5 19 "PaperGuildModel" "steps" "[I", Cond.fieldLink RX5 28 "PaperGuildModel" "at" "[I", Cond.fieldLink RX5 31 "PaperGuildModel" "lefts" "[I", Cond.methodLink RX5 76 yX5_counts, Cond.instanceMethod yX5_counts, Cond.selects RX5 yX5_counts yX5_counts, Cond.code yX5_counts cX5_counts 3 none, Cond.methodLink RX5 80 yX5_makes, Cond.instanceMethod yX5_makes, Cond.selects RX5 yX5_makes yX5_makes, Cond.code yX5_makes cX5_makes 10 none]
def wsX5_layersByFollowing : List Cond := .code yX5_layersByFollowing cX5_layersByFollowing 2 (some .int) :: ((wsX5_layersByFollowing_r1 ++ wsX5_layersByFollowing_r2) ++ wsX50)
def wsX5_bears_r1 : List Cond := [Cond.fieldLink RX5 52 "PaperGuildModel" "thrown" "I", Cond.fieldLink RX5 70 "PaperGuildModel" "most" "I", Cond.methodLink RX5 90 yX5_isModel, Cond.instanceMethod yX5_isModel, Cond.selects RX5 yX5_isModel yX5_isModel, Cond.initialized RX5, Cond.code yX5_isModel cX5_isModel 2 (some .boolean), Cond.fieldLink RX5 56 "PaperGuildModel" "models" "I", Cond.methodLink RX5 59 yX5_in, Cond.static yX5_in, Cond.code yX5_in cX5_in 3 (some .boolean), Cond.methodLink RX5 84 yX5_folds, Cond.instanceMethod yX5_folds, Cond.selects RX5 yX5_folds yX5_folds, Cond.code yX5_folds cX5_folds 4 none, Cond.fieldLink RX5 16 "PaperGuildModel" "lengths" "[I", Cond.fieldLink RX5 37 "PaperGuildModel" "places" "[I", Cond.fieldLink RX5 40 "PaperGuildModel" "heights" "[I", Cond.fieldLink RX5 43 "PaperGuildModel" "turns" "[I", Cond.fieldLink RX5 73 "PaperGuildModel" "size" "I", Cond.fieldLink RX5 19 "PaperGuildModel" "steps" "[I", Cond.fieldLink RX5 28 "PaperGuildModel" "at" "[I", Cond.fieldLink RX5 31 "PaperGuildModel" "lefts" "[I", Cond.methodLink RX5 76 yX5_counts]
def wsX5_bears_r2 : List Cond := [Cond.instanceMethod yX5_counts, Cond.selects RX5 yX5_counts yX5_counts, Cond.code yX5_counts cX5_counts 3 none, Cond.fieldLink RX5 46 "PaperGuildModel" "many" "[I", Cond.methodLink RX5 80 yX5_makes, Cond.instanceMethod yX5_makes, Cond.selects RX5 yX5_makes yX5_makes, Cond.code yX5_makes cX5_makes 10 none]
def wsX5_bears : List Cond := .code yX5_bears cX5_bears 4 (some .boolean) :: ((wsX5_bears_r1 ++ wsX5_bears_r2) ++ wsX50)
def wsX5_kindsFor : List Cond := .code yX5_kindsFor cX5_kindsFor 4 (some .int) :: ([.fieldLink RX5 56 "PaperGuildModel" "models" "I", .methodLink RX5 94 yX5_used, .instanceMethod yX5_used, .selects RX5 yX5_used yX5_used, .initialized RX5, .code yX5_used cX5_used 5 (some .int), .fieldLink RX5 22 "PaperGuildModel" "uses" "[I", .methodLink RX5 87 yX5_ownKinds, .instanceMethod yX5_ownKinds, .selects RX5 yX5_ownKinds yX5_ownKinds, .code yX5_ownKinds cX5_ownKinds 4 (some .int), .fieldLink RX5 19 "PaperGuildModel" "steps" "[I", .fieldLink RX5 25 "PaperGuildModel" "kinds" "[I"] ++ wsX50)
def wsX5_kindsOf_r1 : List Cond := [Cond.methodLink RX5 90 yX5_isModel, Cond.instanceMethod yX5_isModel, Cond.selects RX5 yX5_isModel yX5_isModel, Cond.initialized RX5, Cond.code yX5_isModel cX5_isModel 2 (some .boolean), Cond.fieldLink RX5 56 "PaperGuildModel" "models" "I", Cond.fieldLink RX5 52 "PaperGuildModel" "thrown" "I", Cond.methodLink RX5 59 yX5_in, Cond.static yX5_in, Cond.code yX5_in cX5_in 3 (some .boolean), Cond.methodLink RX5 114 yX5_kindsFor, Cond.instanceMethod yX5_kindsFor, Cond.selects RX5 yX5_kindsFor yX5_kindsFor, Cond.code yX5_kindsFor cX5_kindsFor 4 (some .int), Cond.methodLink RX5 94 yX5_used, Cond.instanceMethod yX5_used, Cond.selects RX5 yX5_used yX5_used, Cond.code yX5_used cX5_used 5 (some .int), Cond.fieldLink RX5 22 "PaperGuildModel" "uses" "[I", Cond.methodLink RX5 87 yX5_ownKinds, Cond.instanceMethod yX5_ownKinds, Cond.selects RX5 yX5_ownKinds yX5_ownKinds, Cond.code yX5_ownKinds cX5_ownKinds 4 (some .int), Cond.fieldLink RX5 19 "PaperGuildModel" "steps" "[I"]
def wsX5_kindsOf_r2 : List Cond := [Cond.fieldLink RX5 25 "PaperGuildModel" "kinds" "[I"]
def wsX5_kindsOf : List Cond := .code yX5_kindsOf cX5_kindsOf 2 (some .int) :: ((wsX5_kindsOf_r1 ++ wsX5_kindsOf_r2) ++ wsX50)
def wsX5_isExam : List Cond := .code yX5_isExam cX5_isExam 3 (some .boolean) :: ([.fieldLink RX5 56 "PaperGuildModel" "models" "I", .fieldLink RX5 52 "PaperGuildModel" "thrown" "I", .methodLink RX5 59 yX5_in, .static yX5_in, .initialized RX5, .code yX5_in cX5_in 3 (some .boolean)] ++ wsX50)
def wsX5_mayFold_r1 : List Cond := [Cond.fieldLink RX5 34 "PaperGuildModel" "knows" "[I", Cond.methodLink RX5 117 yX5_isExam, Cond.instanceMethod yX5_isExam, Cond.selects RX5 yX5_isExam yX5_isExam, Cond.initialized RX5, Cond.code yX5_isExam cX5_isExam 3 (some .boolean), Cond.fieldLink RX5 56 "PaperGuildModel" "models" "I", Cond.fieldLink RX5 52 "PaperGuildModel" "thrown" "I", Cond.methodLink RX5 59 yX5_in, Cond.static yX5_in, Cond.code yX5_in cX5_in 3 (some .boolean), Cond.methodLink RX5 114 yX5_kindsFor, Cond.instanceMethod yX5_kindsFor, Cond.selects RX5 yX5_kindsFor yX5_kindsFor, Cond.code yX5_kindsFor cX5_kindsFor 4 (some .int), Cond.methodLink RX5 94 yX5_used, Cond.instanceMethod yX5_used, Cond.selects RX5 yX5_used yX5_used, Cond.code yX5_used cX5_used 5 (some .int), Cond.fieldLink RX5 22 "PaperGuildModel" "uses" "[I", Cond.methodLink RX5 87 yX5_ownKinds, Cond.instanceMethod yX5_ownKinds, Cond.selects RX5 yX5_ownKinds yX5_ownKinds, Cond.code yX5_ownKinds cX5_ownKinds 4 (some .int)]
def wsX5_mayFold_r2 : List Cond := [Cond.fieldLink RX5 19 "PaperGuildModel" "steps" "[I", Cond.fieldLink RX5 25 "PaperGuildModel" "kinds" "[I"]
def wsX5_mayFold : List Cond := .code yX5_mayFold cX5_mayFold 3 (some .boolean) :: ((wsX5_mayFold_r1 ++ wsX5_mayFold_r2) ++ wsX50)
def wsX5_lessons_r1 : List Cond := [Cond.fieldLink RX5 34 "PaperGuildModel" "knows" "[I", Cond.fieldLink RX5 7 "PaperGuildModel" "needs" "[I", Cond.methodLink RX5 117 yX5_isExam, Cond.instanceMethod yX5_isExam, Cond.selects RX5 yX5_isExam yX5_isExam, Cond.initialized RX5, Cond.code yX5_isExam cX5_isExam 3 (some .boolean), Cond.fieldLink RX5 56 "PaperGuildModel" "models" "I", Cond.fieldLink RX5 52 "PaperGuildModel" "thrown" "I", Cond.methodLink RX5 59 yX5_in, Cond.static yX5_in, Cond.code yX5_in cX5_in 3 (some .boolean), Cond.methodLink RX5 114 yX5_kindsFor, Cond.instanceMethod yX5_kindsFor, Cond.selects RX5 yX5_kindsFor yX5_kindsFor, Cond.code yX5_kindsFor cX5_kindsFor 4 (some .int), Cond.methodLink RX5 94 yX5_used, Cond.instanceMethod yX5_used, Cond.selects RX5 yX5_used yX5_used, Cond.code yX5_used cX5_used 5 (some .int), Cond.fieldLink RX5 22 "PaperGuildModel" "uses" "[I", Cond.methodLink RX5 87 yX5_ownKinds, Cond.instanceMethod yX5_ownKinds, Cond.selects RX5 yX5_ownKinds yX5_ownKinds]
def wsX5_lessons_r2 : List Cond := [Cond.code yX5_ownKinds cX5_ownKinds 4 (some .int), Cond.fieldLink RX5 19 "PaperGuildModel" "steps" "[I", Cond.fieldLink RX5 25 "PaperGuildModel" "kinds" "[I", Cond.methodLink RX5 104 yX5_bits, Cond.static yX5_bits, Cond.code yX5_bits cX5_bits 3 (some .int)]
def wsX5_lessons : List Cond := .code yX5_lessons cX5_lessons 6 (some .int) :: ((wsX5_lessons_r1 ++ wsX5_lessons_r2) ++ wsX50)
def wsX5_credit : List Cond := .code yX5_credit cX5_credit 6 (some .int) :: ([.fieldLink RX5 52 "PaperGuildModel" "thrown" "I", .fieldLink RX5 56 "PaperGuildModel" "models" "I", .fieldLink RX5 13 "PaperGuildModel" "authors" "[I", .methodLink RX5 59 yX5_in, .static yX5_in, .initialized RX5, .code yX5_in cX5_in 3 (some .boolean), .methodLink RX5 94 yX5_used, .instanceMethod yX5_used, .selects RX5 yX5_used yX5_used, .code yX5_used cX5_used 5 (some .int), .fieldLink RX5 22 "PaperGuildModel" "uses" "[I"] ++ wsX50)
def wsX5_fewest : List Cond := .code yX5_fewest cX5_fewest 4 none :: ([.fieldLink RX5 49 "PaperGuildModel" "cuts" "[I", .fieldLink RX5 98 "PaperGuildModel" "roll" "I", .fieldLink RX5 101 "PaperGuildModel" "demand" "I"] ++ wsX50)
def wsX5_fewestPieces : List Cond := .code yX5_fewestPieces cX5_fewestPieces 1 (some .int) :: ([.fieldLink RX5 52 "PaperGuildModel" "thrown" "I", .fieldLink RX5 49 "PaperGuildModel" "cuts" "[I", .fieldLink RX5 98 "PaperGuildModel" "roll" "I", .methodLink RX5 120 yX5_fewest, .instanceMethod yX5_fewest, .selects RX5 yX5_fewest yX5_fewest, .initialized RX5, .code yX5_fewest cX5_fewest 4 none, .fieldLink RX5 101 "PaperGuildModel" "demand" "I"] ++ wsX50)
def wsX5_ways : List Cond := .code yX5_ways cX5_ways 3 (some .int) :: ([.fieldLink RX5 52 "PaperGuildModel" "thrown" "I", .fieldLink RX5 98 "PaperGuildModel" "roll" "I", .fieldLink RX5 49 "PaperGuildModel" "cuts" "[I", .fieldLink RX5 101 "PaperGuildModel" "demand" "I", .constant RX5 123 (1000007)] ++ wsX50)
def wsX5_leastRest : List Cond := .code yX5_leastRest cX5_leastRest 2 (some .int) :: ([.fieldLink RX5 52 "PaperGuildModel" "thrown" "I", .fieldLink RX5 49 "PaperGuildModel" "cuts" "[I", .fieldLink RX5 98 "PaperGuildModel" "roll" "I", .methodLink RX5 120 yX5_fewest, .instanceMethod yX5_fewest, .selects RX5 yX5_fewest yX5_fewest, .initialized RX5, .code yX5_fewest cX5_fewest 4 none, .fieldLink RX5 101 "PaperGuildModel" "demand" "I"] ++ wsX50)
def wsJ9_max_7cf53 : List Cond := .code yJ9_max_7cf53 cJ9_max_7cf53 2 (some .int) :: ([])
def wsJ9_min_7cf53 : List Cond := .code yJ9_min_7cf53 cJ9_min_7cf53 2 (some .int) :: ([])
def wsL_setNeeds : List Cond := .codeWith yL_setNeeds cL_setNeeds 5 (some .int) [(0, 10, 13, 13), (0, 10, 17, 15)] :: ([.classLink RL 13 "java/lang/IndexOutOfBoundsException", .classLink RL 15 "java/lang/IllegalArgumentException", .methodLink RL 7 yX4_setNeeds, .instanceMethod yX4_setNeeds, .selects RX4 yX4_setNeeds yX4_setNeeds, .initialized RX4, .code yX4_setNeeds cX4_setNeeds 4 (some .int), .classLink RX4 50 "java/lang/IllegalArgumentException", .initialized "java/lang/IllegalArgumentException", .fieldLink RX4 9 "PaperGuild" "needed" "[I", .methodLink RX4 46 yX4_checkKind, .instanceMethod yX4_checkKind, .selects RX4 yX4_checkKind yX4_checkKind, .code yX4_checkKind cX4_checkKind 2 none, .classLink RX4 149 "java/lang/IndexOutOfBoundsException", .initialized "java/lang/IndexOutOfBoundsException", .methodLink RX4 57 yX4_reached, .static yX4_reached, .code yX4_reached cX4_reached 6 (some .int), .methodLink RX4 61 yX4_holds, .static yX4_holds, .code yX4_holds cX4_holds 2 (some .boolean)] ++ wsX40 ++ (vx_atS RX4 54 "java/lang/IllegalArgumentException" ["java/lang/RuntimeException", "java/lang/Exception"]).filter goodWord ++ (vx_atS RX4 153 "java/lang/IndexOutOfBoundsException" ["java/lang/RuntimeException", "java/lang/Exception"]).filter goodWord)
def wsL_addModel_r1 : List Cond := [Cond.classLink RL 13 "java/lang/IndexOutOfBoundsException", Cond.classLink RL 15 "java/lang/IllegalArgumentException", Cond.classLink RL 20 "java/lang/IllegalStateException", Cond.methodLink RL 17 yX4_addModel, Cond.instanceMethod yX4_addModel, Cond.selects RX4 yX4_addModel yX4_addModel, Cond.initialized RX4, Cond.code yX4_addModel cX4_addModel 3 (some .int), Cond.classLink RX4 50 "java/lang/IllegalArgumentException", Cond.initialized "java/lang/IllegalArgumentException", Cond.classLink RX4 72 "java/lang/IllegalStateException", Cond.initialized "java/lang/IllegalStateException", Cond.fieldLink RX4 25 "PaperGuild" "modelCount" "I", Cond.fieldLink RX4 18 "PaperGuild" "guildModels" "[LPaperGuild$Model;", Cond.classLink RX4 16 RX2, Cond.instantiable RX2 7, Cond.initialized RX2, Cond.methodLink RX4 67 yX4_checkAuthor, Cond.instanceMethod yX4_checkAuthor, Cond.selects RX4 yX4_checkAuthor yX4_checkAuthor, Cond.code yX4_checkAuthor cX4_checkAuthor 2 none, Cond.classLink RX4 149 "java/lang/IndexOutOfBoundsException", Cond.initialized "java/lang/IndexOutOfBoundsException", Cond.methodLink RX4 77 yX2_init]
def wsL_addModel_r2 : List Cond := [Cond.instanceMethod yX2_init, Cond.code yX2_init cX2_init 3 none, Cond.methodLink RX2 3 objectInit, Cond.instanceMethod objectInit, Cond.code objectInit ⟨#[0xb1]⟩ 1 none, Cond.arrayClass .int, Cond.fieldLink RX2 9 "PaperGuild$Model" "stepKinds" "[I", Cond.fieldLink RX2 15 "PaperGuild$Model" "stepPlaces" "[I", Cond.arrayClass .boolean, Cond.fieldLink RX2 18 "PaperGuild$Model" "stepsFromLeft" "[Z", Cond.fieldLink RX2 22 "PaperGuild$Model" "stepCount" "I", Cond.fieldLink RX2 26 "PaperGuild$Model" "author" "I", Cond.fieldLink RX2 29 "PaperGuild$Model" "length" "I", Cond.classLink RX2 32 RX3, Cond.instantiable RX3 6, Cond.initialized RX3, Cond.fieldLink RX2 35 "PaperGuild$Model" "stacks" "LPaperGuild$Stacks;", Cond.instanceMethod yX3_init, Cond.code yX3_init cX3_init 1 none, Cond.methodLink RX3 3 objectInit, Cond.fieldLink RX3 9 "PaperGuild$Stacks" "cells" "[I", Cond.fieldLink RX3 15 "PaperGuild$Stacks" "starts" "[I", Cond.fieldLink RX3 18 "PaperGuild$Stacks" "nextCells" "[I", Cond.fieldLink RX3 21 "PaperGuild$Stacks" "nextStarts" "[I"]
def wsL_addModel_r3 : List Cond := [Cond.fieldLink RX3 24 "PaperGuild$Stacks" "filled" "I", Cond.fieldLink RX3 28 "PaperGuild$Stacks" "span" "I", Cond.methodLink RX2 39 yX3_layFlat, Cond.instanceMethod yX3_layFlat, Cond.selects RX3 yX3_layFlat yX3_layFlat, Cond.code yX3_layFlat cX3_layFlat 3 none, Cond.methodLink RX3 31 Lib.Math.min.name, Cond.static Lib.Math.min.name, Cond.initialized "java/lang/Math", Cond.code Lib.Math.min.name Lib.Math.min.code 2 (some .int), Cond.methodLink RX3 37 Lib.Math.max.name, Cond.static Lib.Math.max.name, Cond.code Lib.Math.max.name Lib.Math.max.code 2 (some .int)]
def wsL_addModel : List Cond := .codeWith yL_addModel cL_addModel 5 (some .int) [(0, 10, 13, 13), (0, 10, 17, 15), (0, 10, 21, 20)] :: ((wsL_addModel_r1 ++ (wsL_addModel_r2 ++ wsL_addModel_r3)) ++ wsX40 ++ wsX20 ++ wsX30 ++ (vx_atS RX4 54 "java/lang/IllegalArgumentException" ["java/lang/RuntimeException", "java/lang/Exception"]).filter goodWord ++ (vx_atS RX4 76 "java/lang/IllegalStateException" ["java/lang/RuntimeException", "java/lang/Exception"]).filter goodWord ++ (vx_atS RX4 153 "java/lang/IndexOutOfBoundsException" ["java/lang/RuntimeException", "java/lang/Exception"]).filter goodWord)
def wsL_fold_r1 : List Cond := [Cond.classLink RL 13 "java/lang/IndexOutOfBoundsException", Cond.classLink RL 15 "java/lang/IllegalArgumentException", Cond.classLink RL 20 "java/lang/IllegalStateException", Cond.methodLink RL 22 yX4_fold, Cond.instanceMethod yX4_fold, Cond.selects RX4 yX4_fold yX4_fold, Cond.initialized RX4, Cond.code yX4_fold cX4_fold 6 (some .int), Cond.classLink RX4 50 "java/lang/IllegalArgumentException", Cond.initialized "java/lang/IllegalArgumentException", Cond.classLink RX4 72 "java/lang/IllegalStateException", Cond.initialized "java/lang/IllegalStateException", Cond.fieldLink RX4 84 "PaperGuild$Model" "stacks" "LPaperGuild$Stacks;", Cond.fieldLink RX4 88 "PaperGuild$Stacks" "span" "I", Cond.fieldLink RX4 95 "PaperGuild$Model" "stepCount" "I", Cond.fieldLink RX4 9 "PaperGuild" "needed" "[I", Cond.methodLink RX4 80 yX4_modelAt, Cond.instanceMethod yX4_modelAt, Cond.selects RX4 yX4_modelAt yX4_modelAt, Cond.code yX4_modelAt cX4_modelAt 3 (some (.object "PaperGuild$Model")), Cond.classLink RX4 149 "java/lang/IndexOutOfBoundsException", Cond.initialized "java/lang/IndexOutOfBoundsException", Cond.fieldLink RX4 18 "PaperGuild" "guildModels" "[LPaperGuild$Model;", Cond.methodLink RX4 118 yX4_checkModel]
def wsL_fold_r2 : List Cond := [Cond.instanceMethod yX4_checkModel, Cond.selects RX4 yX4_checkModel yX4_checkModel, Cond.code yX4_checkModel cX4_checkModel 2 none, Cond.fieldLink RX4 25 "PaperGuild" "modelCount" "I", Cond.methodLink RX4 46 yX4_checkKind, Cond.instanceMethod yX4_checkKind, Cond.selects RX4 yX4_checkKind yX4_checkKind, Cond.code yX4_checkKind cX4_checkKind 2 none, Cond.methodLink RX4 100 yX2_ownKinds, Cond.instanceMethod yX2_ownKinds, Cond.selects RX2 yX2_ownKinds yX2_ownKinds, Cond.initialized RX2, Cond.code yX2_ownKinds cX2_ownKinds 3 (some .int), Cond.fieldLink RX2 22 "PaperGuild$Model" "stepCount" "I", Cond.fieldLink RX2 9 "PaperGuild$Model" "stepKinds" "[I", Cond.methodLink RX4 104 yX4_lacksAny, Cond.static yX4_lacksAny, Cond.code yX4_lacksAny cX4_lacksAny 2 (some .boolean), Cond.methodLink RX4 109 yX2_addStep, Cond.instanceMethod yX2_addStep, Cond.selects RX2 yX2_addStep yX2_addStep, Cond.code yX2_addStep cX2_addStep 4 none, Cond.fieldLink RX2 15 "PaperGuild$Model" "stepPlaces" "[I", Cond.fieldLink RX2 18 "PaperGuild$Model" "stepsFromLeft" "[Z"]
def wsL_fold_r3 : List Cond := [Cond.fieldLink RX2 35 "PaperGuild$Model" "stacks" "LPaperGuild$Stacks;", Cond.methodLink RX2 43 yX3_turnOver, Cond.instanceMethod yX3_turnOver, Cond.selects RX3 yX3_turnOver yX3_turnOver, Cond.initialized RX3, Cond.code yX3_turnOver cX3_turnOver 7 none, Cond.fieldLink RX3 28 "PaperGuild$Stacks" "span" "I", Cond.methodLink RX3 31 Lib.Math.min.name, Cond.static Lib.Math.min.name, Cond.initialized "java/lang/Math", Cond.code Lib.Math.min.name Lib.Math.min.code 2 (some .int), Cond.methodLink RX3 37 Lib.Math.max.name, Cond.static Lib.Math.max.name, Cond.code Lib.Math.max.name Lib.Math.max.code 2 (some .int), Cond.fieldLink RX3 24 "PaperGuild$Stacks" "filled" "I", Cond.fieldLink RX3 21 "PaperGuild$Stacks" "nextStarts" "[I", Cond.methodLink RX3 40 yX3_copyUpwards, Cond.instanceMethod yX3_copyUpwards, Cond.selects RX3 yX3_copyUpwards yX3_copyUpwards, Cond.code yX3_copyUpwards cX3_copyUpwards 4 none, Cond.methodLink RX3 54 yX3_heightAt, Cond.instanceMethod yX3_heightAt, Cond.selects RX3 yX3_heightAt yX3_heightAt, Cond.code yX3_heightAt cX3_heightAt 2 (some .int)]
def wsL_fold_r4 : List Cond := [Cond.fieldLink RX3 15 "PaperGuild$Stacks" "starts" "[I", Cond.methodLink RX3 50 yX3_isPlace, Cond.instanceMethod yX3_isPlace, Cond.selects RX3 yX3_isPlace yX3_isPlace, Cond.code yX3_isPlace cX3_isPlace 2 (some .boolean), Cond.methodLink RX3 58 yX3_copyCell, Cond.instanceMethod yX3_copyCell, Cond.selects RX3 yX3_copyCell yX3_copyCell, Cond.code yX3_copyCell cX3_copyCell 3 none, Cond.fieldLink RX3 18 "PaperGuild$Stacks" "nextCells" "[I", Cond.methodLink RX3 62 yX3_cellIn, Cond.instanceMethod yX3_cellIn, Cond.selects RX3 yX3_cellIn yX3_cellIn, Cond.code yX3_cellIn cX3_cellIn 3 (some .int), Cond.fieldLink RX3 9 "PaperGuild$Stacks" "cells" "[I", Cond.methodLink RX3 44 yX3_copyDownwards, Cond.instanceMethod yX3_copyDownwards, Cond.selects RX3 yX3_copyDownwards yX3_copyDownwards, Cond.code yX3_copyDownwards cX3_copyDownwards 3 none, Cond.methodLink RX3 47 yX3_swapRows, Cond.instanceMethod yX3_swapRows, Cond.selects RX3 yX3_swapRows yX3_swapRows, Cond.code yX3_swapRows cX3_swapRows 3 none]
def wsL_fold : List Cond := .codeWith yL_fold cL_fold 7 (some .int) [(0, 14, 17, 13), (0, 14, 21, 15), (0, 14, 25, 20)] :: ((wsL_fold_r1 ++ (wsL_fold_r2 ++ (wsL_fold_r3 ++ wsL_fold_r4))) ++ wsX20 ++ wsX30 ++ wsX40 ++ (vx_atS RX4 54 "java/lang/IllegalArgumentException" ["java/lang/RuntimeException", "java/lang/Exception"]).filter goodWord ++ (vx_atS RX4 76 "java/lang/IllegalStateException" ["java/lang/RuntimeException", "java/lang/Exception"]).filter goodWord ++ (vx_atS RX4 153 "java/lang/IndexOutOfBoundsException" ["java/lang/RuntimeException", "java/lang/Exception"]).filter goodWord)
def wsL_unfold_r1 : List Cond := [Cond.classLink RL 13 "java/lang/IndexOutOfBoundsException", Cond.classLink RL 20 "java/lang/IllegalStateException", Cond.methodLink RL 26 yX4_unfold, Cond.instanceMethod yX4_unfold, Cond.selects RX4 yX4_unfold yX4_unfold, Cond.initialized RX4, Cond.code yX4_unfold cX4_unfold 3 (some .int), Cond.classLink RX4 72 "java/lang/IllegalStateException", Cond.initialized "java/lang/IllegalStateException", Cond.fieldLink RX4 95 "PaperGuild$Model" "stepCount" "I", Cond.methodLink RX4 80 yX4_modelAt, Cond.instanceMethod yX4_modelAt, Cond.selects RX4 yX4_modelAt yX4_modelAt, Cond.code yX4_modelAt cX4_modelAt 3 (some (.object "PaperGuild$Model")), Cond.classLink RX4 149 "java/lang/IndexOutOfBoundsException", Cond.initialized "java/lang/IndexOutOfBoundsException", Cond.fieldLink RX4 18 "PaperGuild" "guildModels" "[LPaperGuild$Model;", Cond.methodLink RX4 118 yX4_checkModel, Cond.instanceMethod yX4_checkModel, Cond.selects RX4 yX4_checkModel yX4_checkModel, Cond.code yX4_checkModel cX4_checkModel 2 none, Cond.fieldLink RX4 25 "PaperGuild" "modelCount" "I", Cond.methodLink RX4 115 yX2_removeLastStep, Cond.instanceMethod yX2_removeLastStep]
def wsL_unfold_r2 : List Cond := [Cond.selects RX2 yX2_removeLastStep yX2_removeLastStep, Cond.initialized RX2, Cond.code yX2_removeLastStep cX2_removeLastStep 2 (some .int), Cond.fieldLink RX2 22 "PaperGuild$Model" "stepCount" "I", Cond.fieldLink RX2 35 "PaperGuild$Model" "stacks" "LPaperGuild$Stacks;", Cond.fieldLink RX2 29 "PaperGuild$Model" "length" "I", Cond.fieldLink RX2 15 "PaperGuild$Model" "stepPlaces" "[I", Cond.fieldLink RX2 18 "PaperGuild$Model" "stepsFromLeft" "[Z", Cond.fieldLink RX2 9 "PaperGuild$Model" "stepKinds" "[I", Cond.methodLink RX2 39 yX3_layFlat, Cond.instanceMethod yX3_layFlat, Cond.selects RX3 yX3_layFlat yX3_layFlat, Cond.initialized RX3, Cond.code yX3_layFlat cX3_layFlat 3 none, Cond.methodLink RX3 31 Lib.Math.min.name, Cond.static Lib.Math.min.name, Cond.initialized "java/lang/Math", Cond.code Lib.Math.min.name Lib.Math.min.code 2 (some .int), Cond.methodLink RX3 37 Lib.Math.max.name, Cond.static Lib.Math.max.name, Cond.code Lib.Math.max.name Lib.Math.max.code 2 (some .int), Cond.fieldLink RX3 28 "PaperGuild$Stacks" "span" "I", Cond.fieldLink RX3 9 "PaperGuild$Stacks" "cells" "[I", Cond.fieldLink RX3 15 "PaperGuild$Stacks" "starts" "[I"]
def wsL_unfold_r3 : List Cond := [Cond.methodLink RX2 43 yX3_turnOver, Cond.instanceMethod yX3_turnOver, Cond.selects RX3 yX3_turnOver yX3_turnOver, Cond.code yX3_turnOver cX3_turnOver 7 none, Cond.fieldLink RX3 24 "PaperGuild$Stacks" "filled" "I", Cond.fieldLink RX3 21 "PaperGuild$Stacks" "nextStarts" "[I", Cond.methodLink RX3 40 yX3_copyUpwards, Cond.instanceMethod yX3_copyUpwards, Cond.selects RX3 yX3_copyUpwards yX3_copyUpwards, Cond.code yX3_copyUpwards cX3_copyUpwards 4 none, Cond.methodLink RX3 54 yX3_heightAt, Cond.instanceMethod yX3_heightAt, Cond.selects RX3 yX3_heightAt yX3_heightAt, Cond.code yX3_heightAt cX3_heightAt 2 (some .int), Cond.methodLink RX3 50 yX3_isPlace, Cond.instanceMethod yX3_isPlace, Cond.selects RX3 yX3_isPlace yX3_isPlace, Cond.code yX3_isPlace cX3_isPlace 2 (some .boolean), Cond.methodLink RX3 58 yX3_copyCell, Cond.instanceMethod yX3_copyCell, Cond.selects RX3 yX3_copyCell yX3_copyCell, Cond.code yX3_copyCell cX3_copyCell 3 none, Cond.fieldLink RX3 18 "PaperGuild$Stacks" "nextCells" "[I", Cond.methodLink RX3 62 yX3_cellIn]
def wsL_unfold_r4 : List Cond := [Cond.instanceMethod yX3_cellIn, Cond.selects RX3 yX3_cellIn yX3_cellIn, Cond.code yX3_cellIn cX3_cellIn 3 (some .int), Cond.methodLink RX3 44 yX3_copyDownwards, Cond.instanceMethod yX3_copyDownwards, Cond.selects RX3 yX3_copyDownwards yX3_copyDownwards, Cond.code yX3_copyDownwards cX3_copyDownwards 3 none, Cond.methodLink RX3 47 yX3_swapRows, Cond.instanceMethod yX3_swapRows, Cond.selects RX3 yX3_swapRows yX3_swapRows, Cond.code yX3_swapRows cX3_swapRows 3 none]
def wsL_unfold : List Cond := .codeWith yL_unfold cL_unfold 4 (some .int) [(0, 9, 12, 13), (0, 9, 15, 20)] :: ((wsL_unfold_r1 ++ (wsL_unfold_r2 ++ (wsL_unfold_r3 ++ wsL_unfold_r4))) ++ wsX20 ++ wsX40 ++ wsX30 ++ (vx_atS RX4 76 "java/lang/IllegalStateException" ["java/lang/RuntimeException", "java/lang/Exception"]).filter goodWord ++ (vx_atS RX4 153 "java/lang/IndexOutOfBoundsException" ["java/lang/RuntimeException", "java/lang/Exception"]).filter goodWord)
def wsL_use_r1 : List Cond := [Cond.classLink RL 13 "java/lang/IndexOutOfBoundsException", Cond.classLink RL 15 "java/lang/IllegalArgumentException", Cond.methodLink RL 30 yX4_use, Cond.instanceMethod yX4_use, Cond.selects RX4 yX4_use yX4_use, Cond.initialized RX4, Cond.code yX4_use cX4_use 4 (some .boolean), Cond.classLink RX4 50 "java/lang/IllegalArgumentException", Cond.initialized "java/lang/IllegalArgumentException", Cond.fieldLink RX4 22 "PaperGuild" "used" "[I", Cond.methodLink RX4 118 yX4_checkModel, Cond.instanceMethod yX4_checkModel, Cond.selects RX4 yX4_checkModel yX4_checkModel, Cond.code yX4_checkModel cX4_checkModel 2 none, Cond.classLink RX4 149 "java/lang/IndexOutOfBoundsException", Cond.initialized "java/lang/IndexOutOfBoundsException", Cond.fieldLink RX4 25 "PaperGuild" "modelCount" "I", Cond.methodLink RX4 121 yX4_modelsCountedFor, Cond.instanceMethod yX4_modelsCountedFor, Cond.selects RX4 yX4_modelsCountedFor yX4_modelsCountedFor, Cond.code yX4_modelsCountedFor cX4_modelsCountedFor 2 (some .int), Cond.methodLink RX4 57 yX4_reached, Cond.static yX4_reached, Cond.code yX4_reached cX4_reached 6 (some .int)]
def wsL_use_r2 : List Cond := [Cond.methodLink RX4 61 yX4_holds, Cond.static yX4_holds, Cond.code yX4_holds cX4_holds 2 (some .boolean)]
def wsL_use : List Cond := .codeWith yL_use cL_use 5 (some .int) [(0, 17, 20, 13), (0, 17, 24, 15)] :: ((wsL_use_r1 ++ wsL_use_r2) ++ wsX40 ++ (vx_atS RX4 54 "java/lang/IllegalArgumentException" ["java/lang/RuntimeException", "java/lang/Exception"]).filter goodWord ++ (vx_atS RX4 153 "java/lang/IndexOutOfBoundsException" ["java/lang/RuntimeException", "java/lang/Exception"]).filter goodWord)
def wsL_setRoll : List Cond := .codeWith yL_setRoll cL_setRoll 5 (some .int) [(0, 10, 13, 15)] :: ([.classLink RL 15 "java/lang/IllegalArgumentException", .methodLink RL 34 yX4_setRoll, .instanceMethod yX4_setRoll, .selects RX4 yX4_setRoll yX4_setRoll, .initialized RX4, .code yX4_setRoll cX4_setRoll 4 (some .int), .classLink RX4 50 "java/lang/IllegalArgumentException", .initialized "java/lang/IllegalArgumentException", .constant RX4 127 (1048575), .fieldLink RX4 42 "PaperGuild" "mill" "LPaperGuild$Mill;", .fieldLink RX4 130 "PaperGuild$Mill" "rollLength" "I", .fieldLink RX4 133 "PaperGuild$Mill" "demanded" "I"] ++ wsX40 ++ wsX10 ++ (vx_atS RX4 54 "java/lang/IllegalArgumentException" ["java/lang/RuntimeException", "java/lang/Exception"]).filter goodWord)
def wsL_teach_r1 : List Cond := [Cond.classLink RL 13 "java/lang/IndexOutOfBoundsException", Cond.classLink RL 20 "java/lang/IllegalStateException", Cond.methodLink RL 37 yX4_teach, Cond.instanceMethod yX4_teach, Cond.selects RX4 yX4_teach yX4_teach, Cond.initialized RX4, Cond.code yX4_teach cX4_teach 3 (some .int), Cond.classLink RX4 72 "java/lang/IllegalStateException", Cond.initialized "java/lang/IllegalStateException", Cond.fieldLink RX4 13 "PaperGuild" "known" "[I", Cond.fieldLink RX4 9 "PaperGuild" "needed" "[I", Cond.methodLink RX4 136 yX4_checkPupil, Cond.instanceMethod yX4_checkPupil, Cond.selects RX4 yX4_checkPupil yX4_checkPupil, Cond.code yX4_checkPupil cX4_checkPupil 2 none, Cond.classLink RX4 149 "java/lang/IndexOutOfBoundsException", Cond.initialized "java/lang/IndexOutOfBoundsException", Cond.methodLink RX4 46 yX4_checkKind, Cond.instanceMethod yX4_checkKind, Cond.selects RX4 yX4_checkKind yX4_checkKind, Cond.code yX4_checkKind cX4_checkKind 2 none, Cond.methodLink RX4 104 yX4_lacksAny, Cond.static yX4_lacksAny, Cond.code yX4_lacksAny cX4_lacksAny 2 (some .boolean)]
def wsL_teach_r2 : List Cond := [Cond.methodLink RX4 141 yJ6_bitCount_0f7a4, Cond.static yJ6_bitCount_0f7a4, Cond.initialized RJ6, Cond.code yJ6_bitCount_0f7a4 cJ6_bitCount_0f7a4 1 (some .int), Cond.constant RJ6 265 (1431655765), Cond.constant RJ6 266 (858993459), Cond.constant RJ6 267 (252645135)]
def wsL_teach : List Cond := .codeWith yL_teach cL_teach 5 (some .int) [(0, 10, 13, 13), (0, 10, 17, 20)] :: ((wsL_teach_r1 ++ wsL_teach_r2) ++ wsX40 ++ (vx_atS RX4 76 "java/lang/IllegalStateException" ["java/lang/RuntimeException", "java/lang/Exception"]).filter goodWord ++ (vx_atS RX4 153 "java/lang/IndexOutOfBoundsException" ["java/lang/RuntimeException", "java/lang/Exception"]).filter goodWord)
def wsL_steps : List Cond := .codeWith yL_steps cL_steps 4 (some .int) [(0, 9, 12, 13)] :: ([.classLink RL 13 "java/lang/IndexOutOfBoundsException", .methodLink RL 40 yX4_steps, .instanceMethod yX4_steps, .selects RX4 yX4_steps yX4_steps, .initialized RX4, .code yX4_steps cX4_steps 2 (some .int), .fieldLink RX4 95 "PaperGuild$Model" "stepCount" "I", .methodLink RX4 80 yX4_modelAt, .instanceMethod yX4_modelAt, .selects RX4 yX4_modelAt yX4_modelAt, .code yX4_modelAt cX4_modelAt 3 (some (.object "PaperGuild$Model")), .classLink RX4 149 "java/lang/IndexOutOfBoundsException", .initialized "java/lang/IndexOutOfBoundsException", .fieldLink RX4 18 "PaperGuild" "guildModels" "[LPaperGuild$Model;", .methodLink RX4 118 yX4_checkModel, .instanceMethod yX4_checkModel, .selects RX4 yX4_checkModel yX4_checkModel, .code yX4_checkModel cX4_checkModel 2 none, .fieldLink RX4 25 "PaperGuild" "modelCount" "I"] ++ wsX20 ++ wsX40 ++ (vx_atS RX4 153 "java/lang/IndexOutOfBoundsException" ["java/lang/RuntimeException", "java/lang/Exception"]).filter goodWord)
def wsL_places : List Cond := .codeWith yL_places cL_places 4 (some .int) [(0, 9, 12, 13)] :: ([.classLink RL 13 "java/lang/IndexOutOfBoundsException", .methodLink RL 43 yX4_places, .instanceMethod yX4_places, .selects RX4 yX4_places yX4_places, .initialized RX4, .code yX4_places cX4_places 2 (some .int), .fieldLink RX4 84 "PaperGuild$Model" "stacks" "LPaperGuild$Stacks;", .fieldLink RX4 88 "PaperGuild$Stacks" "span" "I", .methodLink RX4 80 yX4_modelAt, .instanceMethod yX4_modelAt, .selects RX4 yX4_modelAt yX4_modelAt, .code yX4_modelAt cX4_modelAt 3 (some (.object "PaperGuild$Model")), .classLink RX4 149 "java/lang/IndexOutOfBoundsException", .initialized "java/lang/IndexOutOfBoundsException", .fieldLink RX4 18 "PaperGuild" "guildModels" "[LPaperGuild$Model;", .methodLink RX4 118 yX4_checkModel, .instanceMethod yX4_checkModel, .selects RX4 yX4_checkModel yX4_checkModel, .code yX4_checkModel cX4_checkModel 2 none, .fieldLink RX4 25 "PaperGuild" "modelCount" "I"] ++ wsX20 ++ wsX30 ++ wsX40 ++ (vx_atS RX4 153 "java/lang/IndexOutOfBoundsException" ["java/lang/RuntimeException", "java/lang/Exception"]).filter goodWord)
def wsL_layers_r1 : List Cond := [Cond.classLink RL 13 "java/lang/IndexOutOfBoundsException", Cond.methodLink RL 46 yX4_layers, Cond.instanceMethod yX4_layers, Cond.selects RX4 yX4_layers yX4_layers, Cond.initialized RX4, Cond.code yX4_layers cX4_layers 2 (some .int), Cond.fieldLink RX4 84 "PaperGuild$Model" "stacks" "LPaperGuild$Stacks;", Cond.methodLink RX4 80 yX4_modelAt, Cond.instanceMethod yX4_modelAt, Cond.selects RX4 yX4_modelAt yX4_modelAt, Cond.code yX4_modelAt cX4_modelAt 3 (some (.object "PaperGuild$Model")), Cond.classLink RX4 149 "java/lang/IndexOutOfBoundsException", Cond.initialized "java/lang/IndexOutOfBoundsException", Cond.fieldLink RX4 18 "PaperGuild" "guildModels" "[LPaperGuild$Model;", Cond.methodLink RX4 118 yX4_checkModel, Cond.instanceMethod yX4_checkModel, Cond.selects RX4 yX4_checkModel yX4_checkModel, Cond.code yX4_checkModel cX4_checkModel 2 none, Cond.fieldLink RX4 25 "PaperGuild" "modelCount" "I", Cond.methodLink RX4 146 yX3_greatestHeight, Cond.instanceMethod yX3_greatestHeight, Cond.selects RX3 yX3_greatestHeight yX3_greatestHeight, Cond.initialized RX3, Cond.code yX3_greatestHeight cX3_greatestHeight 3 (some .int)]
def wsL_layers_r2 : List Cond := [Cond.fieldLink RX3 28 "PaperGuild$Stacks" "span" "I", Cond.methodLink RX3 37 Lib.Math.max.name, Cond.static Lib.Math.max.name, Cond.initialized "java/lang/Math", Cond.code Lib.Math.max.name Lib.Math.max.code 2 (some .int), Cond.methodLink RX3 54 yX3_heightAt, Cond.instanceMethod yX3_heightAt, Cond.selects RX3 yX3_heightAt yX3_heightAt, Cond.code yX3_heightAt cX3_heightAt 2 (some .int), Cond.fieldLink RX3 15 "PaperGuild$Stacks" "starts" "[I", Cond.methodLink RX3 50 yX3_isPlace, Cond.instanceMethod yX3_isPlace, Cond.selects RX3 yX3_isPlace yX3_isPlace, Cond.code yX3_isPlace cX3_isPlace 2 (some .boolean)]
def wsL_layers : List Cond := .codeWith yL_layers cL_layers 4 (some .int) [(0, 9, 12, 13)] :: ((wsL_layers_r1 ++ wsL_layers_r2) ++ wsX20 ++ wsX40 ++ wsX30 ++ (vx_atS RX4 153 "java/lang/IndexOutOfBoundsException" ["java/lang/RuntimeException", "java/lang/Exception"]).filter goodWord)
def wsL_cellAt_r1 : List Cond := [Cond.classLink RL 13 "java/lang/IndexOutOfBoundsException", Cond.methodLink RL 49 yX4_cellAt, Cond.instanceMethod yX4_cellAt, Cond.selects RX4 yX4_cellAt yX4_cellAt, Cond.initialized RX4, Cond.code yX4_cellAt cX4_cellAt 5 (some .int), Cond.classLink RX4 149 "java/lang/IndexOutOfBoundsException", Cond.initialized "java/lang/IndexOutOfBoundsException", Cond.fieldLink RX4 84 "PaperGuild$Model" "stacks" "LPaperGuild$Stacks;", Cond.fieldLink RX4 88 "PaperGuild$Stacks" "span" "I", Cond.methodLink RX4 80 yX4_modelAt, Cond.instanceMethod yX4_modelAt, Cond.selects RX4 yX4_modelAt yX4_modelAt, Cond.code yX4_modelAt cX4_modelAt 3 (some (.object "PaperGuild$Model")), Cond.fieldLink RX4 18 "PaperGuild" "guildModels" "[LPaperGuild$Model;", Cond.methodLink RX4 118 yX4_checkModel, Cond.instanceMethod yX4_checkModel, Cond.selects RX4 yX4_checkModel yX4_checkModel, Cond.code yX4_checkModel cX4_checkModel 2 none, Cond.fieldLink RX4 25 "PaperGuild" "modelCount" "I", Cond.methodLink RX4 154 yX3_heightAt, Cond.instanceMethod yX3_heightAt, Cond.selects RX3 yX3_heightAt yX3_heightAt, Cond.initialized RX3]
def wsL_cellAt_r2 : List Cond := [Cond.code yX3_heightAt cX3_heightAt 2 (some .int), Cond.fieldLink RX3 15 "PaperGuild$Stacks" "starts" "[I", Cond.methodLink RX3 50 yX3_isPlace, Cond.instanceMethod yX3_isPlace, Cond.selects RX3 yX3_isPlace yX3_isPlace, Cond.code yX3_isPlace cX3_isPlace 2 (some .boolean), Cond.fieldLink RX3 28 "PaperGuild$Stacks" "span" "I", Cond.methodLink RX4 159 yX3_cellIn, Cond.instanceMethod yX3_cellIn, Cond.selects RX3 yX3_cellIn yX3_cellIn, Cond.code yX3_cellIn cX3_cellIn 3 (some .int), Cond.fieldLink RX3 9 "PaperGuild$Stacks" "cells" "[I", Cond.methodLink RX3 54 yX3_heightAt]
def wsL_cellAt : List Cond := .codeWith yL_cellAt cL_cellAt 6 (some .int) [(0, 12, 15, 13)] :: ((wsL_cellAt_r1 ++ wsL_cellAt_r2) ++ wsX20 ++ wsX30 ++ wsX40 ++ (vx_atS RX4 153 "java/lang/IndexOutOfBoundsException" ["java/lang/RuntimeException", "java/lang/Exception"]).filter goodWord)
def wsL_placeOf_r1 : List Cond := [Cond.classLink RL 13 "java/lang/IndexOutOfBoundsException", Cond.methodLink RL 53 yX4_placeOf, Cond.instanceMethod yX4_placeOf, Cond.selects RX4 yX4_placeOf yX4_placeOf, Cond.initialized RX4, Cond.code yX4_placeOf cX4_placeOf 4 (some .int), Cond.fieldLink RX4 32 "PaperGuild" "follower" "LPaperGuild$Follower;", Cond.fieldLink RX4 170 "PaperGuild$Follower" "place" "I", Cond.methodLink RX4 80 yX4_modelAt, Cond.instanceMethod yX4_modelAt, Cond.selects RX4 yX4_modelAt yX4_modelAt, Cond.code yX4_modelAt cX4_modelAt 3 (some (.object "PaperGuild$Model")), Cond.classLink RX4 149 "java/lang/IndexOutOfBoundsException", Cond.initialized "java/lang/IndexOutOfBoundsException", Cond.fieldLink RX4 18 "PaperGuild" "guildModels" "[LPaperGuild$Model;", Cond.methodLink RX4 118 yX4_checkModel, Cond.instanceMethod yX4_checkModel, Cond.selects RX4 yX4_checkModel yX4_checkModel, Cond.code yX4_checkModel cX4_checkModel 2 none, Cond.fieldLink RX4 25 "PaperGuild" "modelCount" "I", Cond.methodLink RX4 163 yX4_checkCell, Cond.instanceMethod yX4_checkCell, Cond.selects RX4 yX4_checkCell yX4_checkCell, Cond.code yX4_checkCell cX4_checkCell 3 none]
def wsL_placeOf_r2 : List Cond := [Cond.fieldLink RX4 177 "PaperGuild$Model" "length" "I", Cond.methodLink RX4 167 yX0_follow, Cond.instanceMethod yX0_follow, Cond.selects RX0 yX0_follow yX0_follow, Cond.initialized RX0, Cond.code yX0_follow cX0_follow 4 none, Cond.fieldLink RX0 7 "PaperGuild$Follower" "place" "I", Cond.fieldLink RX0 13 "PaperGuild$Follower" "turned" "Z", Cond.fieldLink RX0 20 "PaperGuild$Model" "length" "I", Cond.fieldLink RX0 17 "PaperGuild$Follower" "span" "I", Cond.fieldLink RX0 25 "PaperGuild$Model" "stepCount" "I", Cond.fieldLink RX0 28 "PaperGuild$Model" "stepPlaces" "[I", Cond.fieldLink RX0 32 "PaperGuild$Model" "stepsFromLeft" "[Z", Cond.methodLink RX0 36 yX0_takeStep, Cond.instanceMethod yX0_takeStep, Cond.selects RX0 yX0_takeStep yX0_takeStep, Cond.code yX0_takeStep cX0_takeStep 5 none, Cond.methodLink RX0 40 Lib.Math.min.name, Cond.static Lib.Math.min.name, Cond.initialized "java/lang/Math", Cond.code Lib.Math.min.name Lib.Math.min.code 2 (some .int), Cond.methodLink RX0 46 Lib.Math.max.name, Cond.static Lib.Math.max.name, Cond.code Lib.Math.max.name Lib.Math.max.code 2 (some .int)]
def wsL_placeOf : List Cond := .codeWith yL_placeOf cL_placeOf 5 (some .int) [(0, 10, 13, 13)] :: ((wsL_placeOf_r1 ++ wsL_placeOf_r2) ++ wsX40 ++ wsX00 ++ wsX20 ++ (vx_atS RX4 153 "java/lang/IndexOutOfBoundsException" ["java/lang/RuntimeException", "java/lang/Exception"]).filter goodWord)
def wsL_isTurned_r1 : List Cond := [Cond.classLink RL 13 "java/lang/IndexOutOfBoundsException", Cond.methodLink RL 56 yX4_isTurned, Cond.instanceMethod yX4_isTurned, Cond.selects RX4 yX4_isTurned yX4_isTurned, Cond.initialized RX4, Cond.code yX4_isTurned cX4_isTurned 4 (some .boolean), Cond.fieldLink RX4 32 "PaperGuild" "follower" "LPaperGuild$Follower;", Cond.fieldLink RX4 173 "PaperGuild$Follower" "turned" "Z", Cond.methodLink RX4 80 yX4_modelAt, Cond.instanceMethod yX4_modelAt, Cond.selects RX4 yX4_modelAt yX4_modelAt, Cond.code yX4_modelAt cX4_modelAt 3 (some (.object "PaperGuild$Model")), Cond.classLink RX4 149 "java/lang/IndexOutOfBoundsException", Cond.initialized "java/lang/IndexOutOfBoundsException", Cond.fieldLink RX4 18 "PaperGuild" "guildModels" "[LPaperGuild$Model;", Cond.methodLink RX4 118 yX4_checkModel, Cond.instanceMethod yX4_checkModel, Cond.selects RX4 yX4_checkModel yX4_checkModel, Cond.code yX4_checkModel cX4_checkModel 2 none, Cond.fieldLink RX4 25 "PaperGuild" "modelCount" "I", Cond.methodLink RX4 163 yX4_checkCell, Cond.instanceMethod yX4_checkCell, Cond.selects RX4 yX4_checkCell yX4_checkCell, Cond.code yX4_checkCell cX4_checkCell 3 none]
def wsL_isTurned_r2 : List Cond := [Cond.fieldLink RX4 177 "PaperGuild$Model" "length" "I", Cond.methodLink RX4 167 yX0_follow, Cond.instanceMethod yX0_follow, Cond.selects RX0 yX0_follow yX0_follow, Cond.initialized RX0, Cond.code yX0_follow cX0_follow 4 none, Cond.fieldLink RX0 7 "PaperGuild$Follower" "place" "I", Cond.fieldLink RX0 13 "PaperGuild$Follower" "turned" "Z", Cond.fieldLink RX0 20 "PaperGuild$Model" "length" "I", Cond.fieldLink RX0 17 "PaperGuild$Follower" "span" "I", Cond.fieldLink RX0 25 "PaperGuild$Model" "stepCount" "I", Cond.fieldLink RX0 28 "PaperGuild$Model" "stepPlaces" "[I", Cond.fieldLink RX0 32 "PaperGuild$Model" "stepsFromLeft" "[Z", Cond.methodLink RX0 36 yX0_takeStep, Cond.instanceMethod yX0_takeStep, Cond.selects RX0 yX0_takeStep yX0_takeStep, Cond.code yX0_takeStep cX0_takeStep 5 none, Cond.methodLink RX0 40 Lib.Math.min.name, Cond.static Lib.Math.min.name, Cond.initialized "java/lang/Math", Cond.code Lib.Math.min.name Lib.Math.min.code 2 (some .int), Cond.methodLink RX0 46 Lib.Math.max.name, Cond.static Lib.Math.max.name, Cond.code Lib.Math.max.name Lib.Math.max.code 2 (some .int)]
def wsL_isTurned : List Cond := .codeWith yL_isTurned cL_isTurned 5 (some .int) [(0, 17, 20, 13)] :: ((wsL_isTurned_r1 ++ wsL_isTurned_r2) ++ wsX40 ++ wsX00 ++ wsX20 ++ (vx_atS RX4 153 "java/lang/IndexOutOfBoundsException" ["java/lang/RuntimeException", "java/lang/Exception"]).filter goodWord)
def wsL_layersByFollowing_r1 : List Cond := [Cond.classLink RL 13 "java/lang/IndexOutOfBoundsException", Cond.methodLink RL 59 yX4_layersByFollowing, Cond.instanceMethod yX4_layersByFollowing, Cond.selects RX4 yX4_layersByFollowing yX4_layersByFollowing, Cond.initialized RX4, Cond.code yX4_layersByFollowing cX4_layersByFollowing 6 (some .int), Cond.fieldLink RX4 36 "PaperGuild" "followedHeights" "[I", Cond.fieldLink RX4 177 "PaperGuild$Model" "length" "I", Cond.fieldLink RX4 32 "PaperGuild" "follower" "LPaperGuild$Follower;", Cond.fieldLink RX4 170 "PaperGuild$Follower" "place" "I", Cond.methodLink RX4 180 Lib.Math.max.name, Cond.static Lib.Math.max.name, Cond.initialized "java/lang/Math", Cond.code Lib.Math.max.name Lib.Math.max.code 2 (some .int), Cond.methodLink RX4 80 yX4_modelAt, Cond.instanceMethod yX4_modelAt, Cond.selects RX4 yX4_modelAt yX4_modelAt, Cond.code yX4_modelAt cX4_modelAt 3 (some (.object "PaperGuild$Model")), Cond.classLink RX4 149 "java/lang/IndexOutOfBoundsException", Cond.initialized "java/lang/IndexOutOfBoundsException", Cond.fieldLink RX4 18 "PaperGuild" "guildModels" "[LPaperGuild$Model;", Cond.methodLink RX4 118 yX4_checkModel, Cond.instanceMethod yX4_checkModel, Cond.selects RX4 yX4_checkModel yX4_checkModel]
def wsL_layersByFollowing_r2 : List Cond := [Cond.code yX4_checkModel cX4_checkModel 2 none, Cond.fieldLink RX4 25 "PaperGuild" "modelCount" "I", Cond.methodLink RX4 167 yX0_follow, Cond.instanceMethod yX0_follow, Cond.selects RX0 yX0_follow yX0_follow, Cond.initialized RX0, Cond.code yX0_follow cX0_follow 4 none, Cond.fieldLink RX0 7 "PaperGuild$Follower" "place" "I", Cond.fieldLink RX0 13 "PaperGuild$Follower" "turned" "Z", Cond.fieldLink RX0 20 "PaperGuild$Model" "length" "I", Cond.fieldLink RX0 17 "PaperGuild$Follower" "span" "I", Cond.fieldLink RX0 25 "PaperGuild$Model" "stepCount" "I", Cond.fieldLink RX0 28 "PaperGuild$Model" "stepPlaces" "[I", Cond.fieldLink RX0 32 "PaperGuild$Model" "stepsFromLeft" "[Z", Cond.methodLink RX0 36 yX0_takeStep, Cond.instanceMethod yX0_takeStep, Cond.selects RX0 yX0_takeStep yX0_takeStep, Cond.code yX0_takeStep cX0_takeStep 5 none, Cond.methodLink RX0 40 Lib.Math.min.name, Cond.static Lib.Math.min.name, Cond.code Lib.Math.min.name Lib.Math.min.code 2 (some .int), Cond.methodLink RX0 46 Lib.Math.max.name]
def wsL_layersByFollowing : List Cond := .codeWith yL_layersByFollowing cL_layersByFollowing 4 (some .int) [(0, 9, 12, 13)] :: ((wsL_layersByFollowing_r1 ++ wsL_layersByFollowing_r2) ++ wsX40 ++ wsX20 ++ wsX00 ++ (vx_atS RX4 153 "java/lang/IndexOutOfBoundsException" ["java/lang/RuntimeException", "java/lang/Exception"]).filter goodWord)
def wsL_bears_r1 : List Cond := [Cond.classLink RL 13 "java/lang/IndexOutOfBoundsException", Cond.classLink RL 15 "java/lang/IllegalArgumentException", Cond.methodLink RL 62 yX4_bears, Cond.instanceMethod yX4_bears, Cond.selects RX4 yX4_bears yX4_bears, Cond.initialized RX4, Cond.code yX4_bears cX4_bears 5 (some .boolean), Cond.classLink RX4 50 "java/lang/IllegalArgumentException", Cond.initialized "java/lang/IllegalArgumentException", Cond.methodLink RX4 180 Lib.Math.max.name, Cond.static Lib.Math.max.name, Cond.initialized "java/lang/Math", Cond.code Lib.Math.max.name Lib.Math.max.code 2 (some .int), Cond.fieldLink RX4 84 "PaperGuild$Model" "stacks" "LPaperGuild$Stacks;", Cond.methodLink RX4 80 yX4_modelAt, Cond.instanceMethod yX4_modelAt, Cond.selects RX4 yX4_modelAt yX4_modelAt, Cond.code yX4_modelAt cX4_modelAt 3 (some (.object "PaperGuild$Model")), Cond.classLink RX4 149 "java/lang/IndexOutOfBoundsException", Cond.initialized "java/lang/IndexOutOfBoundsException", Cond.fieldLink RX4 18 "PaperGuild" "guildModels" "[LPaperGuild$Model;", Cond.methodLink RX4 118 yX4_checkModel, Cond.instanceMethod yX4_checkModel, Cond.selects RX4 yX4_checkModel yX4_checkModel]
def wsL_bears_r2 : List Cond := [Cond.code yX4_checkModel cX4_checkModel 2 none, Cond.fieldLink RX4 25 "PaperGuild" "modelCount" "I", Cond.methodLink RX4 146 yX3_greatestHeight, Cond.instanceMethod yX3_greatestHeight, Cond.selects RX3 yX3_greatestHeight yX3_greatestHeight, Cond.initialized RX3, Cond.code yX3_greatestHeight cX3_greatestHeight 3 (some .int), Cond.fieldLink RX3 28 "PaperGuild$Stacks" "span" "I", Cond.methodLink RX3 37 Lib.Math.max.name, Cond.methodLink RX3 54 yX3_heightAt, Cond.instanceMethod yX3_heightAt, Cond.selects RX3 yX3_heightAt yX3_heightAt, Cond.code yX3_heightAt cX3_heightAt 2 (some .int), Cond.fieldLink RX3 15 "PaperGuild$Stacks" "starts" "[I", Cond.methodLink RX3 50 yX3_isPlace, Cond.instanceMethod yX3_isPlace, Cond.selects RX3 yX3_isPlace yX3_isPlace, Cond.code yX3_isPlace cX3_isPlace 2 (some .boolean)]
def wsL_bears : List Cond := .codeWith yL_bears cL_bears 5 (some .int) [(0, 17, 20, 13), (0, 17, 24, 15)] :: ((wsL_bears_r1 ++ wsL_bears_r2) ++ wsX20 ++ wsX40 ++ wsX30 ++ (vx_atS RX4 54 "java/lang/IllegalArgumentException" ["java/lang/RuntimeException", "java/lang/Exception"]).filter goodWord ++ (vx_atS RX4 153 "java/lang/IndexOutOfBoundsException" ["java/lang/RuntimeException", "java/lang/Exception"]).filter goodWord)
def wsL_kindsOf_r1 : List Cond := [Cond.classLink RL 13 "java/lang/IndexOutOfBoundsException", Cond.methodLink RL 65 yX4_kindsOf, Cond.instanceMethod yX4_kindsOf, Cond.selects RX4 yX4_kindsOf yX4_kindsOf, Cond.initialized RX4, Cond.code yX4_kindsOf cX4_kindsOf 2 (some .int), Cond.methodLink RX4 118 yX4_checkModel, Cond.instanceMethod yX4_checkModel, Cond.selects RX4 yX4_checkModel yX4_checkModel, Cond.code yX4_checkModel cX4_checkModel 2 none, Cond.classLink RX4 149 "java/lang/IndexOutOfBoundsException", Cond.initialized "java/lang/IndexOutOfBoundsException", Cond.fieldLink RX4 25 "PaperGuild" "modelCount" "I", Cond.methodLink RX4 187 yX4_kindsCountedFor, Cond.instanceMethod yX4_kindsCountedFor, Cond.selects RX4 yX4_kindsCountedFor yX4_kindsCountedFor, Cond.code yX4_kindsCountedFor cX4_kindsCountedFor 5 (some .int), Cond.methodLink RX4 121 yX4_modelsCountedFor, Cond.instanceMethod yX4_modelsCountedFor, Cond.selects RX4 yX4_modelsCountedFor yX4_modelsCountedFor, Cond.code yX4_modelsCountedFor cX4_modelsCountedFor 2 (some .int), Cond.fieldLink RX4 22 "PaperGuild" "used" "[I", Cond.methodLink RX4 57 yX4_reached, Cond.static yX4_reached]
def wsL_kindsOf_r2 : List Cond := [Cond.code yX4_reached cX4_reached 6 (some .int), Cond.methodLink RX4 61 yX4_holds, Cond.static yX4_holds, Cond.code yX4_holds cX4_holds 2 (some .boolean), Cond.methodLink RX4 80 yX4_modelAt, Cond.instanceMethod yX4_modelAt, Cond.selects RX4 yX4_modelAt yX4_modelAt, Cond.code yX4_modelAt cX4_modelAt 3 (some (.object "PaperGuild$Model")), Cond.fieldLink RX4 18 "PaperGuild" "guildModels" "[LPaperGuild$Model;", Cond.methodLink RX4 100 yX2_ownKinds, Cond.instanceMethod yX2_ownKinds, Cond.selects RX2 yX2_ownKinds yX2_ownKinds, Cond.initialized RX2, Cond.code yX2_ownKinds cX2_ownKinds 3 (some .int), Cond.fieldLink RX2 22 "PaperGuild$Model" "stepCount" "I", Cond.fieldLink RX2 9 "PaperGuild$Model" "stepKinds" "[I"]
def wsL_kindsOf : List Cond := .codeWith yL_kindsOf cL_kindsOf 4 (some .int) [(0, 9, 12, 13)] :: ((wsL_kindsOf_r1 ++ wsL_kindsOf_r2) ++ wsX40 ++ wsX20 ++ (vx_atS RX4 153 "java/lang/IndexOutOfBoundsException" ["java/lang/RuntimeException", "java/lang/Exception"]).filter goodWord)
def wsL_mayFold_r1 : List Cond := [Cond.classLink RL 13 "java/lang/IndexOutOfBoundsException", Cond.methodLink RL 68 yX4_mayFold, Cond.instanceMethod yX4_mayFold, Cond.selects RX4 yX4_mayFold yX4_mayFold, Cond.initialized RX4, Cond.code yX4_mayFold cX4_mayFold 3 (some .boolean), Cond.fieldLink RX4 13 "PaperGuild" "known" "[I", Cond.methodLink RX4 136 yX4_checkPupil, Cond.instanceMethod yX4_checkPupil, Cond.selects RX4 yX4_checkPupil yX4_checkPupil, Cond.code yX4_checkPupil cX4_checkPupil 2 none, Cond.classLink RX4 149 "java/lang/IndexOutOfBoundsException", Cond.initialized "java/lang/IndexOutOfBoundsException", Cond.methodLink RX4 118 yX4_checkModel, Cond.instanceMethod yX4_checkModel, Cond.selects RX4 yX4_checkModel yX4_checkModel, Cond.code yX4_checkModel cX4_checkModel 2 none, Cond.fieldLink RX4 25 "PaperGuild" "modelCount" "I", Cond.methodLink RX4 187 yX4_kindsCountedFor, Cond.instanceMethod yX4_kindsCountedFor, Cond.selects RX4 yX4_kindsCountedFor yX4_kindsCountedFor, Cond.code yX4_kindsCountedFor cX4_kindsCountedFor 5 (some .int), Cond.methodLink RX4 121 yX4_modelsCountedFor, Cond.instanceMethod yX4_modelsCountedFor]
def wsL_mayFold_r2 : List Cond := [Cond.selects RX4 yX4_modelsCountedFor yX4_modelsCountedFor, Cond.code yX4_modelsCountedFor cX4_modelsCountedFor 2 (some .int), Cond.fieldLink RX4 22 "PaperGuild" "used" "[I", Cond.methodLink RX4 57 yX4_reached, Cond.static yX4_reached, Cond.code yX4_reached cX4_reached 6 (some .int), Cond.methodLink RX4 61 yX4_holds, Cond.static yX4_holds, Cond.code yX4_holds cX4_holds 2 (some .boolean), Cond.methodLink RX4 80 yX4_modelAt, Cond.instanceMethod yX4_modelAt, Cond.selects RX4 yX4_modelAt yX4_modelAt, Cond.code yX4_modelAt cX4_modelAt 3 (some (.object "PaperGuild$Model")), Cond.fieldLink RX4 18 "PaperGuild" "guildModels" "[LPaperGuild$Model;", Cond.methodLink RX4 100 yX2_ownKinds, Cond.instanceMethod yX2_ownKinds, Cond.selects RX2 yX2_ownKinds yX2_ownKinds, Cond.initialized RX2, Cond.code yX2_ownKinds cX2_ownKinds 3 (some .int), Cond.fieldLink RX2 22 "PaperGuild$Model" "stepCount" "I", Cond.fieldLink RX2 9 "PaperGuild$Model" "stepKinds" "[I", Cond.methodLink RX4 104 yX4_lacksAny, Cond.static yX4_lacksAny, Cond.code yX4_lacksAny cX4_lacksAny 2 (some .boolean)]
def wsL_mayFold : List Cond := .codeWith yL_mayFold cL_mayFold 5 (some .int) [(0, 17, 20, 13)] :: ((wsL_mayFold_r1 ++ wsL_mayFold_r2) ++ wsX40 ++ wsX20 ++ (vx_atS RX4 153 "java/lang/IndexOutOfBoundsException" ["java/lang/RuntimeException", "java/lang/Exception"]).filter goodWord)
def wsL_lessons_r1 : List Cond := [Cond.classLink RL 13 "java/lang/IndexOutOfBoundsException", Cond.methodLink RL 71 yX4_lessons, Cond.instanceMethod yX4_lessons, Cond.selects RX4 yX4_lessons yX4_lessons, Cond.initialized RX4, Cond.code yX4_lessons cX4_lessons 4 (some .int), Cond.fieldLink RX4 13 "PaperGuild" "known" "[I", Cond.fieldLink RX4 9 "PaperGuild" "needed" "[I", Cond.methodLink RX4 136 yX4_checkPupil, Cond.instanceMethod yX4_checkPupil, Cond.selects RX4 yX4_checkPupil yX4_checkPupil, Cond.code yX4_checkPupil cX4_checkPupil 2 none, Cond.classLink RX4 149 "java/lang/IndexOutOfBoundsException", Cond.initialized "java/lang/IndexOutOfBoundsException", Cond.methodLink RX4 118 yX4_checkModel, Cond.instanceMethod yX4_checkModel, Cond.selects RX4 yX4_checkModel yX4_checkModel, Cond.code yX4_checkModel cX4_checkModel 2 none, Cond.fieldLink RX4 25 "PaperGuild" "modelCount" "I", Cond.methodLink RX4 187 yX4_kindsCountedFor, Cond.instanceMethod yX4_kindsCountedFor, Cond.selects RX4 yX4_kindsCountedFor yX4_kindsCountedFor, Cond.code yX4_kindsCountedFor cX4_kindsCountedFor 5 (some .int), Cond.methodLink RX4 121 yX4_modelsCountedFor]
def wsL_lessons_r2 : List Cond := [Cond.instanceMethod yX4_modelsCountedFor, Cond.selects RX4 yX4_modelsCountedFor yX4_modelsCountedFor, Cond.code yX4_modelsCountedFor cX4_modelsCountedFor 2 (some .int), Cond.fieldLink RX4 22 "PaperGuild" "used" "[I", Cond.methodLink RX4 57 yX4_reached, Cond.static yX4_reached, Cond.code yX4_reached cX4_reached 6 (some .int), Cond.methodLink RX4 61 yX4_holds, Cond.static yX4_holds, Cond.code yX4_holds cX4_holds 2 (some .boolean), Cond.methodLink RX4 80 yX4_modelAt, Cond.instanceMethod yX4_modelAt, Cond.selects RX4 yX4_modelAt yX4_modelAt, Cond.code yX4_modelAt cX4_modelAt 3 (some (.object "PaperGuild$Model")), Cond.fieldLink RX4 18 "PaperGuild" "guildModels" "[LPaperGuild$Model;", Cond.methodLink RX4 100 yX2_ownKinds, Cond.instanceMethod yX2_ownKinds, Cond.selects RX2 yX2_ownKinds yX2_ownKinds, Cond.initialized RX2, Cond.code yX2_ownKinds cX2_ownKinds 3 (some .int), Cond.fieldLink RX2 22 "PaperGuild$Model" "stepCount" "I", Cond.fieldLink RX2 9 "PaperGuild$Model" "stepKinds" "[I", Cond.methodLink RX4 141 yJ6_bitCount_0f7a4, Cond.static yJ6_bitCount_0f7a4]
def wsL_lessons_r3 : List Cond := [Cond.initialized RJ6, Cond.code yJ6_bitCount_0f7a4 cJ6_bitCount_0f7a4 1 (some .int), Cond.constant RJ6 265 (1431655765), Cond.constant RJ6 266 (858993459), Cond.constant RJ6 267 (252645135)]
def wsL_lessons : List Cond := .codeWith yL_lessons cL_lessons 5 (some .int) [(0, 10, 13, 13)] :: ((wsL_lessons_r1 ++ (wsL_lessons_r2 ++ wsL_lessons_r3)) ++ wsX40 ++ wsX20 ++ (vx_atS RX4 153 "java/lang/IndexOutOfBoundsException" ["java/lang/RuntimeException", "java/lang/Exception"]).filter goodWord)
def wsL_credit_r1 : List Cond := [Cond.classLink RL 13 "java/lang/IndexOutOfBoundsException", Cond.methodLink RL 74 yX4_credit, Cond.instanceMethod yX4_credit, Cond.selects RX4 yX4_credit yX4_credit, Cond.initialized RX4, Cond.code yX4_credit cX4_credit 5 (some .int), Cond.fieldLink RX4 25 "PaperGuild" "modelCount" "I", Cond.methodLink RX4 67 yX4_checkAuthor, Cond.instanceMethod yX4_checkAuthor, Cond.selects RX4 yX4_checkAuthor yX4_checkAuthor, Cond.code yX4_checkAuthor cX4_checkAuthor 2 none, Cond.classLink RX4 149 "java/lang/IndexOutOfBoundsException", Cond.initialized "java/lang/IndexOutOfBoundsException", Cond.methodLink RX4 190 yX4_modelsOf, Cond.instanceMethod yX4_modelsOf, Cond.selects RX4 yX4_modelsOf yX4_modelsOf, Cond.code yX4_modelsOf cX4_modelsOf 4 (some .int), Cond.fieldLink RX4 212 "PaperGuild$Model" "author" "I", Cond.methodLink RX4 80 yX4_modelAt, Cond.instanceMethod yX4_modelAt, Cond.selects RX4 yX4_modelAt yX4_modelAt, Cond.code yX4_modelAt cX4_modelAt 3 (some (.object "PaperGuild$Model")), Cond.fieldLink RX4 18 "PaperGuild" "guildModels" "[LPaperGuild$Model;", Cond.methodLink RX4 118 yX4_checkModel]
def wsL_credit_r2 : List Cond := [Cond.instanceMethod yX4_checkModel, Cond.selects RX4 yX4_checkModel yX4_checkModel, Cond.code yX4_checkModel cX4_checkModel 2 none, Cond.methodLink RX4 61 yX4_holds, Cond.static yX4_holds, Cond.code yX4_holds cX4_holds 2 (some .boolean), Cond.methodLink RX4 121 yX4_modelsCountedFor, Cond.instanceMethod yX4_modelsCountedFor, Cond.selects RX4 yX4_modelsCountedFor yX4_modelsCountedFor, Cond.code yX4_modelsCountedFor cX4_modelsCountedFor 2 (some .int), Cond.fieldLink RX4 22 "PaperGuild" "used" "[I", Cond.methodLink RX4 57 yX4_reached, Cond.static yX4_reached, Cond.code yX4_reached cX4_reached 6 (some .int)]
def wsL_credit : List Cond := .codeWith yL_credit cL_credit 4 (some .int) [(0, 9, 12, 13)] :: ((wsL_credit_r1 ++ wsL_credit_r2) ++ wsX40 ++ wsX20 ++ (vx_atS RX4 153 "java/lang/IndexOutOfBoundsException" ["java/lang/RuntimeException", "java/lang/Exception"]).filter goodWord)
def wsL_law0_r1 : List Cond := [Cond.classLink RL 8 RX4, Cond.instantiable RX4 8, Cond.initialized RX4, Cond.classLink RL 78 RX5, Cond.instantiable RX5 20, Cond.initialized RX5, Cond.arrayClass .long, Cond.methodLink RL 77 yX4_init, Cond.instanceMethod yX4_init, Cond.code yX4_init cX4_init 1 none, Cond.methodLink RX4 1 objectInit, Cond.instanceMethod objectInit, Cond.code objectInit ⟨#[0xb1]⟩ 1 none, Cond.arrayClass .int, Cond.fieldLink RX4 9 "PaperGuild" "needed" "[I", Cond.fieldLink RX4 13 "PaperGuild" "known" "[I", Cond.classLink RX4 16 RX2, Cond.fieldLink RX4 18 "PaperGuild" "guildModels" "[LPaperGuild$Model;", Cond.fieldLink RX4 22 "PaperGuild" "used" "[I", Cond.fieldLink RX4 25 "PaperGuild" "modelCount" "I", Cond.classLink RX4 29 RX0, Cond.instantiable RX0 3, Cond.initialized RX0, Cond.fieldLink RX4 32 "PaperGuild" "follower" "LPaperGuild$Follower;"]
def wsL_law0_r2 : List Cond := [Cond.fieldLink RX4 36 "PaperGuild" "followedHeights" "[I", Cond.classLink RX4 39 RX1, Cond.instantiable RX1 4, Cond.initialized RX1, Cond.fieldLink RX4 42 "PaperGuild" "mill" "LPaperGuild$Mill;", Cond.instanceMethod yX0_init, Cond.code yX0_init cX0_init 1 none, Cond.methodLink RX0 1 objectInit, Cond.fieldLink RX0 7 "PaperGuild$Follower" "place" "I", Cond.fieldLink RX0 13 "PaperGuild$Follower" "turned" "Z", Cond.fieldLink RX0 17 "PaperGuild$Follower" "span" "I", Cond.instanceMethod yX1_init, Cond.code yX1_init cX1_init 1 none, Cond.methodLink RX1 3 objectInit, Cond.fieldLink RX1 9 "PaperGuild$Mill" "rollLength" "I", Cond.fieldLink RX1 15 "PaperGuild$Mill" "demanded" "I", Cond.fieldLink RX1 18 "PaperGuild$Mill" "fewest" "[I", Cond.fieldLink RX1 22 "PaperGuild$Mill" "waysTo" "[I", Cond.methodLink RL 80 yX5_init, Cond.instanceMethod yX5_init, Cond.code yX5_init cX5_init 1 none, Cond.methodLink RX5 1 objectInit, Cond.fieldLink RX5 7 "PaperGuildModel" "needs" "[I", Cond.fieldLink RX5 13 "PaperGuildModel" "authors" "[I"]
def wsL_law0_r3 : List Cond := [Cond.fieldLink RX5 16 "PaperGuildModel" "lengths" "[I", Cond.fieldLink RX5 19 "PaperGuildModel" "steps" "[I", Cond.fieldLink RX5 22 "PaperGuildModel" "uses" "[I", Cond.fieldLink RX5 25 "PaperGuildModel" "kinds" "[I", Cond.fieldLink RX5 28 "PaperGuildModel" "at" "[I", Cond.fieldLink RX5 31 "PaperGuildModel" "lefts" "[I", Cond.fieldLink RX5 34 "PaperGuildModel" "knows" "[I", Cond.fieldLink RX5 37 "PaperGuildModel" "places" "[I", Cond.fieldLink RX5 40 "PaperGuildModel" "heights" "[I", Cond.fieldLink RX5 43 "PaperGuildModel" "turns" "[I", Cond.fieldLink RX5 46 "PaperGuildModel" "many" "[I", Cond.fieldLink RX5 49 "PaperGuildModel" "cuts" "[I", Cond.methodLink RL 81 yL_setNeeds, Cond.static yL_setNeeds, Cond.initialized RL, Cond.codeWith yL_setNeeds cL_setNeeds 5 (some .int) [(0, 10, 13, 13), (0, 10, 17, 15)], Cond.classLink RL 13 "java/lang/IndexOutOfBoundsException", Cond.classLink RL 15 "java/lang/IllegalArgumentException", Cond.methodLink RL 7 yX4_setNeeds, Cond.instanceMethod yX4_setNeeds, Cond.selects RX4 yX4_setNeeds yX4_setNeeds, Cond.code yX4_setNeeds cX4_setNeeds 4 (some .int), Cond.classLink RX4 50 "java/lang/IllegalArgumentException", Cond.initialized "java/lang/IllegalArgumentException"]
def wsL_law0_r4 : List Cond := [Cond.methodLink RX4 46 yX4_checkKind, Cond.instanceMethod yX4_checkKind, Cond.selects RX4 yX4_checkKind yX4_checkKind, Cond.code yX4_checkKind cX4_checkKind 2 none, Cond.classLink RX4 149 "java/lang/IndexOutOfBoundsException", Cond.initialized "java/lang/IndexOutOfBoundsException", Cond.methodLink RX4 57 yX4_reached, Cond.static yX4_reached, Cond.code yX4_reached cX4_reached 6 (some .int), Cond.methodLink RX4 61 yX4_holds, Cond.static yX4_holds, Cond.code yX4_holds cX4_holds 2 (some .boolean), Cond.methodLink RL 86 yX5_setNeeds, Cond.instanceMethod yX5_setNeeds, Cond.selects RX5 yX5_setNeeds yX5_setNeeds, Cond.code yX5_setNeeds cX5_setNeeds 4 (some .int), Cond.fieldLink RX5 52 "PaperGuildModel" "thrown" "I", Cond.methodLink RX5 59 yX5_in, Cond.static yX5_in, Cond.code yX5_in cX5_in 3 (some .boolean), Cond.methodLink RX5 63 yX5_closed, Cond.instanceMethod yX5_closed, Cond.selects RX5 yX5_closed yX5_closed, Cond.code yX5_closed cX5_closed 5 (some .int)]
def wsL_law0_r5 : List Cond := [Cond.methodLink RX5 67 yX5_fails, Cond.instanceMethod yX5_fails, Cond.selects RX5 yX5_fails yX5_fails, Cond.code yX5_fails cX5_fails 2 (some .int), Cond.methodLink RL 87 yX5_thrown, Cond.instanceMethod yX5_thrown, Cond.selects RX5 yX5_thrown yX5_thrown, Cond.code yX5_thrown cX5_thrown 1 (some .int), Cond.methodLink RL 91 yL_addModel, Cond.static yL_addModel, Cond.codeWith yL_addModel cL_addModel 5 (some .int) [(0, 10, 13, 13), (0, 10, 17, 15), (0, 10, 21, 20)], Cond.classLink RL 20 "java/lang/IllegalStateException", Cond.methodLink RL 17 yX4_addModel, Cond.instanceMethod yX4_addModel, Cond.selects RX4 yX4_addModel yX4_addModel, Cond.code yX4_addModel cX4_addModel 3 (some .int), Cond.classLink RX4 72 "java/lang/IllegalStateException", Cond.initialized "java/lang/IllegalStateException", Cond.instantiable RX2 7, Cond.initialized RX2, Cond.methodLink RX4 67 yX4_checkAuthor, Cond.instanceMethod yX4_checkAuthor, Cond.selects RX4 yX4_checkAuthor yX4_checkAuthor, Cond.code yX4_checkAuthor cX4_checkAuthor 2 none]
def wsL_law0_r6 : List Cond := [Cond.methodLink RX4 77 yX2_init, Cond.instanceMethod yX2_init, Cond.code yX2_init cX2_init 3 none, Cond.methodLink RX2 3 objectInit, Cond.fieldLink RX2 9 "PaperGuild$Model" "stepKinds" "[I", Cond.fieldLink RX2 15 "PaperGuild$Model" "stepPlaces" "[I", Cond.arrayClass .boolean, Cond.fieldLink RX2 18 "PaperGuild$Model" "stepsFromLeft" "[Z", Cond.fieldLink RX2 22 "PaperGuild$Model" "stepCount" "I", Cond.fieldLink RX2 26 "PaperGuild$Model" "author" "I", Cond.fieldLink RX2 29 "PaperGuild$Model" "length" "I", Cond.classLink RX2 32 RX3, Cond.instantiable RX3 6, Cond.initialized RX3, Cond.fieldLink RX2 35 "PaperGuild$Model" "stacks" "LPaperGuild$Stacks;", Cond.instanceMethod yX3_init, Cond.code yX3_init cX3_init 1 none, Cond.methodLink RX3 3 objectInit, Cond.fieldLink RX3 9 "PaperGuild$Stacks" "cells" "[I", Cond.fieldLink RX3 15 "PaperGuild$Stacks" "starts" "[I", Cond.fieldLink RX3 18 "PaperGuild$Stacks" "nextCells" "[I", Cond.fieldLink RX3 21 "PaperGuild$Stacks" "nextStarts" "[I", Cond.fieldLink RX3 24 "PaperGuild$Stacks" "filled" "I", Cond.fieldLink RX3 28 "PaperGuild$Stacks" "span" "I"]
def wsL_law0_r7 : List Cond := [Cond.methodLink RX2 39 yX3_layFlat, Cond.instanceMethod yX3_layFlat, Cond.selects RX3 yX3_layFlat yX3_layFlat, Cond.code yX3_layFlat cX3_layFlat 3 none, Cond.methodLink RX3 31 Lib.Math.min.name, Cond.static Lib.Math.min.name, Cond.initialized "java/lang/Math", Cond.code Lib.Math.min.name Lib.Math.min.code 2 (some .int), Cond.methodLink RX3 37 Lib.Math.max.name, Cond.static Lib.Math.max.name, Cond.code Lib.Math.max.name Lib.Math.max.code 2 (some .int), Cond.methodLink RL 93 yX5_addModel, Cond.instanceMethod yX5_addModel, Cond.selects RX5 yX5_addModel yX5_addModel, Cond.code yX5_addModel cX5_addModel 3 (some .int), Cond.fieldLink RX5 56 "PaperGuildModel" "models" "I", Cond.methodLink RL 94 yL_fold, Cond.static yL_fold, Cond.codeWith yL_fold cL_fold 7 (some .int) [(0, 14, 17, 13), (0, 14, 21, 15), (0, 14, 25, 20)], Cond.methodLink RL 22 yX4_fold, Cond.instanceMethod yX4_fold, Cond.selects RX4 yX4_fold yX4_fold, Cond.code yX4_fold cX4_fold 6 (some .int), Cond.fieldLink RX4 84 "PaperGuild$Model" "stacks" "LPaperGuild$Stacks;"]
def wsL_law0_r8 : List Cond := [Cond.fieldLink RX4 88 "PaperGuild$Stacks" "span" "I", Cond.fieldLink RX4 95 "PaperGuild$Model" "stepCount" "I", Cond.methodLink RX4 80 yX4_modelAt, Cond.instanceMethod yX4_modelAt, Cond.selects RX4 yX4_modelAt yX4_modelAt, Cond.code yX4_modelAt cX4_modelAt 3 (some (.object "PaperGuild$Model")), Cond.methodLink RX4 118 yX4_checkModel, Cond.instanceMethod yX4_checkModel, Cond.selects RX4 yX4_checkModel yX4_checkModel, Cond.code yX4_checkModel cX4_checkModel 2 none, Cond.methodLink RX4 100 yX2_ownKinds, Cond.instanceMethod yX2_ownKinds, Cond.selects RX2 yX2_ownKinds yX2_ownKinds, Cond.code yX2_ownKinds cX2_ownKinds 3 (some .int), Cond.methodLink RX4 104 yX4_lacksAny, Cond.static yX4_lacksAny, Cond.code yX4_lacksAny cX4_lacksAny 2 (some .boolean), Cond.methodLink RX4 109 yX2_addStep, Cond.instanceMethod yX2_addStep, Cond.selects RX2 yX2_addStep yX2_addStep, Cond.code yX2_addStep cX2_addStep 4 none, Cond.methodLink RX2 43 yX3_turnOver, Cond.instanceMethod yX3_turnOver, Cond.selects RX3 yX3_turnOver yX3_turnOver]
def wsL_law0_r9 : List Cond := [Cond.code yX3_turnOver cX3_turnOver 7 none, Cond.methodLink RX3 40 yX3_copyUpwards, Cond.instanceMethod yX3_copyUpwards, Cond.selects RX3 yX3_copyUpwards yX3_copyUpwards, Cond.code yX3_copyUpwards cX3_copyUpwards 4 none, Cond.methodLink RX3 54 yX3_heightAt, Cond.instanceMethod yX3_heightAt, Cond.selects RX3 yX3_heightAt yX3_heightAt, Cond.code yX3_heightAt cX3_heightAt 2 (some .int), Cond.methodLink RX3 50 yX3_isPlace, Cond.instanceMethod yX3_isPlace, Cond.selects RX3 yX3_isPlace yX3_isPlace, Cond.code yX3_isPlace cX3_isPlace 2 (some .boolean), Cond.methodLink RX3 58 yX3_copyCell, Cond.instanceMethod yX3_copyCell, Cond.selects RX3 yX3_copyCell yX3_copyCell, Cond.code yX3_copyCell cX3_copyCell 3 none, Cond.methodLink RX3 62 yX3_cellIn, Cond.instanceMethod yX3_cellIn, Cond.selects RX3 yX3_cellIn yX3_cellIn, Cond.code yX3_cellIn cX3_cellIn 3 (some .int), Cond.methodLink RX3 44 yX3_copyDownwards, Cond.instanceMethod yX3_copyDownwards, Cond.selects RX3 yX3_copyDownwards yX3_copyDownwards]
def wsL_law0_r10 : List Cond := [Cond.code yX3_copyDownwards cX3_copyDownwards 3 none, Cond.methodLink RX3 47 yX3_swapRows, Cond.instanceMethod yX3_swapRows, Cond.selects RX3 yX3_swapRows yX3_swapRows, Cond.code yX3_swapRows cX3_swapRows 3 none, Cond.methodLink RL 97 yX5_fold, Cond.instanceMethod yX5_fold, Cond.selects RX5 yX5_fold yX5_fold, Cond.code yX5_fold cX5_fold 6 (some .int), Cond.fieldLink RX5 73 "PaperGuildModel" "size" "I", Cond.methodLink RX5 84 yX5_folds, Cond.instanceMethod yX5_folds, Cond.selects RX5 yX5_folds yX5_folds, Cond.code yX5_folds cX5_folds 4 none, Cond.fieldLink RX5 70 "PaperGuildModel" "most" "I", Cond.methodLink RX5 76 yX5_counts, Cond.instanceMethod yX5_counts, Cond.selects RX5 yX5_counts yX5_counts, Cond.code yX5_counts cX5_counts 3 none, Cond.methodLink RX5 80 yX5_makes, Cond.instanceMethod yX5_makes, Cond.selects RX5 yX5_makes yX5_makes, Cond.code yX5_makes cX5_makes 10 none, Cond.methodLink RX5 87 yX5_ownKinds]
def wsL_law0_r11 : List Cond := [Cond.instanceMethod yX5_ownKinds, Cond.selects RX5 yX5_ownKinds yX5_ownKinds, Cond.code yX5_ownKinds cX5_ownKinds 4 (some .int), Cond.methodLink RL 98 yL_unfold, Cond.static yL_unfold, Cond.codeWith yL_unfold cL_unfold 4 (some .int) [(0, 9, 12, 13), (0, 9, 15, 20)], Cond.methodLink RL 26 yX4_unfold, Cond.instanceMethod yX4_unfold, Cond.selects RX4 yX4_unfold yX4_unfold, Cond.code yX4_unfold cX4_unfold 3 (some .int), Cond.methodLink RX4 115 yX2_removeLastStep, Cond.instanceMethod yX2_removeLastStep, Cond.selects RX2 yX2_removeLastStep yX2_removeLastStep, Cond.code yX2_removeLastStep cX2_removeLastStep 2 (some .int), Cond.methodLink RL 101 yX5_unfold, Cond.instanceMethod yX5_unfold, Cond.selects RX5 yX5_unfold yX5_unfold, Cond.code yX5_unfold cX5_unfold 2 (some .int), Cond.methodLink RX5 90 yX5_isModel, Cond.instanceMethod yX5_isModel, Cond.selects RX5 yX5_isModel yX5_isModel, Cond.code yX5_isModel cX5_isModel 2 (some .boolean), Cond.methodLink RL 102 yL_use, Cond.static yL_use]
def wsL_law0_r12 : List Cond := [Cond.codeWith yL_use cL_use 5 (some .int) [(0, 17, 20, 13), (0, 17, 24, 15)], Cond.methodLink RL 30 yX4_use, Cond.instanceMethod yX4_use, Cond.selects RX4 yX4_use yX4_use, Cond.code yX4_use cX4_use 4 (some .boolean), Cond.methodLink RX4 121 yX4_modelsCountedFor, Cond.instanceMethod yX4_modelsCountedFor, Cond.selects RX4 yX4_modelsCountedFor yX4_modelsCountedFor, Cond.code yX4_modelsCountedFor cX4_modelsCountedFor 2 (some .int), Cond.methodLink RL 104 yX5_use, Cond.instanceMethod yX5_use, Cond.selects RX5 yX5_use yX5_use, Cond.code yX5_use cX5_use 4 (some .boolean), Cond.methodLink RX5 94 yX5_used, Cond.instanceMethod yX5_used, Cond.selects RX5 yX5_used yX5_used, Cond.code yX5_used cX5_used 5 (some .int), Cond.methodLink RL 105 yL_setRoll, Cond.static yL_setRoll, Cond.codeWith yL_setRoll cL_setRoll 5 (some .int) [(0, 10, 13, 15)], Cond.methodLink RL 34 yX4_setRoll, Cond.instanceMethod yX4_setRoll, Cond.selects RX4 yX4_setRoll yX4_setRoll, Cond.code yX4_setRoll cX4_setRoll 4 (some .int)]
def wsL_law0_r13 : List Cond := [Cond.constant RX4 127 (1048575), Cond.fieldLink RX4 130 "PaperGuild$Mill" "rollLength" "I", Cond.fieldLink RX4 133 "PaperGuild$Mill" "demanded" "I", Cond.methodLink RL 107 yX5_setRoll, Cond.instanceMethod yX5_setRoll, Cond.selects RX5 yX5_setRoll yX5_setRoll, Cond.code yX5_setRoll cX5_setRoll 4 (some .int), Cond.constant RX5 97 (1048575), Cond.fieldLink RX5 98 "PaperGuildModel" "roll" "I", Cond.fieldLink RX5 101 "PaperGuildModel" "demand" "I", Cond.methodLink RL 108 yL_teach, Cond.static yL_teach, Cond.codeWith yL_teach cL_teach 5 (some .int) [(0, 10, 13, 13), (0, 10, 17, 20)], Cond.methodLink RL 37 yX4_teach, Cond.instanceMethod yX4_teach, Cond.selects RX4 yX4_teach yX4_teach, Cond.code yX4_teach cX4_teach 3 (some .int), Cond.methodLink RX4 136 yX4_checkPupil, Cond.instanceMethod yX4_checkPupil, Cond.selects RX4 yX4_checkPupil yX4_checkPupil, Cond.code yX4_checkPupil cX4_checkPupil 2 none, Cond.methodLink RX4 141 yJ6_bitCount_0f7a4, Cond.static yJ6_bitCount_0f7a4, Cond.initialized RJ6]
def wsL_law0_r14 : List Cond := [Cond.code yJ6_bitCount_0f7a4 cJ6_bitCount_0f7a4 1 (some .int), Cond.constant RJ6 265 (1431655765), Cond.constant RJ6 266 (858993459), Cond.constant RJ6 267 (252645135), Cond.methodLink RL 110 yX5_teach, Cond.instanceMethod yX5_teach, Cond.selects RX5 yX5_teach yX5_teach, Cond.code yX5_teach cX5_teach 3 (some .int), Cond.methodLink RX5 104 yX5_bits, Cond.static yX5_bits, Cond.code yX5_bits cX5_bits 3 (some .int), Cond.methodLink RL 111 yX4_models, Cond.instanceMethod yX4_models, Cond.selects RX4 yX4_models yX4_models, Cond.code yX4_models cX4_models 1 (some .int), Cond.methodLink RL 114 yX5_models, Cond.instanceMethod yX5_models, Cond.selects RX5 yX5_models yX5_models, Cond.code yX5_models cX5_models 1 (some .int), Cond.methodLink RL 115 yL_steps, Cond.static yL_steps, Cond.codeWith yL_steps cL_steps 4 (some .int) [(0, 9, 12, 13)], Cond.methodLink RL 40 yX4_steps, Cond.instanceMethod yX4_steps]
def wsL_law0_r15 : List Cond := [Cond.selects RX4 yX4_steps yX4_steps, Cond.code yX4_steps cX4_steps 2 (some .int), Cond.methodLink RL 117 yX5_steps, Cond.instanceMethod yX5_steps, Cond.selects RX5 yX5_steps yX5_steps, Cond.code yX5_steps cX5_steps 2 (some .int), Cond.methodLink RL 118 yL_places, Cond.static yL_places, Cond.codeWith yL_places cL_places 4 (some .int) [(0, 9, 12, 13)], Cond.methodLink RL 43 yX4_places, Cond.instanceMethod yX4_places, Cond.selects RX4 yX4_places yX4_places, Cond.code yX4_places cX4_places 2 (some .int), Cond.methodLink RL 120 yX5_places, Cond.instanceMethod yX5_places, Cond.selects RX5 yX5_places yX5_places, Cond.code yX5_places cX5_places 2 (some .int), Cond.methodLink RL 121 yL_layers, Cond.static yL_layers, Cond.codeWith yL_layers cL_layers 4 (some .int) [(0, 9, 12, 13)], Cond.methodLink RL 46 yX4_layers, Cond.instanceMethod yX4_layers, Cond.selects RX4 yX4_layers yX4_layers, Cond.code yX4_layers cX4_layers 2 (some .int)]
def wsL_law0_r16 : List Cond := [Cond.methodLink RX4 146 yX3_greatestHeight, Cond.instanceMethod yX3_greatestHeight, Cond.selects RX3 yX3_greatestHeight yX3_greatestHeight, Cond.code yX3_greatestHeight cX3_greatestHeight 3 (some .int), Cond.methodLink RL 123 yX5_layers, Cond.instanceMethod yX5_layers, Cond.selects RX5 yX5_layers yX5_layers, Cond.code yX5_layers cX5_layers 2 (some .int), Cond.methodLink RX5 107 yX5_layersOf, Cond.instanceMethod yX5_layersOf, Cond.selects RX5 yX5_layersOf yX5_layersOf, Cond.code yX5_layersOf cX5_layersOf 4 (some .int), Cond.methodLink RL 124 yL_cellAt, Cond.static yL_cellAt, Cond.codeWith yL_cellAt cL_cellAt 6 (some .int) [(0, 12, 15, 13)], Cond.methodLink RL 49 yX4_cellAt, Cond.instanceMethod yX4_cellAt, Cond.selects RX4 yX4_cellAt yX4_cellAt, Cond.code yX4_cellAt cX4_cellAt 5 (some .int), Cond.methodLink RX4 154 yX3_heightAt, Cond.methodLink RX4 159 yX3_cellIn, Cond.methodLink RL 127 yX5_cellAt, Cond.instanceMethod yX5_cellAt, Cond.selects RX5 yX5_cellAt yX5_cellAt]
def wsL_law0_r17 : List Cond := [Cond.code yX5_cellAt cX5_cellAt 5 (some .int), Cond.methodLink RL 128 yL_placeOf, Cond.static yL_placeOf, Cond.codeWith yL_placeOf cL_placeOf 5 (some .int) [(0, 10, 13, 13)], Cond.methodLink RL 53 yX4_placeOf, Cond.instanceMethod yX4_placeOf, Cond.selects RX4 yX4_placeOf yX4_placeOf, Cond.code yX4_placeOf cX4_placeOf 4 (some .int), Cond.fieldLink RX4 170 "PaperGuild$Follower" "place" "I", Cond.methodLink RX4 163 yX4_checkCell, Cond.instanceMethod yX4_checkCell, Cond.selects RX4 yX4_checkCell yX4_checkCell, Cond.code yX4_checkCell cX4_checkCell 3 none, Cond.fieldLink RX4 177 "PaperGuild$Model" "length" "I", Cond.methodLink RX4 167 yX0_follow, Cond.instanceMethod yX0_follow, Cond.selects RX0 yX0_follow yX0_follow, Cond.code yX0_follow cX0_follow 4 none, Cond.fieldLink RX0 20 "PaperGuild$Model" "length" "I", Cond.fieldLink RX0 25 "PaperGuild$Model" "stepCount" "I", Cond.fieldLink RX0 28 "PaperGuild$Model" "stepPlaces" "[I", Cond.fieldLink RX0 32 "PaperGuild$Model" "stepsFromLeft" "[Z", Cond.methodLink RX0 36 yX0_takeStep, Cond.instanceMethod yX0_takeStep]
def wsL_law0_r18 : List Cond := [Cond.selects RX0 yX0_takeStep yX0_takeStep, Cond.code yX0_takeStep cX0_takeStep 5 none, Cond.methodLink RX0 40 Lib.Math.min.name, Cond.methodLink RX0 46 Lib.Math.max.name, Cond.methodLink RL 130 yX5_placeOf, Cond.instanceMethod yX5_placeOf, Cond.selects RX5 yX5_placeOf yX5_placeOf, Cond.code yX5_placeOf cX5_placeOf 3 (some .int), Cond.methodLink RX5 110 yX5_isCell, Cond.instanceMethod yX5_isCell, Cond.selects RX5 yX5_isCell yX5_isCell, Cond.code yX5_isCell cX5_isCell 3 (some .boolean), Cond.methodLink RL 131 yL_isTurned, Cond.static yL_isTurned, Cond.codeWith yL_isTurned cL_isTurned 5 (some .int) [(0, 17, 20, 13)], Cond.methodLink RL 56 yX4_isTurned, Cond.instanceMethod yX4_isTurned, Cond.selects RX4 yX4_isTurned yX4_isTurned, Cond.code yX4_isTurned cX4_isTurned 4 (some .boolean), Cond.fieldLink RX4 173 "PaperGuild$Follower" "turned" "Z", Cond.methodLink RL 133 yX5_isTurned, Cond.instanceMethod yX5_isTurned, Cond.selects RX5 yX5_isTurned yX5_isTurned, Cond.code yX5_isTurned cX5_isTurned 3 (some .boolean)]
def wsL_law0_r19 : List Cond := [Cond.methodLink RL 134 yL_layersByFollowing, Cond.static yL_layersByFollowing, Cond.codeWith yL_layersByFollowing cL_layersByFollowing 4 (some .int) [(0, 9, 12, 13)], Cond.methodLink RL 59 yX4_layersByFollowing, Cond.instanceMethod yX4_layersByFollowing, Cond.selects RX4 yX4_layersByFollowing yX4_layersByFollowing, Cond.code yX4_layersByFollowing cX4_layersByFollowing 6 (some .int), Cond.methodLink RX4 180 Lib.Math.max.name, Cond.methodLink RL 136 yX5_layersByFollowing, Cond.instanceMethod yX5_layersByFollowing, Cond.selects RX5 yX5_layersByFollowing yX5_layersByFollowing, Cond.code yX5_layersByFollowing cX5_layersByFollowing 2 (some .int), Cond.methodLink RL 137 yL_bears, Cond.static yL_bears, Cond.codeWith yL_bears cL_bears 5 (some .int) [(0, 17, 20, 13), (0, 17, 24, 15)], Cond.methodLink RL 62 yX4_bears, Cond.instanceMethod yX4_bears, Cond.selects RX4 yX4_bears yX4_bears, Cond.code yX4_bears cX4_bears 5 (some .boolean), Cond.methodLink RL 139 yX5_bears, Cond.instanceMethod yX5_bears, Cond.selects RX5 yX5_bears yX5_bears, Cond.code yX5_bears cX5_bears 4 (some .boolean), Cond.methodLink RL 140 yL_kindsOf]
def wsL_law0_r20 : List Cond := [Cond.static yL_kindsOf, Cond.codeWith yL_kindsOf cL_kindsOf 4 (some .int) [(0, 9, 12, 13)], Cond.methodLink RL 65 yX4_kindsOf, Cond.instanceMethod yX4_kindsOf, Cond.selects RX4 yX4_kindsOf yX4_kindsOf, Cond.code yX4_kindsOf cX4_kindsOf 2 (some .int), Cond.methodLink RX4 187 yX4_kindsCountedFor, Cond.instanceMethod yX4_kindsCountedFor, Cond.selects RX4 yX4_kindsCountedFor yX4_kindsCountedFor, Cond.code yX4_kindsCountedFor cX4_kindsCountedFor 5 (some .int), Cond.methodLink RL 142 yX5_kindsOf, Cond.instanceMethod yX5_kindsOf, Cond.selects RX5 yX5_kindsOf yX5_kindsOf, Cond.code yX5_kindsOf cX5_kindsOf 2 (some .int), Cond.methodLink RX5 114 yX5_kindsFor, Cond.instanceMethod yX5_kindsFor, Cond.selects RX5 yX5_kindsFor yX5_kindsFor, Cond.code yX5_kindsFor cX5_kindsFor 4 (some .int), Cond.methodLink RL 143 yL_mayFold, Cond.static yL_mayFold, Cond.codeWith yL_mayFold cL_mayFold 5 (some .int) [(0, 17, 20, 13)], Cond.methodLink RL 68 yX4_mayFold, Cond.instanceMethod yX4_mayFold, Cond.selects RX4 yX4_mayFold yX4_mayFold]
def wsL_law0_r21 : List Cond := [Cond.code yX4_mayFold cX4_mayFold 3 (some .boolean), Cond.methodLink RL 145 yX5_mayFold, Cond.instanceMethod yX5_mayFold, Cond.selects RX5 yX5_mayFold yX5_mayFold, Cond.code yX5_mayFold cX5_mayFold 3 (some .boolean), Cond.methodLink RX5 117 yX5_isExam, Cond.instanceMethod yX5_isExam, Cond.selects RX5 yX5_isExam yX5_isExam, Cond.code yX5_isExam cX5_isExam 3 (some .boolean), Cond.methodLink RL 146 yL_lessons, Cond.static yL_lessons, Cond.codeWith yL_lessons cL_lessons 5 (some .int) [(0, 10, 13, 13)], Cond.methodLink RL 71 yX4_lessons, Cond.instanceMethod yX4_lessons, Cond.selects RX4 yX4_lessons yX4_lessons, Cond.code yX4_lessons cX4_lessons 4 (some .int), Cond.methodLink RL 148 yX5_lessons, Cond.instanceMethod yX5_lessons, Cond.selects RX5 yX5_lessons yX5_lessons, Cond.code yX5_lessons cX5_lessons 6 (some .int), Cond.methodLink RL 149 yL_credit, Cond.static yL_credit, Cond.codeWith yL_credit cL_credit 4 (some .int) [(0, 9, 12, 13)], Cond.methodLink RL 74 yX4_credit]
def wsL_law0_r22 : List Cond := [Cond.instanceMethod yX4_credit, Cond.selects RX4 yX4_credit yX4_credit, Cond.code yX4_credit cX4_credit 5 (some .int), Cond.methodLink RX4 190 yX4_modelsOf, Cond.instanceMethod yX4_modelsOf, Cond.selects RX4 yX4_modelsOf yX4_modelsOf, Cond.code yX4_modelsOf cX4_modelsOf 4 (some .int), Cond.fieldLink RX4 212 "PaperGuild$Model" "author" "I", Cond.methodLink RL 151 yX5_credit, Cond.instanceMethod yX5_credit, Cond.selects RX5 yX5_credit yX5_credit, Cond.code yX5_credit cX5_credit 6 (some .int), Cond.methodLink RL 152 yX4_fewestPieces, Cond.instanceMethod yX4_fewestPieces, Cond.selects RX4 yX4_fewestPieces yX4_fewestPieces, Cond.code yX4_fewestPieces cX4_fewestPieces 1 (some .int), Cond.methodLink RX4 193 yX1_fewestForRoll, Cond.instanceMethod yX1_fewestForRoll, Cond.selects RX1 yX1_fewestForRoll yX1_fewestForRoll, Cond.code yX1_fewestForRoll cX1_fewestForRoll 1 (some .int), Cond.methodLink RX1 25 yX1_fillFewest, Cond.instanceMethod yX1_fillFewest, Cond.selects RX1 yX1_fillFewest yX1_fillFewest, Cond.code yX1_fillFewest cX1_fillFewest 2 none]
def wsL_law0_r23 : List Cond := [Cond.methodLink RX1 37 yX1_fewestFor, Cond.instanceMethod yX1_fewestFor, Cond.selects RX1 yX1_fewestFor yX1_fewestFor, Cond.code yX1_fewestFor cX1_fewestFor 5 (some .int), Cond.methodLink RX1 28 yX1_isDemanded, Cond.instanceMethod yX1_isDemanded, Cond.selects RX1 yX1_isDemanded yX1_isDemanded, Cond.code yX1_isDemanded cX1_isDemanded 2 (some .boolean), Cond.methodLink RL 155 yX5_fewestPieces, Cond.instanceMethod yX5_fewestPieces, Cond.selects RX5 yX5_fewestPieces yX5_fewestPieces, Cond.code yX5_fewestPieces cX5_fewestPieces 1 (some .int), Cond.methodLink RX5 120 yX5_fewest, Cond.instanceMethod yX5_fewest, Cond.selects RX5 yX5_fewest yX5_fewest, Cond.code yX5_fewest cX5_fewest 4 none, Cond.methodLink RL 156 yX4_ways, Cond.instanceMethod yX4_ways, Cond.selects RX4 yX4_ways yX4_ways, Cond.code yX4_ways cX4_ways 1 (some .int), Cond.methodLink RX4 196 yX1_waysForRoll, Cond.instanceMethod yX1_waysForRoll, Cond.selects RX1 yX1_waysForRoll yX1_waysForRoll, Cond.code yX1_waysForRoll cX1_waysForRoll 2 (some .int)]
def wsL_law0_r24 : List Cond := [Cond.methodLink RX1 32 yX1_addWaysWith, Cond.instanceMethod yX1_addWaysWith, Cond.selects RX1 yX1_addWaysWith yX1_addWaysWith, Cond.code yX1_addWaysWith cX1_addWaysWith 3 none, Cond.constant RX1 36 (1000007), Cond.methodLink RL 159 yX5_ways, Cond.instanceMethod yX5_ways, Cond.selects RX5 yX5_ways yX5_ways, Cond.code yX5_ways cX5_ways 3 (some .int), Cond.constant RX5 123 (1000007), Cond.methodLink RL 160 yX4_leastRest, Cond.instanceMethod yX4_leastRest, Cond.selects RX4 yX4_leastRest yX4_leastRest, Cond.code yX4_leastRest cX4_leastRest 1 (some .int), Cond.methodLink RX4 199 yX1_restOfRoll, Cond.instanceMethod yX1_restOfRoll, Cond.selects RX1 yX1_restOfRoll yX1_restOfRoll, Cond.code yX1_restOfRoll cX1_restOfRoll 2 (some .int), Cond.methodLink RL 163 yX5_leastRest, Cond.instanceMethod yX5_leastRest, Cond.selects RX5 yX5_leastRest yX5_leastRest, Cond.code yX5_leastRest cX5_leastRest 2 (some .int)]
def wsL_law0 : List Cond := (wsL_law0_r1 ++ (wsL_law0_r2 ++ (wsL_law0_r3 ++ (wsL_law0_r4 ++ (wsL_law0_r5 ++ (wsL_law0_r6 ++ (wsL_law0_r7 ++ (wsL_law0_r8 ++ (wsL_law0_r9 ++ (wsL_law0_r10 ++ (wsL_law0_r11 ++ (wsL_law0_r12 ++ (wsL_law0_r13 ++ (wsL_law0_r14 ++ (wsL_law0_r15 ++ (wsL_law0_r16 ++ (wsL_law0_r17 ++ (wsL_law0_r18 ++ (wsL_law0_r19 ++ (wsL_law0_r20 ++ (wsL_law0_r21 ++ (wsL_law0_r22 ++ (wsL_law0_r23 ++ wsL_law0_r24))))))))))))))))))))))) ++ wsX40 ++ wsX50 ++ wsX00 ++ wsX10 ++ wsX20 ++ wsX30 ++ ([] : List Cond)
def wsL_law : List Cond := wsL_law0 ++ (vx_atS RX4 54 "java/lang/IllegalArgumentException" ["java/lang/RuntimeException", "java/lang/Exception"]).filter goodWord ++ (vx_atS RX4 153 "java/lang/IndexOutOfBoundsException" ["java/lang/RuntimeException", "java/lang/Exception"]).filter goodWord ++ (vx_atS RX4 76 "java/lang/IllegalStateException" ["java/lang/RuntimeException", "java/lang/Exception"]).filter goodWord
theorem inJ6 : ∀ w ∈ wsJ60, w ∈ lw_tbl := by decide +kernel
theorem inJ9 : ∀ w ∈ wsJ90, w ∈ lw_tbl := by decide +kernel
theorem inJ0 : ∀ w ∈ wsJ00, w ∈ lw_tbl := by decide +kernel
abbrev vwCl : List vw_C := [(RX0, TX0, 3), (RX1, TX1, 4), (RX2, TX2, 7), (RX3, TX3, 6), (RX4, TX4, 8), (RX5, TX5, 20)]
end
section
/-! THE LAYER: the machine's W over a list of cells (the world), a list of locals and a stack alone. zG E Q cells slots ws lv pc st: from any heap that holds the world ws and any locals that hold lv, the frame at pc with the stack st comes to Q. -/
abbrev zE : Type := Program × Launch × Env × Room × State × MethodId × Array Value × List Frame × Method × Code × va_G × List (ClassId × FieldType) × (Nat → Prop) × Nat
/-- the locals, slot by slot; none: not known. Values of one slot alone. -/
def zL (nL : Nat) (ls : Array Slot) (lv : List (Option Value)) : Prop := lv.length = nL ∧ ∃ l : List (Nat × Value), lv_has ls nL l ∧ ∀ (i : Nat) (v : Value), lv[i]? = some (some v) → (i, v) ∈ l ∧ v.category = 1
theorem zL.at {nL : Nat} {ls : Array Slot} {lv : List (Option Value)} (h : zL nL ls lv) {i : Nat} {v : Value} (hi : lv[i]? = some (some v)) : ls[i]? = some (.val v) := by
  obtain ⟨-, l, h1, h2⟩ := h
  exact h1.2.2 (i, v) (h2 i v hi).1
theorem zL.size {nL : Nat} {ls : Array Slot} {lv : List (Option Value)} (h : zL nL ls lv) : ls.size = nL := by
  obtain ⟨-, l, h1, -⟩ := h
  exact h1.1
theorem zL.set {nL : Nat} {ls : Array Slot} {lv : List (Option Value)} {i : Nat} {v : Value} (h2 : ∀ (i : Nat) (v : Value), lv[i]? = some (some v) → v.category = 1) (hlen : lv.length = nL) (hv : v.category = 1) {l : List (Nat × Value)} (hl : ∀ (i : Nat) (v : Value), lv[i]? = some (some v) → (i, v) ∈ l) (h : lv_has ls nL ((i, v) :: l.filter (fun q => !(q.1 == i) && !(q.1 + 1 == i && q.2.category == 2)))) : zL nL ls (lv.set i (some v)) := by
  refine ⟨by rw [List.length_set]; exact hlen, _, h, fun j w hj => ?_⟩
  by_cases hji : i = j
  · subst hji
    rw [List.getElem?_set] at hj
    by_cases hlt : i < lv.length
    · simp [hlt] at hj
      subst hj
      exact ⟨List.mem_cons_self, hv⟩
    · simp [hlt] at hj
  · rw [List.getElem?_set_ne hji] at hj
    have hc := h2 j w hj
    refine ⟨List.mem_cons_of_mem _ (List.mem_filter.mpr ⟨hl j w hj, ?_⟩), hc⟩
    have : j ≠ i := fun q => hji q.symm
    simp [this, hc]
/-- fewer locals are known -/
def zLe : List (Option Value) → List (Option Value) → Prop
  | [], [] => True
  | a :: l, b :: r => (b = none ∨ b = a) ∧ zLe l r
  | _, _ => False
theorem zLe.len : ∀ {l r : List (Option Value)}, zLe l r → r.length = l.length
  | [], [], _ => rfl
  | _ :: _, _ :: _, h => by rw [List.length_cons, List.length_cons, zLe.len h.2]
theorem zLe.get : ∀ {l r : List (Option Value)}, zLe l r → ∀ {i : Nat} {v : Value}, r[i]? = some (some v) → l[i]? = some (some v)
  | [], [], _, i, v, hr => by simp at hr
  | a :: l, b :: r, h, 0, v, hr => by
    have hb : b = some v := by simpa using hr
    rcases h.1 with h1 | h1
    · rw [h1] at hb; cases hb
    · rw [← h1, hb]; rfl
  | a :: l, b :: r, h, i + 1, v, hr => by
    have := zLe.get h.2 (i := i) (v := v) (by simpa using hr)
    simpa using this
theorem zL.le {nL : Nat} {ls : Array Slot} {l r : List (Option Value)} (h : zL nL ls l) (hle : zLe l r) : zL nL ls r := by
  obtain ⟨h1, l0, h2, h3⟩ := h
  exact ⟨hle.len.trans h1, l0, h2, fun i v hi => h3 i v (hle.get hi)⟩
/-- the frame, its state and what it may write -/
def zG (E : zE) (Q : State → Prop) (cells slots : Nat) (ws : va_W) (lv : List (Option Value)) (pc : Nat) (st : List Value) : Prop :=
  match E with
  | (p, l, e, R, s, m, args, below, meth, c, D, _, A, nL) => ∀ (H : Heap) (locs : List Loc) (ls : Array Slot), va_P D vwCl ws H → va_D A ws → va_S A s.heap H locs → zL nL ls lv → W p l e R s m args below meth c H locs cells slots Q (F0 m pc ls st)
/-- what a method's walk rests on: its code cc, its class, its words, its room -/
def zC (E : zE) (cc : ByteArray) (own : String) (Ts : List Cond) (rm : Room) : Prop :=
  match E with
  | (p, _, _, R, s, m, args, _, meth, c, D, tys, A, nL) => p.tables.exec = Jvm.exec ∧ c.code = cc ∧ c.maxLocals = nL ∧ s.vm.findClass own = some m.cls ∧ (∀ w ∈ Ts, w.before args s = true) ∧ va_K D vwCl tys s ∧ (∀ q : Nat, s.heap.size ≤ q → A q) ∧ meth.locks = false ∧ R = rm
/-- the types of the arrays' classes -/
def zT (E : zE) (t0 : Nat) (cA : ClassId) (ty : FieldType) : Prop :=
  match E with
  | (_, _, _, _, _, _, _, _, _, _, _, tys, _, _) => tys[t0]? = some (cA, ty)
section ZI
variable {E : zE} {Q : State → Prop} {cells slots : Nat} {ws : va_W} {lv : List (Option Value)} {pc : Nat} {st : List Value} {cc : ByteArray} {own : String} {Ts : List Cond} {rm : Room}
theorem z_le {r : List (Option Value)} (hle : zLe lv r) (k : zG E Q cells slots ws r pc st) : zG E Q cells slots ws lv pc st := by
  obtain ⟨p, l, e, R, s, m, args, below, meth, c, D, tys, A, nL⟩ := E
  intro H locs ls hP hD hS hL
  exact k H locs ls hP hD hS (hL.le hle)
theorem z_eq {ws' : va_W} {st' : List Value} (h1 : ws = ws') (h2 : st = st') (k : zG E Q cells slots ws' lv pc st') : zG E Q cells slots ws lv pc st := by
  subst h1; subst h2; exact k
theorem z_top {x y : Int32} (h : x = y) (k : zG E Q cells slots ws lv pc (.int y :: st)) : zG E Q cells slots ws lv pc (.int x :: st) := by
  subst h; exact k
theorem z_widen {k n : Nat} (h1 : cells ≤ k) (h2 : slots ≤ n) (kk : zG E Q k n ws lv pc st) : zG E Q cells slots ws lv pc st := by
  obtain ⟨p, l, e, R, s, m, args, below, meth, c, D, tys, A, nL⟩ := E
  intro H locs ls hP hD hS hL
  exact W.widen h1 h2 (kk H locs ls hP hD hS hL)
theorem z_iconst (C : zC E cc own Ts rm) {n : Int} {v : Int32} (hdg : decode cc pc = .ok (.iconst n, 1)) (hv : Int32.ofInt n = v) (k : zG E Q cells slots ws lv (pc + 1) (.int v :: st)) : zG E Q cells slots ws lv pc st := by
  obtain ⟨p, l, e, R, s, m, args, below, meth, c, D, tys, A, nL⟩ := E
  intro H locs ls hP hD hS hL
  exact lv_iconst C.1 C.2.1 hdg hv (k H locs ls hP hD hS hL)
theorem z_bipush (C : zC E cc own Ts rm) {n : Int} {v : Int32} (hdg : decode cc pc = .ok (.bipush n, 2)) (hv : (Int8.ofInt n).toInt32 = v) (k : zG E Q cells slots ws lv (pc + 2) (.int v :: st)) : zG E Q cells slots ws lv pc st := by
  obtain ⟨p, l, e, R, s, m, args, below, meth, c, D, tys, A, nL⟩ := E
  intro H locs ls hP hD hS hL
  exact lv_bipush C.1 C.2.1 hdg hv (k H locs ls hP hD hS hL)
theorem z_sipush (C : zC E cc own Ts rm) {n : Int} {v : Int32} (hdg : decode cc pc = .ok (.sipush n, 3)) (hv : (Int16.ofInt n).toInt32 = v) (k : zG E Q cells slots ws lv (pc + 3) (.int v :: st)) : zG E Q cells slots ws lv pc st := by
  obtain ⟨p, l, e, R, s, m, args, below, meth, c, D, tys, A, nL⟩ := E
  intro H locs ls hP hD hS hL
  exact lv_sipush C.1 C.2.1 hdg hv (k H locs ls hP hD hS hL)
theorem z_ldc (C : zC E cc own Ts rm) {index : Nat} {v : Int32} (hdg : decode cc pc = .ok (.ldc index, 2)) (hc : Cond.constant own index v ∈ Ts) (k : zG E Q cells slots ws lv (pc + 2) (.int v :: st)) : zG E Q cells slots ws lv pc st := by
  obtain ⟨p, l, e, R, s, m, args, below, meth, c, D, tys, A, nL⟩ := E
  intro H locs ls hP hD hS hL
  exact lv_ldc C.1 C.2.1 C.2.2.2.1 (C.2.2.2.2.1 _ hc) hdg (k H locs ls hP hD hS hL)
theorem z_lconst (C : zC E cc own Ts rm) {n : Fin 2} {v : Int64} (hdg : decode cc pc = .ok (.lconst n, 1)) (hv : Int64.ofNat (n : Nat) = v) (k : zG E Q cells slots ws lv (pc + 1) (.long v :: st)) : zG E Q cells slots ws lv pc st := by
  obtain ⟨p, l, e, R, s, m, args, below, meth, c, D, tys, A, nL⟩ := E
  intro H locs ls hP hD hS hL
  exact lv_lconst C.1 C.2.1 hdg hv (k H locs ls hP hD hS hL)
theorem z_iload_n (C : zC E cc own Ts rm) {kk : Fin 4} {i : Nat} {x : Int32} (hdg : decode cc pc = .ok (.iload_n kk, 1)) (hi : (kk : Nat) = i) (hl : lv[i]? = some (some (.int x))) (k : zG E Q cells slots ws lv (pc + 1) (.int x :: st)) : zG E Q cells slots ws lv pc st := by
  obtain ⟨p, l, e, R, s, m, args, below, meth, c, D, tys, A, nL⟩ := E
  intro H locs ls hP hD hS hL
  exact lv_iload_n C.1 C.2.1 hdg hi (hL.at hl) (k H locs ls hP hD hS hL)
theorem z_iload (C : zC E cc own Ts rm) {i : Nat} {x : Int32} (hdg : decode cc pc = .ok (.iload i, 2)) (hl : lv[i]? = some (some (.int x))) (k : zG E Q cells slots ws lv (pc + 2) (.int x :: st)) : zG E Q cells slots ws lv pc st := by
  obtain ⟨p, l, e, R, s, m, args, below, meth, c, D, tys, A, nL⟩ := E
  intro H locs ls hP hD hS hL
  exact lv_iload C.1 C.2.1 hdg (hL.at hl) (k H locs ls hP hD hS hL)
theorem z_aload_n (C : zC E cc own Ts rm) {kk : Fin 4} {i : Nat} {x : Nat} (hdg : decode cc pc = .ok (.aload_n kk, 1)) (hi : (kk : Nat) = i) (hl : lv[i]? = some (some (.ref x))) (k : zG E Q cells slots ws lv (pc + 1) (.ref x :: st)) : zG E Q cells slots ws lv pc st := by
  obtain ⟨p, l, e, R, s, m, args, below, meth, c, D, tys, A, nL⟩ := E
  intro H locs ls hP hD hS hL
  exact lv_aload_n C.1 C.2.1 hdg hi (hL.at hl) (k H locs ls hP hD hS hL)
theorem z_aload (C : zC E cc own Ts rm) {i : Nat} {x : Nat} (hdg : decode cc pc = .ok (.aload i, 2)) (hl : lv[i]? = some (some (.ref x))) (k : zG E Q cells slots ws lv (pc + 2) (.ref x :: st)) : zG E Q cells slots ws lv pc st := by
  obtain ⟨p, l, e, R, s, m, args, below, meth, c, D, tys, A, nL⟩ := E
  intro H locs ls hP hD hS hL
  exact lv_aload C.1 C.2.1 hdg (hL.at hl) (k H locs ls hP hD hS hL)
theorem zL.lt {nL : Nat} {ls : Array Slot} {i : Nat} {x : Option Value} (h : zL nL ls lv) (hi : lv[i]? = some x) : i < nL := by
  rw [← h.1]
  exact (List.getElem?_eq_some_iff.mp hi).1
theorem z_istore_n (C : zC E cc own Ts rm) {kk : Fin 4} {i : Nat} {x : Int32} {o : Option Value} {lv' : List (Option Value)} (hdg : decode cc pc = .ok (.istore_n kk, 1)) (hi : (kk : Nat) = i) (hl : lv[i]? = some o) (hs : lv.set i (some (.int x)) = lv') (k : zG E Q cells slots ws lv' (pc + 1) st) : zG E Q cells slots ws lv pc (.int x :: st) := by
  obtain ⟨p, l, e, R, s, m, args, below, meth, c, D, tys, A, nL⟩ := E
  intro H locs ls hP hD hS hL
  subst hs
  obtain ⟨h1, l0, h2, h3⟩ := id hL
  exact lv_istore_n C.1 C.2.1 hdg hi h2 (hL.lt hl) rfl (fun ls' hl' => k H locs ls' hP hD hS (zL.set (fun i v h => (h3 i v h).2) h1 rfl (fun i v h => (h3 i v h).1) hl'))
theorem z_istore (C : zC E cc own Ts rm) {i : Nat} {x : Int32} {o : Option Value} {lv' : List (Option Value)} (hdg : decode cc pc = .ok (.istore i, 2)) (hl : lv[i]? = some o) (hs : lv.set i (some (.int x)) = lv') (k : zG E Q cells slots ws lv' (pc + 2) st) : zG E Q cells slots ws lv pc (.int x :: st) := by
  obtain ⟨p, l, e, R, s, m, args, below, meth, c, D, tys, A, nL⟩ := E
  intro H locs ls hP hD hS hL
  subst hs
  obtain ⟨h1, l0, h2, h3⟩ := id hL
  exact lv_istore C.1 C.2.1 hdg h2 (hL.lt hl) rfl (fun ls' hl' => k H locs ls' hP hD hS (zL.set (fun i v h => (h3 i v h).2) h1 rfl (fun i v h => (h3 i v h).1) hl'))
theorem z_astore_n (C : zC E cc own Ts rm) {kk : Fin 4} {i : Nat} {x : Nat} {o : Option Value} {lv' : List (Option Value)} (hdg : decode cc pc = .ok (.astore_n kk, 1)) (hi : (kk : Nat) = i) (hl : lv[i]? = some o) (hs : lv.set i (some (.ref x)) = lv') (k : zG E Q cells slots ws lv' (pc + 1) st) : zG E Q cells slots ws lv pc (.ref x :: st) := by
  obtain ⟨p, l, e, R, s, m, args, below, meth, c, D, tys, A, nL⟩ := E
  intro H locs ls hP hD hS hL
  subst hs
  obtain ⟨h1, l0, h2, h3⟩ := id hL
  exact lv_astore_n C.1 C.2.1 hdg hi h2 (hL.lt hl) rfl (fun ls' hl' => k H locs ls' hP hD hS (zL.set (fun i v h => (h3 i v h).2) h1 rfl (fun i v h => (h3 i v h).1) hl'))
theorem z_astore (C : zC E cc own Ts rm) {i : Nat} {x : Nat} {o : Option Value} {lv' : List (Option Value)} (hdg : decode cc pc = .ok (.astore i, 2)) (hl : lv[i]? = some o) (hs : lv.set i (some (.ref x)) = lv') (k : zG E Q cells slots ws lv' (pc + 2) st) : zG E Q cells slots ws lv pc (.ref x :: st) := by
  obtain ⟨p, l, e, R, s, m, args, below, meth, c, D, tys, A, nL⟩ := E
  intro H locs ls hP hD hS hL
  subst hs
  obtain ⟨h1, l0, h2, h3⟩ := id hL
  exact lv_astore C.1 C.2.1 hdg h2 (hL.lt hl) rfl (fun ls' hl' => k H locs ls' hP hD hS (zL.set (fun i v h => (h3 i v h).2) h1 rfl (fun i v h => (h3 i v h).1) hl'))
theorem z_iinc (C : zC E cc own Ts rm) {i : Nat} {n : Int} {x v : Int32} {lv' : List (Option Value)} (hdg : decode cc pc = .ok (.iinc i n, 3)) (hl : lv[i]? = some (some (.int x))) (hv : x + Int32.ofInt n = v) (hs : lv.set i (some (.int v)) = lv') (k : zG E Q cells slots ws lv' (pc + 3) st) : zG E Q cells slots ws lv pc st := by
  obtain ⟨p, l, e, R, s, m, args, below, meth, c, D, tys, A, nL⟩ := E
  intro H locs ls hP hD hS hL
  subst hs
  obtain ⟨h1, l0, h2, h3⟩ := id hL
  obtain ⟨k0, hk0⟩ := List.getElem?_of_mem (h3 i _ hl).1
  exact lv_iinc C.1 C.2.1 hdg h2 hk0 hv (hL.lt hl) rfl (fun ls' hl' => k H locs ls' hP hD hS (zL.set (fun i v h => (h3 i v h).2) h1 rfl (fun i v h => (h3 i v h).1) hl'))
theorem z_iadd (C : zC E cc own Ts rm) {x y : Int32} (hdg : decode cc pc = .ok (.iadd, 1)) (k : zG E Q cells slots ws lv (pc + 1) (.int (x + y) :: st)) : zG E Q cells slots ws lv pc (.int y :: .int x :: st) := by
  obtain ⟨p, l, e, R, s, m, args, below, meth, c, D, tys, A, nL⟩ := E
  intro H locs ls hP hD hS hL
  exact lv_iadd C.1 C.2.1 hdg (k H locs ls hP hD hS hL)
theorem z_isub (C : zC E cc own Ts rm) {x y : Int32} (hdg : decode cc pc = .ok (.isub, 1)) (k : zG E Q cells slots ws lv (pc + 1) (.int (x - y) :: st)) : zG E Q cells slots ws lv pc (.int y :: .int x :: st) := by
  obtain ⟨p, l, e, R, s, m, args, below, meth, c, D, tys, A, nL⟩ := E
  intro H locs ls hP hD hS hL
  exact lv_isub C.1 C.2.1 hdg (k H locs ls hP hD hS hL)
theorem z_imul (C : zC E cc own Ts rm) {x y : Int32} (hdg : decode cc pc = .ok (.imul, 1)) (k : zG E Q cells slots ws lv (pc + 1) (.int (x * y) :: st)) : zG E Q cells slots ws lv pc (.int y :: .int x :: st) := by
  obtain ⟨p, l, e, R, s, m, args, below, meth, c, D, tys, A, nL⟩ := E
  intro H locs ls hP hD hS hL
  exact lv_imul C.1 C.2.1 hdg (k H locs ls hP hD hS hL)
theorem z_iand (C : zC E cc own Ts rm) {x y : Int32} (hdg : decode cc pc = .ok (.iand, 1)) (k : zG E Q cells slots ws lv (pc + 1) (.int (x &&& y) :: st)) : zG E Q cells slots ws lv pc (.int y :: .int x :: st) := by
  obtain ⟨p, l, e, R, s, m, args, below, meth, c, D, tys, A, nL⟩ := E
  intro H locs ls hP hD hS hL
  exact lv_iand C.1 C.2.1 hdg (k H locs ls hP hD hS hL)
theorem z_ior (C : zC E cc own Ts rm) {x y : Int32} (hdg : decode cc pc = .ok (.ior, 1)) (k : zG E Q cells slots ws lv (pc + 1) (.int (x ||| y) :: st)) : zG E Q cells slots ws lv pc (.int y :: .int x :: st) := by
  obtain ⟨p, l, e, R, s, m, args, below, meth, c, D, tys, A, nL⟩ := E
  intro H locs ls hP hD hS hL
  exact lv_ior C.1 C.2.1 hdg (k H locs ls hP hD hS hL)
theorem z_ixor (C : zC E cc own Ts rm) {x y : Int32} (hdg : decode cc pc = .ok (.ixor, 1)) (k : zG E Q cells slots ws lv (pc + 1) (.int (x ^^^ y) :: st)) : zG E Q cells slots ws lv pc (.int y :: .int x :: st) := by
  obtain ⟨p, l, e, R, s, m, args, below, meth, c, D, tys, A, nL⟩ := E
  intro H locs ls hP hD hS hL
  exact lv_ixor C.1 C.2.1 hdg (k H locs ls hP hD hS hL)
theorem z_ishl (C : zC E cc own Ts rm) {x y : Int32} (hdg : decode cc pc = .ok (.ishl, 1)) (k : zG E Q cells slots ws lv (pc + 1) (.int (x <<< (y &&& 31)) :: st)) : zG E Q cells slots ws lv pc (.int y :: .int x :: st) := by
  obtain ⟨p, l, e, R, s, m, args, below, meth, c, D, tys, A, nL⟩ := E
  intro H locs ls hP hD hS hL
  exact lv_ishl C.1 C.2.1 hdg (k H locs ls hP hD hS hL)
theorem z_ishr (C : zC E cc own Ts rm) {x y : Int32} (hdg : decode cc pc = .ok (.ishr, 1)) (k : zG E Q cells slots ws lv (pc + 1) (.int (x >>> (y &&& 31)) :: st)) : zG E Q cells slots ws lv pc (.int y :: .int x :: st) := by
  obtain ⟨p, l, e, R, s, m, args, below, meth, c, D, tys, A, nL⟩ := E
  intro H locs ls hP hD hS hL
  exact lv_ishr C.1 C.2.1 hdg (k H locs ls hP hD hS hL)
theorem z_irem (C : zC E cc own Ts rm) {x y : Int32} (hdg : decode cc pc = .ok (.irem, 1)) (hne : ¬ y = 0) (k : zG E Q cells slots ws lv (pc + 1) (.int (x - x / y * y) :: st)) : zG E Q cells slots ws lv pc (.int y :: .int x :: st) := by
  obtain ⟨p, l, e, R, s, m, args, below, meth, c, D, tys, A, nL⟩ := E
  intro H locs ls hP hD hS hL
  exact lv_irem C.1 C.2.1 hdg hne (k H locs ls hP hD hS hL)
theorem z_iushr (C : zC E cc own Ts rm) {x y v : Int32} (hdg : decode cc pc = .ok (.iushr, 1)) (hv : (x.toUInt32 >>> (y.toUInt32 &&& Int32.toUInt32 31)).toInt32 = v) (k : zG E Q cells slots ws lv (pc + 1) (.int v :: st)) : zG E Q cells slots ws lv pc (.int y :: .int x :: st) := by
  obtain ⟨p, l, e, R, s, m, args, below, meth, c, D, tys, A, nL⟩ := E
  intro H locs ls hP hD hS hL
  exact lv_iushr C.1 C.2.1 hdg hv (k H locs ls hP hD hS hL)
theorem z_i2l (C : zC E cc own Ts rm) {x : Int32} {v : Int64} (hdg : decode cc pc = .ok (.i2l, 1)) (hv : x.toInt64 = v) (k : zG E Q cells slots ws lv (pc + 1) (.long v :: st)) : zG E Q cells slots ws lv pc (.int x :: st) := by
  obtain ⟨p, l, e, R, s, m, args, below, meth, c, D, tys, A, nL⟩ := E
  intro H locs ls hP hD hS hL
  exact lv_i2l C.1 C.2.1 hdg hv (k H locs ls hP hD hS hL)
theorem z_dup (C : zC E cc own Ts rm) {v : Value} (hdg : decode cc pc = .ok (.dup, 1)) (hv : v.category = 1) (k : zG E Q cells slots ws lv (pc + 1) (v :: v :: st)) : zG E Q cells slots ws lv pc (v :: st) := by
  obtain ⟨p, l, e, R, s, m, args, below, meth, c, D, tys, A, nL⟩ := E
  intro H locs ls hP hD hS hL
  exact lv_dup C.1 C.2.1 hdg hv (k H locs ls hP hD hS hL)
theorem z_dup2 (C : zC E cc own Ts rm) {v w : Value} (hdg : decode cc pc = .ok (.dup2, 1)) (hv : v.category = 1) (hw : w.category = 1) (k : zG E Q cells slots ws lv (pc + 1) (v :: w :: v :: w :: st)) : zG E Q cells slots ws lv pc (v :: w :: st) := by
  obtain ⟨p, l, e, R, s, m, args, below, meth, c, D, tys, A, nL⟩ := E
  intro H locs ls hP hD hS hL
  exact lv_dup2_11 C.1 C.2.1 hdg hv hw (k H locs ls hP hD hS hL)
theorem z_if_eq (C : zC E cc own Ts rm) {x : Int32} {off : Int} {tgt : Nat} (hdg : decode cc pc = .ok (.ifCond .eq off, 3)) (ht : (pc : Int) + off = (tgt : Int)) (kt : x = 0 → zG E Q cells slots ws lv tgt st) (kf : ¬ x = 0 → zG E Q cells slots ws lv (pc + 3) st) : zG E Q cells slots ws lv pc (.int x :: st) := by
  obtain ⟨p, l, e, R, s, m, args, below, meth, c, D, tys, A, nL⟩ := E
  intro H locs ls hP hD hS hL
  exact lv_if_eq C.1 C.2.1 hdg ht (fun h => kt h H locs ls hP hD hS hL) (fun h => kf h H locs ls hP hD hS hL)
theorem z_icmp_eq (C : zC E cc own Ts rm) {x y : Int32} {off : Int} {tgt : Nat} (hdg : decode cc pc = .ok (.if_icmp .eq off, 3)) (ht : (pc : Int) + off = (tgt : Int)) (kt : x = y → zG E Q cells slots ws lv tgt st) (kf : ¬ x = y → zG E Q cells slots ws lv (pc + 3) st) : zG E Q cells slots ws lv pc (.int y :: .int x :: st) := by
  obtain ⟨p, l, e, R, s, m, args, below, meth, c, D, tys, A, nL⟩ := E
  intro H locs ls hP hD hS hL
  exact lv_icmp_eq C.1 C.2.1 hdg ht (fun h => kt h H locs ls hP hD hS hL) (fun h => kf h H locs ls hP hD hS hL)
theorem z_if_ne (C : zC E cc own Ts rm) {x : Int32} {off : Int} {tgt : Nat} (hdg : decode cc pc = .ok (.ifCond .ne off, 3)) (ht : (pc : Int) + off = (tgt : Int)) (kt : ¬ x = 0 → zG E Q cells slots ws lv tgt st) (kf : x = 0 → zG E Q cells slots ws lv (pc + 3) st) : zG E Q cells slots ws lv pc (.int x :: st) := by
  obtain ⟨p, l, e, R, s, m, args, below, meth, c, D, tys, A, nL⟩ := E
  intro H locs ls hP hD hS hL
  exact lv_if_ne C.1 C.2.1 hdg ht (fun h => kt h H locs ls hP hD hS hL) (fun h => kf h H locs ls hP hD hS hL)
theorem z_icmp_ne (C : zC E cc own Ts rm) {x y : Int32} {off : Int} {tgt : Nat} (hdg : decode cc pc = .ok (.if_icmp .ne off, 3)) (ht : (pc : Int) + off = (tgt : Int)) (kt : ¬ x = y → zG E Q cells slots ws lv tgt st) (kf : x = y → zG E Q cells slots ws lv (pc + 3) st) : zG E Q cells slots ws lv pc (.int y :: .int x :: st) := by
  obtain ⟨p, l, e, R, s, m, args, below, meth, c, D, tys, A, nL⟩ := E
  intro H locs ls hP hD hS hL
  exact lv_icmp_ne C.1 C.2.1 hdg ht (fun h => kt h H locs ls hP hD hS hL) (fun h => kf h H locs ls hP hD hS hL)
theorem z_if_lt (C : zC E cc own Ts rm) {x : Int32} {off : Int} {tgt : Nat} (hdg : decode cc pc = .ok (.ifCond .lt off, 3)) (ht : (pc : Int) + off = (tgt : Int)) (kt : x < 0 → zG E Q cells slots ws lv tgt st) (kf : ¬ x < 0 → zG E Q cells slots ws lv (pc + 3) st) : zG E Q cells slots ws lv pc (.int x :: st) := by
  obtain ⟨p, l, e, R, s, m, args, below, meth, c, D, tys, A, nL⟩ := E
  intro H locs ls hP hD hS hL
  exact lv_if_lt C.1 C.2.1 hdg ht (fun h => kt h H locs ls hP hD hS hL) (fun h => kf h H locs ls hP hD hS hL)
theorem z_icmp_lt (C : zC E cc own Ts rm) {x y : Int32} {off : Int} {tgt : Nat} (hdg : decode cc pc = .ok (.if_icmp .lt off, 3)) (ht : (pc : Int) + off = (tgt : Int)) (kt : x < y → zG E Q cells slots ws lv tgt st) (kf : ¬ x < y → zG E Q cells slots ws lv (pc + 3) st) : zG E Q cells slots ws lv pc (.int y :: .int x :: st) := by
  obtain ⟨p, l, e, R, s, m, args, below, meth, c, D, tys, A, nL⟩ := E
  intro H locs ls hP hD hS hL
  exact lv_icmp_lt C.1 C.2.1 hdg ht (fun h => kt h H locs ls hP hD hS hL) (fun h => kf h H locs ls hP hD hS hL)
theorem z_if_ge (C : zC E cc own Ts rm) {x : Int32} {off : Int} {tgt : Nat} (hdg : decode cc pc = .ok (.ifCond .ge off, 3)) (ht : (pc : Int) + off = (tgt : Int)) (kt : 0 ≤ x → zG E Q cells slots ws lv tgt st) (kf : ¬ 0 ≤ x → zG E Q cells slots ws lv (pc + 3) st) : zG E Q cells slots ws lv pc (.int x :: st) := by
  obtain ⟨p, l, e, R, s, m, args, below, meth, c, D, tys, A, nL⟩ := E
  intro H locs ls hP hD hS hL
  exact lv_if_ge C.1 C.2.1 hdg ht (fun h => kt h H locs ls hP hD hS hL) (fun h => kf h H locs ls hP hD hS hL)
theorem z_icmp_ge (C : zC E cc own Ts rm) {x y : Int32} {off : Int} {tgt : Nat} (hdg : decode cc pc = .ok (.if_icmp .ge off, 3)) (ht : (pc : Int) + off = (tgt : Int)) (kt : y ≤ x → zG E Q cells slots ws lv tgt st) (kf : ¬ y ≤ x → zG E Q cells slots ws lv (pc + 3) st) : zG E Q cells slots ws lv pc (.int y :: .int x :: st) := by
  obtain ⟨p, l, e, R, s, m, args, below, meth, c, D, tys, A, nL⟩ := E
  intro H locs ls hP hD hS hL
  exact lv_icmp_ge C.1 C.2.1 hdg ht (fun h => kt h H locs ls hP hD hS hL) (fun h => kf h H locs ls hP hD hS hL)
theorem z_if_gt (C : zC E cc own Ts rm) {x : Int32} {off : Int} {tgt : Nat} (hdg : decode cc pc = .ok (.ifCond .gt off, 3)) (ht : (pc : Int) + off = (tgt : Int)) (kt : 0 < x → zG E Q cells slots ws lv tgt st) (kf : ¬ 0 < x → zG E Q cells slots ws lv (pc + 3) st) : zG E Q cells slots ws lv pc (.int x :: st) := by
  obtain ⟨p, l, e, R, s, m, args, below, meth, c, D, tys, A, nL⟩ := E
  intro H locs ls hP hD hS hL
  exact lv_if_gt C.1 C.2.1 hdg ht (fun h => kt h H locs ls hP hD hS hL) (fun h => kf h H locs ls hP hD hS hL)
theorem z_icmp_gt (C : zC E cc own Ts rm) {x y : Int32} {off : Int} {tgt : Nat} (hdg : decode cc pc = .ok (.if_icmp .gt off, 3)) (ht : (pc : Int) + off = (tgt : Int)) (kt : y < x → zG E Q cells slots ws lv tgt st) (kf : ¬ y < x → zG E Q cells slots ws lv (pc + 3) st) : zG E Q cells slots ws lv pc (.int y :: .int x :: st) := by
  obtain ⟨p, l, e, R, s, m, args, below, meth, c, D, tys, A, nL⟩ := E
  intro H locs ls hP hD hS hL
  exact lv_icmp_gt C.1 C.2.1 hdg ht (fun h => kt h H locs ls hP hD hS hL) (fun h => kf h H locs ls hP hD hS hL)
theorem z_if_le (C : zC E cc own Ts rm) {x : Int32} {off : Int} {tgt : Nat} (hdg : decode cc pc = .ok (.ifCond .le off, 3)) (ht : (pc : Int) + off = (tgt : Int)) (kt : x ≤ 0 → zG E Q cells slots ws lv tgt st) (kf : ¬ x ≤ 0 → zG E Q cells slots ws lv (pc + 3) st) : zG E Q cells slots ws lv pc (.int x :: st) := by
  obtain ⟨p, l, e, R, s, m, args, below, meth, c, D, tys, A, nL⟩ := E
  intro H locs ls hP hD hS hL
  exact lv_if_le C.1 C.2.1 hdg ht (fun h => kt h H locs ls hP hD hS hL) (fun h => kf h H locs ls hP hD hS hL)
theorem z_icmp_le (C : zC E cc own Ts rm) {x y : Int32} {off : Int} {tgt : Nat} (hdg : decode cc pc = .ok (.if_icmp .le off, 3)) (ht : (pc : Int) + off = (tgt : Int)) (kt : x ≤ y → zG E Q cells slots ws lv tgt st) (kf : ¬ x ≤ y → zG E Q cells slots ws lv (pc + 3) st) : zG E Q cells slots ws lv pc (.int y :: .int x :: st) := by
  obtain ⟨p, l, e, R, s, m, args, below, meth, c, D, tys, A, nL⟩ := E
  intro H locs ls hP hD hS hL
  exact lv_icmp_le C.1 C.2.1 hdg ht (fun h => kt h H locs ls hP hD hS hL) (fun h => kf h H locs ls hP hD hS hL)
theorem z_goto (C : zC E cc own Ts rm) {off : Int} {tgt : Nat} (hdg : decode cc pc = .ok (.goto off, 3)) (ht : (pc : Int) + off = (tgt : Int)) (k : zG E Q cells slots ws lv tgt st) : zG E Q cells slots ws lv pc st := by
  obtain ⟨p, l, e, R, s, m, args, below, meth, c, D, tys, A, nL⟩ := E
  intro H locs ls hP hD hS hL
  exact lv_goto C.1 C.2.1 hdg ht (k H locs ls hP hD hS hL)
theorem z_ifnonnull (C : zC E cc own Ts rm) {x : Nat} {off : Int} {tgt : Nat} (hdg : decode cc pc = .ok (.ifnonnull off, 3)) (ht : (pc : Int) + off = (tgt : Int)) (k : zG E Q cells slots ws lv tgt st) : zG E Q cells slots ws lv pc (.ref x :: st) := by
  obtain ⟨p, l, e, R, s, m, args, below, meth, c, D, tys, A, nL⟩ := E
  intro H locs ls hP hD hS hL
  exact lv_ifnonnull C.1 C.2.1 hdg ht (k H locs ls hP hD hS hL)
theorem z_lcmp (C : zC E cc own Ts rm) {x y : Int64} (hdg : decode cc pc = .ok (.lcmp, 1)) (k : zG E Q cells slots ws lv (pc + 1) (.int (lg_cmp x y) :: st)) : zG E Q cells slots ws lv pc (.long y :: .long x :: st) := by
  obtain ⟨p, l, e, R, s, m, args, below, meth, c, D, tys, A, nL⟩ := E
  intro H locs ls hP hD hS hL
  exact W.lcmp C.1 C.2.1 hdg (k H locs ls hP hD hS hL)
end ZI
end
section
/-! THE LAYER, second part: fields, arrays, new cells. -/
section ZH
variable {E : zE} {Q : State → Prop} {cells slots : Nat} {ws ws' : va_W} {lv : List (Option Value)} {pc : Nat} {st : List Value} {cc : ByteArray} {own : String} {Ts : List Cond} {rm : Room}
theorem z_get (C : zC E cc own Ts rm) {Cn : String} {T : u_T} {N ci index : Nat} {a : Nat} {fs : List Value} {v : Value} (hin : ∀ w ∈ u_ws Cn T N, w ∈ Ts) (q0 : Nat) (he : ws[q0]? = some (a, .inr (ci, fs))) (hc : vwCl[ci]? = some (Cn, T, N)) (k : Nat) (hk : k < N) (hlink : Cond.fieldLink own index (T k).1 (T k).2.1 (T k).2.2.1 ∈ Ts) (hv : fs[k]? = some v) (hdg : decode cc pc = .ok (.getfield index, 3)) (kk : zG E Q cells slots ws lv (pc + 3) (v :: st)) : zG E Q cells slots ws lv pc (.ref a :: st) := by
  obtain ⟨p, l, e, R, s, m, args, below, meth, c, D, tys, A, nL⟩ := E
  intro H locs ls hP hD hS hL
  exact va_get C.1 C.2.1 C.2.2.2.2.1 hin C.2.2.2.1 C.2.2.2.2.2.1 hP q0 he hc k hk (C.2.2.2.2.1 _ hlink) (fun _ h => h) hv hdg (kk H locs ls hP hD hS hL)
theorem z_put (C : zC E cc own Ts rm) {Cn : String} {T : u_T} {N ci index : Nat} {a : Nat} {fs : List Value} {v : Value} {ty : FieldType} {ty0 : Nat → FieldType} (hin : ∀ w ∈ u_ws Cn T N, w ∈ Ts) (hty : ∀ k, k < N → parseFieldDescriptor (T k).2.2.1 = some (ty0 k)) (hnm : ∀ a, a < N → ∀ b, b < N → a ≠ b → (T a).2.1 ≠ (T b).2.1) (q0 : Nat) (he : ws[q0]? = some (a, .inr (ci, fs))) (hc : vwCl[ci]? = some (Cn, T, N)) (k : Nat) (hk : k < N) (hlink : Cond.fieldLink own index (T k).1 (T k).2.1 (T k).2.2.1 ∈ Ts) (hfin : (T k).2.2.2 = false) (hd : parseFieldDescriptor (T k).2.2.1 = some ty) (hn : narrow ty v = v) (hfit : fits ty v = true) (hl : k < fs.length) (hs : ws.set q0 (a, .inr (ci, fs.set k v)) = ws') (hdg : decode cc pc = .ok (.putfield index, 3)) (kk : zG E Q cells slots ws' lv (pc + 3) st) : zG E Q cells slots ws lv pc (v :: .ref a :: st) := by
  obtain ⟨p, l, e, R, s, m, args, below, meth, c, D, tys, A, nL⟩ := E
  intro H locs ls hP hD hS hL
  subst hs
  exact va_put C.1 C.2.1 C.2.2.2.2.1 hin ty0 hty hnm C.2.2.2.1 C.2.2.2.2.2.1 hP hD hS q0 he hc k hk (C.2.2.2.2.1 _ hlink) (fun _ h => h) hfin hd hn hfit hl hdg (fun H1 locs1 hP hD hS => kk H1 locs1 ls hP hD hS hL)
/-- in a constructor: E's method is <init> -/
def zInit (E : zE) : Prop :=
  match E with
  | (_, _, _, _, _, _, _, _, meth, _, _, _, _, _) => meth.name = "<init>"
theorem z_putF (C : zC E cc own Ts rm) (hI : zInit E) {Cn : String} {T : u_T} {N ci index : Nat} {a : Nat} {fs : List Value} {v : Value} {ty : FieldType} {ty0 : Nat → FieldType} (hin : ∀ w ∈ u_ws Cn T N, w ∈ Ts) (hty : ∀ k, k < N → parseFieldDescriptor (T k).2.2.1 = some (ty0 k)) (hnm : ∀ a, a < N → ∀ b, b < N → a ≠ b → (T a).2.1 ≠ (T b).2.1) (q0 : Nat) (he : ws[q0]? = some (a, .inr (ci, fs))) (hc : vwCl[ci]? = some (Cn, T, N)) (k : Nat) (hk : k < N) (hlink : Cond.fieldLink own index (T k).1 (T k).2.1 (T k).2.2.1 ∈ Ts) (hfin : (T k).2.2.2 = true) (hdecl : (T k).1 = own) (hd : parseFieldDescriptor (T k).2.2.1 = some ty) (hn : narrow ty v = v) (hfit : fits ty v = true) (hl : k < fs.length) (hs : ws.set q0 (a, .inr (ci, fs.set k v)) = ws') (hdg : decode cc pc = .ok (.putfield index, 3)) (kk : zG E Q cells slots ws' lv (pc + 3) st) : zG E Q cells slots ws lv pc (v :: .ref a :: st) := by
  obtain ⟨p, l, e, R, s, m, args, below, meth, c, D, tys, A, nL⟩ := E
  intro H locs ls hP hD hS hL
  subst hs
  exact va_putF C.1 C.2.1 C.2.2.2.2.1 hin ty0 hty hnm C.2.2.2.1 C.2.2.2.2.2.1 hP hD hS q0 he hc k hk (C.2.2.2.2.1 _ hlink) (fun _ h => h) hfin hI hdecl hd hn hfit hl hdg (fun H1 locs1 hP hD hS => kk H1 locs1 ls hP hD hS hL)
/-- whole numbers as machine numbers -/
def iI (z : Int) : Int32 := Int32.ofInt z
/-- in an int's range -/
def iR (z : Int) : Prop := -2147483648 ≤ z ∧ z < 2147483648
theorem iI_toInt {z : Int} (h : iR z) : (iI z).toInt = z := by
  obtain ⟨h1, h2⟩ := h
  exact Int32.toInt_ofInt_of_le (by omega) (by omega)
theorem iI_of (x : Int32) : x = iI x.toInt := (Int32.ofInt_toInt x).symm
theorem iI_rng (x : Int32) : iR x.toInt := ⟨Int32.le_toInt x, Int32.toInt_lt x⟩
theorem iI_clamp {z : Int} (h0 : 0 ≤ z) (h : z < 2147483648) : ((iI z).toNatClampNeg : Int) = z := by
  show (((iI z).toInt.toNat : Nat) : Int) = z
  rw [iI_toInt ⟨by omega, h⟩]
  omega
theorem iI_in {z : Int} {n : Nat} (h0 : 0 ≤ z) (h : z < n) (hn : n ≤ 2147483647) : vp_in (iI z) n := by
  rw [vp_in_iff, iI_toInt ⟨by omega, by omega⟩]
  omega
/-- an array of ints, its places numbered by whole numbers -/
def ar (cA : ClassId) (n : Nat) (f : Int → Int32) : va_E := .inl (cA, (n, .inl (fun k : Nat => f (k : Int))))
/-- an array of references -/
def rr (cA : ClassId) (n : Nat) (f : Int → Option Nat) : va_E := .inl (cA, (n, .inr (.inr (.inr (.inr (fun k : Nat => f (k : Int)))))))
/-- an array of longs -/
def lr (cA : ClassId) (n : Nat) (f : Int → Int64) : va_E := .inl (cA, (n, .inr (.inl (fun k : Nat => f (k : Int)))))
def zup {α : Type} (f : Int → α) (z : Int) (x : α) : Int → α := fun j => if j = z then x else f j
theorem zup_self {α : Type} (f : Int → α) (z : Int) (x : α) : zup f z x z = x := if_pos rfl
theorem zup_ne {α : Type} (f : Int → α) {z j : Int} (x : α) (h : j ≠ z) : zup f z x j = f j := if_neg h
theorem zup_upd (f : Int → Int32) {z : Int} (h0 : 0 ≤ z) (h : z < 2147483648) (x : Int32) : upd (fun k : Nat => f (k : Int)) (iI z).toNatClampNeg x = fun k : Nat => zup f z x (k : Int) := by
  funext k
  have hc := iI_clamp h0 h
  show (if k = (iI z).toNatClampNeg then x else f (k : Int)) = if (k : Int) = z then x else f (k : Int)
  by_cases hk : k = (iI z).toNatClampNeg
  · rw [if_pos hk, if_pos (by omega)]
  · rw [if_neg hk, if_neg (by omega)]
theorem zup_vaup {α : Type} (f : Int → α) {z : Int} (h0 : 0 ≤ z) (h : z < 2147483648) (x : α) : va_up (fun k : Nat => f (k : Int)) (iI z).toNatClampNeg x = fun k : Nat => zup f z x (k : Int) := by
  funext k
  have hc := iI_clamp h0 h
  show (if k = (iI z).toNatClampNeg then x else f (k : Int)) = if (k : Int) = z then x else f (k : Int)
  by_cases hk : k = (iI z).toNatClampNeg
  · rw [if_pos hk, if_pos (by omega)]
  · rw [if_neg hk, if_neg (by omega)]
theorem z_iaload (C : zC E cc own Ts rm) {a n t0 : Nat} {cA : ClassId} {f : Int → Int32} {z : Int} (q0 : Nat) (he : ws[q0]? = some (a, ar cA n f)) (ht : zT E t0 cA .int) (h0 : 0 ≤ z) (h : z < n) (hn : n ≤ 2147483647) (hdg : decode cc pc = .ok (.iaload, 1)) (kk : zG E Q cells slots ws lv (pc + 1) (.int (f z) :: st)) : zG E Q cells slots ws lv pc (.int (iI z) :: .ref a :: st) := by
  obtain ⟨p, l, e, R, s, m, args, below, meth, c, D, tys, A, nL⟩ := E
  intro H locs ls hP hD hS hL
  refine va_iald C.1 C.2.1 C.2.2.2.2.2.1 hP q0 t0 he ht (iI_in h0 h hn) hdg ?_
  rw [iI_clamp h0 (by omega)]
  exact kk H locs ls hP hD hS hL
theorem z_baload (C : zC E cc own Ts rm) {a n t0 : Nat} {cA : ClassId} {f : Int → Int32} {z : Int} (q0 : Nat) (he : ws[q0]? = some (a, ar cA n f)) (ht : zT E t0 cA .boolean) (h0 : 0 ≤ z) (h : z < n) (hn : n ≤ 2147483647) (hdg : decode cc pc = .ok (.baload, 1)) (kk : zG E Q cells slots ws lv (pc + 1) (.int (f z) :: st)) : zG E Q cells slots ws lv pc (.int (iI z) :: .ref a :: st) := by
  obtain ⟨p, l, e, R, s, m, args, below, meth, c, D, tys, A, nL⟩ := E
  intro H locs ls hP hD hS hL
  refine va_zald C.1 C.2.1 C.2.2.2.2.2.1 hP q0 t0 he ht (iI_in h0 h hn) hdg ?_
  rw [iI_clamp h0 (by omega)]
  exact kk H locs ls hP hD hS hL
theorem z_laload (C : zC E cc own Ts rm) {a n t0 : Nat} {cA : ClassId} {f : Int → Int64} {z : Int} (q0 : Nat) (he : ws[q0]? = some (a, lr cA n f)) (ht : zT E t0 cA .long) (h0 : 0 ≤ z) (h : z < n) (hn : n ≤ 2147483647) (hdg : decode cc pc = .ok (.laload, 1)) (kk : zG E Q cells slots ws lv (pc + 1) (.long (f z) :: st)) : zG E Q cells slots ws lv pc (.int (iI z) :: .ref a :: st) := by
  obtain ⟨p, l, e, R, s, m, args, below, meth, c, D, tys, A, nL⟩ := E
  intro H locs ls hP hD hS hL
  refine va_lald C.1 C.2.1 C.2.2.2.2.2.1 hP q0 t0 he ht (iI_in h0 h hn) hdg ?_
  rw [iI_clamp h0 (by omega)]
  exact kk H locs ls hP hD hS hL
theorem z_aaload (C : zC E cc own Ts rm) {a n t0 : Nat} {cA : ClassId} {Cn : String} {f : Int → Option Nat} {z : Int} (q0 : Nat) (he : ws[q0]? = some (a, rr cA n f)) (ht : zT E t0 cA (.object Cn)) (h0 : 0 ≤ z) (h : z < n) (hn : n ≤ 2147483647) (hdg : decode cc pc = .ok (.aaload, 1)) (kk : zG E Q cells slots ws lv (pc + 1) (va_rf (f z) :: st)) : zG E Q cells slots ws lv pc (.int (iI z) :: .ref a :: st) := by
  obtain ⟨p, l, e, R, s, m, args, below, meth, c, D, tys, A, nL⟩ := E
  intro H locs ls hP hD hS hL
  refine va_aldq C.1 C.2.1 C.2.2.2.2.2.1 hP q0 t0 he ht (iI_in h0 h hn) hdg ?_
  rw [iI_clamp h0 (by omega)]
  exact kk H locs ls hP hD hS hL
theorem z_iastore (C : zC E cc own Ts rm) {a n t0 : Nat} {cA : ClassId} {f : Int → Int32} {z : Int} {x : Int32} (q0 : Nat) (he : ws[q0]? = some (a, ar cA n f)) (ht : zT E t0 cA .int) (h0 : 0 ≤ z) (h : z < n) (hn : n ≤ 2147483647) (hs : ws.set q0 (a, ar cA n (zup f z x)) = ws') (hdg : decode cc pc = .ok (.iastore, 1)) (kk : zG E Q cells slots ws' lv (pc + 1) st) : zG E Q cells slots ws lv pc (.int x :: .int (iI z) :: .ref a :: st) := by
  obtain ⟨p, l, e, R, s, m, args, below, meth, c, D, tys, A, nL⟩ := E
  intro H locs ls hP hD hS hL
  subst hs
  refine va_iast C.1 C.2.1 C.2.2.2.2.2.1 hP hD hS q0 t0 he ht (iI_in h0 h hn) hdg ?_
  rw [zup_upd f h0 (by omega)]
  exact fun H1 locs1 hP hD hS => kk H1 locs1 ls hP hD hS hL
theorem z_bastore (C : zC E cc own Ts rm) {a n t0 : Nat} {cA : ClassId} {f : Int → Int32} {z : Int} {x : Int32} (q0 : Nat) (he : ws[q0]? = some (a, ar cA n f)) (ht : zT E t0 cA .boolean) (h0 : 0 ≤ z) (h : z < n) (hn : n ≤ 2147483647) (hx : vp_nar .boolean x = x) (hs : ws.set q0 (a, ar cA n (zup f z x)) = ws') (hdg : decode cc pc = .ok (.bastore, 1)) (kk : zG E Q cells slots ws' lv (pc + 1) st) : zG E Q cells slots ws lv pc (.int x :: .int (iI z) :: .ref a :: st) := by
  obtain ⟨p, l, e, R, s, m, args, below, meth, c, D, tys, A, nL⟩ := E
  intro H locs ls hP hD hS hL
  subst hs
  refine va_zast C.1 C.2.1 C.2.2.2.2.2.1 hP hD hS q0 t0 he ht (iI_in h0 h hn) hdg ?_
  rw [hx, zup_upd f h0 (by omega)]
  exact fun H1 locs1 hP hD hS => kk H1 locs1 ls hP hD hS hL
theorem z_lastore (C : zC E cc own Ts rm) {a n t0 : Nat} {cA : ClassId} {f : Int → Int64} {z : Int} {x : Int64} (q0 : Nat) (he : ws[q0]? = some (a, lr cA n f)) (ht : zT E t0 cA .long) (h0 : 0 ≤ z) (h : z < n) (hn : n ≤ 2147483647) (hs : ws.set q0 (a, lr cA n (zup f z x)) = ws') (hdg : decode cc pc = .ok (.lastore, 1)) (kk : zG E Q cells slots ws' lv (pc + 1) st) : zG E Q cells slots ws lv pc (.long x :: .int (iI z) :: .ref a :: st) := by
  obtain ⟨p, l, e, R, s, m, args, below, meth, c, D, tys, A, nL⟩ := E
  intro H locs ls hP hD hS hL
  subst hs
  refine va_last C.1 C.2.1 C.2.2.2.2.2.1 hP hD hS q0 t0 he ht (iI_in h0 h hn) hdg ?_
  rw [show vp_updL (fun k : Nat => f (k : Int)) (iI z).toNatClampNeg x = fun k : Nat => zup f z x (k : Int) from zup_vaup f h0 (by omega) x]
  exact fun H1 locs1 hP hD hS => kk H1 locs1 ls hP hD hS hL
theorem z_aastore (C : zC E cc own Ts rm) {a n t0 ci v : Nat} {cA : ClassId} {r : vw_C} {vs : List Value} {f : Int → Option Nat} {z : Int} (q0 qk : Nat) (he : ws[q0]? = some (a, rr cA n f)) (ht : zT E t0 cA (.object r.1)) (hv : ws[qk]? = some (v, .inr (ci, vs))) (hc : vwCl[ci]? = some r) (h0 : 0 ≤ z) (h : z < n) (hn : n ≤ 2147483647) (hs : ws.set q0 (a, rr cA n (zup f z (some v))) = ws') (hdg : decode cc pc = .ok (.aastore, 1)) (kk : zG E Q cells slots ws' lv (pc + 1) st) : zG E Q cells slots ws lv pc (.ref v :: .int (iI z) :: .ref a :: st) := by
  obtain ⟨p, l, e, R, s, m, args, below, meth, c, D, tys, A, nL⟩ := E
  intro H locs ls hP hD hS hL
  subst hs
  refine va_astq C.1 C.2.1 C.2.2.2.2.2.1 hP hD hS q0 t0 qk ci he ht hv hc (iI_in h0 h hn) hdg ?_
  rw [zup_vaup f h0 (by omega)]
  exact fun H1 locs1 hP hD hS => kk H1 locs1 ls hP hD hS hL
theorem z_alen (C : zC E cc own Ts rm) {a t0 : Nat} {cA : ClassId} {x : vp_A} {ty : FieldType} {v : Int32} (q0 : Nat) (he : ws[q0]? = some (a, .inl (cA, x))) (ht : zT E t0 cA ty) (hv : Int32.ofNat x.1 = v) (hdg : decode cc pc = .ok (.arraylength, 1)) (kk : zG E Q cells slots ws lv (pc + 1) (.int v :: st)) : zG E Q cells slots ws lv pc (.ref a :: st) := by
  obtain ⟨p, l, e, R, s, m, args, below, meth, c, D, tys, A, nL⟩ := E
  intro H locs ls hP hD hS hL
  exact va_alen C.1 C.2.1 C.2.2.2.2.2.1 hP q0 t0 he ht hv hdg (kk H locs ls hP hD hS hL)
theorem z_new (C : zC E cc own Ts rm) {Cn : String} {T : u_T} {N ci index : Nat} {fs : List Value} {ty : Nat → FieldType} (hin : ∀ w ∈ u_ws Cn T N, w ∈ Ts) (hty : ∀ k, k < N → parseFieldDescriptor (T k).2.2.1 = some (ty k)) (hcl : Cond.classLink own index Cn ∈ Ts) (hinst : Cond.instantiable Cn N ∈ Ts) (hini : Cond.initialized Cn ∈ Ts) (hc : vwCl[ci]? = some (Cn, T, N)) (hfs : ∀ j, j < N → defaultValue (ty j) = vp_V fs j) (hcells : cells + 1 ≤ rm.cells) (hslots : slots + N ≤ rm.slots) (hdg : decode cc pc = .ok (.new index, 3)) (kk : ∀ q : Nat, zG E Q (cells + 1) (slots + N) (ws ++ [(q, .inr (ci, fs))]) lv (pc + 3) (.ref q :: st)) : zG E Q cells slots ws lv pc st := by
  obtain ⟨p, l, e, R, s, m, args, below, meth, c, D, tys, A, nL⟩ := E
  intro H locs ls hP hD hS hL
  have hR : R = rm := C.2.2.2.2.2.2.2.2
  exact va_new C.1 C.2.1 C.2.2.2.2.1 hin ty hty C.2.2.2.1 (C.2.2.2.2.1 _ hcl) (C.2.2.2.2.1 _ hinst) (C.2.2.2.2.1 _ hini) C.2.2.2.2.2.1 hP hD hS C.2.2.2.2.2.2.1 hc hfs (by rw [hR]; exact hcells) (by rw [hR]; exact hslots) hdg (fun q H1 hP hD hS => kk q H1 locs ls hP hD hS hL)
theorem z_cA {D : va_G} {tys : List (ClassId × FieldType)} {s : State} {cA cB : ClassId} {ty : FieldType} {t0 : Nat} (hK : va_K D vwCl (tys ++ [(cA, ty)]) s) (ht : tys[t0]? = some (cB, ty)) (hne : ∀ C : String, ty ≠ .object C) : cA = cB := by
  have h1 := (hK.2 tys.length (cA, ty) (by simp)).2
  have h2 := (hK.2 t0 (cB, ty) (by rw [List.getElem?_append_left (List.getElem?_eq_some_iff.mp ht).1]; exact ht)).2
  cases ty with
  | object C => exact absurd rfl (hne C)
  | _ =>
    have e1 : s.vm.findClass _ = some cA := h1
    have e2 : s.vm.findClass _ = some cB := h2
    exact Option.some.inj (e1.symm.trans e2)
theorem z_newarr (C : zC E cc own Ts rm) {atype : ArrayType} {t0 N : Nat} {cA : ClassId} {ty : FieldType} {z : Int} (harr : Cond.arrayClass (newarray.typeOf atype) ∈ Ts) (hty : newarray.typeOf atype = ty) (hne : ∀ C : String, ty ≠ .object C) (ht : zT E t0 cA ty) (ha : ∀ cB : ClassId, vp_cell cB (N, .inl (fun _ => 0)) = arrV cB N (fun _ => defaultValue ty)) (hz : z = N) (hN : N ≤ 1000) (hbytes : N * componentBytes ty ≤ 536870912) (hcells : cells + 1 ≤ rm.cells) (hslots : slots + N ≤ rm.slots) (hdg : decode cc pc = .ok (.newarray atype, 2)) (kk : ∀ q : Nat, zG E Q (cells + 1) (slots + N) (ws ++ [(q, ar cA N (fun _ => 0))]) lv (pc + 2) (.ref q :: st)) : zG E Q cells slots ws lv pc (.int (iI z) :: st) := by
  obtain ⟨p, l, e, R, s, m, args, below, meth, c, D, tys, A, nL⟩ := E
  intro H locs ls hP hD hS hL
  have hR : R = rm := C.2.2.2.2.2.2.2.2
  have hcl := iI_clamp (z := z) (by omega) (by omega)
  have hlt : ¬ iI z < 0 := by
    rw [Int32.lt_iff_toInt_lt, iI_toInt ⟨by omega, by omega⟩]
    show ¬ z < 0
    omega
  refine va_newa C.1 C.2.1 (C.2.2.2.2.1 _ harr) hty C.2.2.2.2.2.1 hP hD hS C.2.2.2.2.2.2.1 ha hlt (by omega) hbytes (by rw [hR]; exact hcells) (by rw [hR]; exact hslots) hdg (fun q cB H1 hK hP hD hS => ?_)
  have he : cB = cA := z_cA hK ht hne
  subst he
  exact kk q H1 locs ls hP hD hS hL
theorem z_newlong (C : zC E cc own Ts rm) {t0 N : Nat} {cA : ClassId} {z : Int} (harr : Cond.arrayClass .long ∈ Ts) (ht : zT E t0 cA .long) (hz : z = N) (hN : N ≤ 1000) (hcells : cells + 1 ≤ rm.cells) (hslots : slots + N ≤ rm.slots) (hdg : decode cc pc = .ok (.newarray .long, 2)) (kk : ∀ q : Nat, zG E Q (cells + 1) (slots + N) (ws ++ [(q, lr cA N (fun _ => 0))]) lv (pc + 2) (.ref q :: st)) : zG E Q cells slots ws lv pc (.int (iI z) :: st) := by
  obtain ⟨p, l, e, R, s, m, args, below, meth, c, D, tys, A, nL⟩ := E
  intro H locs ls hP hD hS hL
  have hR : R = rm := C.2.2.2.2.2.2.2.2
  have hcl := iI_clamp (z := z) (by omega) (by omega)
  have hlt : ¬ iI z < 0 := by
    rw [Int32.lt_iff_toInt_lt, iI_toInt ⟨by omega, by omega⟩]
    show ¬ z < 0
    omega
  refine va_newa (atype := .long) (a0 := (N, .inr (.inl (fun _ => 0)))) C.1 C.2.1 (C.2.2.2.2.1 _ harr) rfl C.2.2.2.2.2.1 hP hD hS C.2.2.2.2.2.2.1 (fun _ => rfl) hlt (by omega) (by show N * 8 ≤ 536870912; omega) (by rw [hR]; exact hcells) (by rw [hR]; exact hslots) hdg (fun q cB H1 hK hP hD hS => ?_)
  have he : cB = cA := z_cA hK ht (fun C h => by cases h)
  subst he
  exact kk q H1 locs ls hP hD hS hL
end ZH
end
section
/-! THE LAYER, third part: worlds up to their order, contracts, calls, ends. -/
theorem zP_mem {D : va_G} {ws : va_W} {H : Heap} : va_P D vwCl ws H ↔ ∀ q ∈ ws, va_at D vwCl q H := by
  constructor
  · intro h q hq
    obtain ⟨k, hk⟩ := List.getElem?_of_mem hq
    exact h k q hk
  · intro h k q hk
    exact h q (List.mem_of_getElem? hk)
theorem zD_mem {A : Nat → Prop} {ws : va_W} : va_D A ws ↔ (ws.map (·.1)).Nodup ∧ ∀ q ∈ ws, A q.1 := by
  constructor
  · intro h
    refine ⟨?_, fun q hq => ?_⟩
    · refine List.pairwise_iff_getElem.mpr fun i j hi hj hij he => ?_
      rw [List.length_map] at hi hj
      rw [List.getElem_map, List.getElem_map] at he
      have := h.1 i j _ _ (List.getElem?_eq_getElem hi) (List.getElem?_eq_getElem hj) he
      omega
    · obtain ⟨k, hk⟩ := List.getElem?_of_mem hq
      exact h.2 k q hk
  · intro ⟨h1, h2⟩
    refine ⟨fun i j p q hp hq he => ?_, fun k q hk => h2 q (List.mem_of_getElem? hk)⟩
    have h1' := List.pairwise_iff_getElem.mp h1
    have hi := (List.getElem?_eq_some_iff.mp hp)
    have hj := (List.getElem?_eq_some_iff.mp hq)
    obtain ⟨hi, ei⟩ := hi
    obtain ⟨hj, ej⟩ := hj
    subst ei; subst ej
    have key : ∀ (i j : Nat) (hi : i < ws.length) (hj : j < ws.length), i < j → ws[i].1 ≠ ws[j].1 := by
      intro i j hi hj hij
      have := h1' i j (by rw [List.length_map]; exact hi) (by rw [List.length_map]; exact hj) hij
      rw [List.getElem_map, List.getElem_map] at this
      exact this
    rcases Nat.lt_trichotomy i j with hij | hij | hij
    · exact absurd he (key i j hi hj hij)
    · exact hij
    · exact absurd he.symm (key j i hj hi hij)
theorem zP_perm {D : va_G} {ws ws' : va_W} {H : Heap} (h : ws.Perm ws') (hP : va_P D vwCl ws H) : va_P D vwCl ws' H := zP_mem.mpr fun q hq => zP_mem.mp hP q (h.mem_iff.mpr hq)
theorem zD_perm {A : Nat → Prop} {ws ws' : va_W} (h : ws.Perm ws') (hD : va_D A ws) : va_D A ws' := by
  obtain ⟨h1, h2⟩ := zD_mem.mp hD
  exact zD_mem.mpr ⟨(h.map _).nodup_iff.mp h1, fun q hq => h2 q (h.mem_iff.mpr hq)⟩
theorem zA_mem {ws : va_W} {sz q : Nat} : va_A ws sz q ↔ (∃ e, (q, e) ∈ ws) ∨ sz ≤ q := by
  constructor
  · rintro (⟨k, e, h⟩ | h)
    · exact Or.inl ⟨e, List.mem_of_getElem? h⟩
    · exact Or.inr h
  · rintro (⟨e, h⟩ | h)
    · obtain ⟨k, hk⟩ := List.getElem?_of_mem h
      exact Or.inl ⟨k, e, hk⟩
    · exact Or.inr h
/-- the frame rule -/
theorem z_frame {D : va_G} {A0 : Nat → Prop} {w0 w1 fr : va_W} {H H1 : Heap} (hP : va_P D vwCl (w0 ++ fr) H) (hD : va_D A0 (w0 ++ fr)) (hF : ∀ q, va_A w0 H.size q → A0 q) (hk : ∀ q : Nat, q < H.size → ¬ va_A w0 H.size q → H1[q]? = H[q]?) (hP1 : va_P D vwCl w1 H1) (hD1 : va_D (va_A w0 H.size) w1) : va_P D vwCl (w1 ++ fr) H1 ∧ va_D A0 (w1 ++ fr) := by
  have hPm := zP_mem.mp hP
  obtain ⟨n1, n2⟩ := zD_mem.mp hD
  obtain ⟨m1, m2⟩ := zD_mem.mp hD1
  rw [List.map_append, List.nodup_append] at n1
  obtain ⟨a1, a2, a3⟩ := n1
  have out : ∀ q ∈ fr, q.1 < H.size ∧ ¬ va_A w0 H.size q.1 := by
    intro q hq
    have hl := (hPm q (List.mem_append_right _ hq)).lt
    refine ⟨hl, fun h => ?_⟩
    rcases zA_mem.mp h with ⟨e, h⟩ | h
    · exact a3 q.1 (List.mem_map.mpr ⟨_, h, rfl⟩) q.1 (List.mem_map.mpr ⟨q, hq, rfl⟩) rfl
    · omega
  refine ⟨zP_mem.mpr fun q hq => ?_, zD_mem.mpr ⟨?_, fun q hq => ?_⟩⟩
  · rcases List.mem_append.mp hq with h | h
    · exact zP_mem.mp hP1 q h
    · exact (hPm q (List.mem_append_right _ h)).kept (hk q.1 (out q h).1 (out q h).2)
  · rw [List.map_append, List.nodup_append]
    refine ⟨m1, a2, fun x hx y hy hxy => ?_⟩
    obtain ⟨p, hp, rfl⟩ := List.mem_map.mp hx
    obtain ⟨q, hq, rfl⟩ := List.mem_map.mp hy
    exact (out q hq).2 (by rw [← hxy]; exact m2 p hp)
  · rcases List.mem_append.mp hq with h | h
    · exact hF q.1 (m2 q h)
    · exact n2 q (List.mem_append_right _ h)
/-- the words that the good ones don't hold -/
def zNs : List Cond := [.methodLinkNest RX4 31 yX0_init "PaperGuild", .methodLinkNest RX4 41 yX1_init "PaperGuild", .methodLinkNest RX1 41 yX4_holds "PaperGuild", .methodLinkNest RX2 34 yX3_init "PaperGuild",
  .declares (Bundle.initS "java/lang/RuntimeException"), .declares (Bundle.initS "java/lang/Exception"), .declares (Bundle.initS Bundle.tN),
  .castable "java/lang/IndexOutOfBoundsException" "java/lang/IndexOutOfBoundsException", .castable "java/lang/IllegalArgumentException" "java/lang/IllegalArgumentException", .castable "java/lang/IllegalStateException" "java/lang/IllegalStateException"]
def zSt : List (Nat × String) := [(202, "no such kind"), (52, "needs out of range"), (65, "kinds would need one another round"), (204, "no such author"), (70, "length out of range"), (74, "no room for another model"), (208, "no such model"), (93, "place out of range"), (98, "no room for another step"), (107, "a kind that is needed is missing"), (113, "no steps"), (125, "models would use one another round"), (128, "set out of range"), (206, "no such pupil"), (139, "a kind that is needed is not known"), (151, "no such place"), (157, "not so many cells"), (210, "no such cell"), (185, "age out of range")]
def zNo : List (String × String) := [("java/lang/IllegalArgumentException", "java/lang/IndexOutOfBoundsException"), ("java/lang/IllegalStateException", "java/lang/IndexOutOfBoundsException"), ("java/lang/IllegalStateException", "java/lang/IllegalArgumentException")]
/-- what every method's start gives beside its words -/
def zX (A : Nat → Prop) (U : State) : Prop :=
  (∀ w ∈ zNs, va_Nw w U) ∧ va_AO "PaperGuild$Model" U ∧ (∀ q ∈ zSt, ∃ a : Nat, vk_R RX4 q.1 q.2 a U) ∧ (∀ q ∈ zNo, va_Nc q.1 q.2 U) ∧ vx_Zq Bundle.tN "UNASSIGNED_STACK" Bundle.steD A U U.heap ∧ vx_Zq Bundle.tN "SUPPRESSED_SENTINEL" Bundle.listD A U U.heap
theorem zNs_warm {s U : State} (hW : s.WarmedH U.vm) : ∀ w ∈ zNs, va_Nw w s → va_Nw w U := by
  intro w hw h
  simp only [zNs, List.mem_cons, List.not_mem_nil, or_false] at hw
  rcases hw with rfl | rfl | rfl | rfl | rfl | rfl | rfl | rfl | rfl | rfl
  · exact h.warmM hW
  · exact h.warmM hW
  · exact h.warmM hW
  · exact h.warmM hW
  · exact h.warmD hW
  · exact h.warmD hW
  · exact h.warmD hW
  · exact h.warmC hW
  · exact h.warmC hW
  · exact h.warmC hW
theorem zNs_tables : ∀ w ∈ zNs, w.onTables = true := by decide +kernel
theorem zX.go {A B : Nat → Prop} {s U : State} {H : Heap} {locs : List Loc} (h : zX A s) (hS : va_S A s.heap H locs) (hU : U.heap = H) (hW : s.WarmedH U.vm) (hAB : ∀ q, B q → A q) : zX B U := by
  obtain ⟨h1, h2, h3, h4, h5, h6⟩ := h
  have hk : ∀ a : Nat, a < s.heap.size → ¬ A a → U.heap[a]? = s.heap[a]? := fun a h h' => by rw [hU]; exact hS.2.1 a h h'
  refine ⟨fun w hw => zNs_warm hW w hw (h1 w hw), va_AO.moved hW.alike h2, fun q hq => ?_, fun q hq => va_Nc.moved hW.alike (h4 q hq), ((h5.moved hW.alike).kept hk).narrow hAB, ((h6.moved hW.alike).kept hk).narrow hAB⟩
  obtain ⟨a, ha⟩ := h3 q hq
  exact ⟨a, ha.warm hW⟩
theorem zX.calling {A : Nat → Prop} {U : State} (h : zX A U) (g : JFrame) (mk : MethodId) (a : Array Value) : zX A (U.calling g mk a) := by
  obtain ⟨h1, h2, h3, h4, h5, h6⟩ := h
  refine ⟨fun w hw => va_Nw.same (u := U) (zNs_tables w hw) rfl (h1 w hw), va_AO.moved (u := U) (Vm.Alike.refl U.vm) h2, fun q hq => ?_, fun q hq => va_Nc.moved (u := U) (Vm.Alike.refl U.vm) (h4 q hq), h5.moved (u := U) (Vm.Alike.refl U.vm), h6.moved (u := U) (Vm.Alike.refl U.vm)⟩
  obtain ⟨b, hb⟩ := h3 q hq
  exact ⟨b, vk_R.same (u := U) rfl hb⟩
/-- a contract's start: the world w0 -/
def zPre (D : va_G) (tys : List (ClassId × FieldType)) (w0 : va_W) (sz : Nat) : State → Prop := fun U => U.heap.size = sz ∧ va_P D vwCl w0 U.heap ∧ va_K D vwCl tys U ∧ va_D (fun _ => True) w0 ∧ zX (va_A w0 sz) U
/-- its end: an answer and a world -/
def zQ (D : va_G) (post : Option Value → va_W → Prop) (A : Nat → Prop) : Array Value → State → Outcome → State → Prop := fun _ st oc t => (∃ (r : Option Value) (w1 : va_W), oc = .returned r ∧ post r w1 ∧ va_P D vwCl w1 t.heap ∧ va_D A w1) ∧ va_F A st t
/-- its throw: a class, the world as it was -/
def zXC (D : va_G) (w0 : va_W) (px : String → Prop) (A : Nat → Prop) : String → State → State → Prop := fun E st t => px E ∧ va_P D vwCl w0 t.heap ∧ va_F A st t
def zN (l : Launch) (y : MethodName) (wl : List Cond) (rm : Room) (D : va_G) (tys : List (ClassId × FieldType)) (av : List Value) (w0 : va_W) (post : Option Value → va_W → Prop) (mc ms : Nat) : Prop :=
  ∀ sz : Nat, Met l y wl rm (va_Pc av (zPre D tys w0 sz)) (zQ D post (va_A w0 sz)) mc ms (va_A w0 sz)
def zNX (l : Launch) (y : MethodName) (wl : List Cond) (rm : Room) (D : va_G) (tys : List (ClassId × FieldType)) (av : List Value) (w0 : va_W) (post : Option Value → va_W → Prop) (px : String → Prop) (mc ms : Nat) : Prop :=
  ∀ sz : Nat, vx_Met l y wl rm (va_Pc av (zPre D tys w0 sz)) (zQ D post (va_A w0 sz)) (zXC D w0 px (va_A w0 sz)) mc ms (va_A w0 sz)
theorem zPre_blind {D : va_G} {tys : List (ClassId × FieldType)} {w0 : va_W} {sz : Nat} {av : List Value} : FrameBlind (va_Pc av (zPre D tys w0 sz)) := by
  intro a U g mk h
  obtain ⟨h0, h1, h2, h3, h4, h5⟩ := h
  exact ⟨h0, h1, h2, va_K.moved (u := U) (U := U.calling g mk a) (Vm.Alike.refl U.vm) h3, h4, h5.calling g mk a⟩
/-- E is of this launch, these classes -/
def zOf (E : zE) (l : Launch) (D : va_G) (tys : List (ClassId × FieldType)) : Prop :=
  match E with
  | (_, l', _, _, s, _, _, _, _, _, D', tys', A, _) => l' = l ∧ D' = D ∧ tys' = tys ∧ zX A s
theorem zT_of {E : zE} {l : Launch} {D : va_G} {tys : List (ClassId × FieldType)} {t0 : Nat} {cA : ClassId} {ty : FieldType} (h : zOf E l D tys) (ht : tys[t0]? = some (cA, ty)) : zT E t0 cA ty := by
  obtain ⟨p, l, e, R, s, m, args, below, meth, c, D, tys, A, nL⟩ := E
  obtain ⟨rfl, rfl, rfl, -⟩ := h
  exact ht
/-- how E's method may end -/
def zRet (E : zE) (Q : State → Prop) (ret : Option FieldType) (post : Option Value → va_W → Prop) (mc ms : Nat) : Prop :=
  match E with
  | (p, l, e, R, s, m, args, below, meth, c, D, _, A, _) => meth.sig.returnType = ret ∧ ∀ (H : Heap) (locs : List Loc) (g : JFrame), W p l e R s m args below meth c H locs mc ms (MQ below (zQ D post A) args s mc ms A) g → W p l e R s m args below meth c H locs mc ms Q g
/-- q, thrown over the frame at pc -/
def zV (E : zE) (Q : State → Prop) (cells slots : Nat) (ws : va_W) (lv : List (Option Value)) (pc : Nat) (st : List Value) (Ex : String) : Prop :=
  match E with
  | (p, l, e, R, s, m, args, below, meth, c, D, _, A, nL) => ∀ (H : Heap) (locs : List Loc) (ls : Array Slot) (q : Nat) (ce : Cell), va_P D vwCl ws H → va_D A ws → va_S A s.heap H locs → zL nL ls lv → H[q]? = some ce → ce.vm = .none → s.vm.findClass Ex = some ce.cls → vx_W p l e R s m args below meth c H locs cells slots Q (F0 m pc ls st) q
/-- how E's method may throw -/
def zThr (E : zE) (Q : State → Prop) (w0 : va_W) (px : String → Prop) (mc ms : Nat) : Prop :=
  match E with
  | (_, l, _, _, s, _, args, below, _, c, D, _, A, _) => (∀ x ∈ c.exceptionTable.toList, False) ∧ l.stackTraces = false ∧ ∃ post : Option Value → va_W → Prop, Q = vx_MQ below (zQ D post A) (zXC D w0 px A) args s mc ms A
section ZC
variable {E : zE} {Q : State → Prop} {cells slots : Nat} {ws ws' : va_W} {lv : List (Option Value)} {pc : Nat} {st : List Value} {cc : ByteArray} {own : String} {Ts : List Cond} {rm : Room}
variable {l : Launch} {D : va_G} {tys : List (ClassId × FieldType)} {post : Option Value → va_W → Prop} {mc ms : Nat}
theorem z_perm (h : ws.Perm ws') (k : zG E Q cells slots ws' lv pc st) : zG E Q cells slots ws lv pc st := by
  obtain ⟨p, l, e, R, s, m, args, below, meth, c, D, tys, A, nL⟩ := E
  intro H locs ls hP hD hS hL
  exact k H locs ls (zP_perm h hP) (zD_perm h hD) hS hL
theorem z_iret (C : zC E cc own Ts rm) (hR : zRet E Q (some .int) post mc ms) {v : Int32} (hdg : decode cc pc = .ok (.ireturn, 1)) (hc : cells ≤ mc) (hs : slots ≤ ms) (hp : post (some (.int v)) ws) : zG E Q cells slots ws lv pc [.int v] := by
  obtain ⟨p, l, e, R, s, m, args, below, meth, c, D, tys, A, nL⟩ := E
  intro H locs ls hP hD hS hL
  refine W.widen hc hs (hR.2 H locs _ ?_)
  exact W.iret C.1 C.2.1 hR.1 (fun t ht _ => ⟨⟨_, ws, rfl, hp, by rw [ht]; exact hP, hD⟩, hS.F ht⟩) hS.2.2 hdg C.2.2.2.2.2.2.2.1
theorem z_zret (C : zC E cc own Ts rm) (hR : zRet E Q (some .boolean) post mc ms) {v : Int32} (hn : narrow .boolean (.int v) = .int v) (hdg : decode cc pc = .ok (.ireturn, 1)) (hc : cells ≤ mc) (hs : slots ≤ ms) (hp : post (some (.int v)) ws) : zG E Q cells slots ws lv pc [.int v] := by
  obtain ⟨p, l, e, R, s, m, args, below, meth, c, D, tys, A, nL⟩ := E
  intro H locs ls hP hD hS hL
  refine W.widen hc hs (hR.2 H locs _ ?_)
  exact W.zret C.1 C.2.1 hR.1 hn (fun t ht _ => ⟨⟨_, ws, rfl, hp, by rw [ht]; exact hP, hD⟩, hS.F ht⟩) hS.2.2 hdg C.2.2.2.2.2.2.2.1
theorem z_vret (C : zC E cc own Ts rm) (hR : zRet E Q none post mc ms) (hdg : decode cc pc = .ok (.return_, 1)) (hc : cells ≤ mc) (hs : slots ≤ ms) (hp : post none ws) : zG E Q cells slots ws lv pc [] := by
  obtain ⟨p, l, e, R, s, m, args, below, meth, c, D, tys, A, nL⟩ := E
  intro H locs ls hP hD hS hL
  refine W.widen hc hs (hR.2 H locs _ ?_)
  exact W.vret C.1 C.2.1 hR.1 (fun t ht _ => ⟨⟨_, ws, rfl, hp, by rw [ht]; exact hP, hD⟩, hS.F ht⟩) hS.2.2 hdg C.2.2.2.2.2.2.2.1
theorem z_aret (C : zC E cc own Ts rm) {rt : String} (hR : zRet E Q (some (.object rt)) post mc ms) {a : Nat} (hdg : decode cc pc = .ok (.areturn, 1)) (hc : cells ≤ mc) (hs : slots ≤ ms) (hp : post (some (.ref a)) ws) : zG E Q cells slots ws lv pc [.ref a] := by
  obtain ⟨p, l, e, R, s, m, args, below, meth, c, D, tys, A, nL⟩ := E
  intro H locs ls hP hD hS hL
  refine W.widen hc hs (hR.2 H locs _ ?_)
  exact W.aret C.1 C.2.1 hR.1 (Or.inl ⟨rt, rfl⟩) (Or.inr ⟨a, rfl⟩) (fun t ht _ => ⟨⟨_, ws, rfl, hp, by rw [ht]; exact hP, hD⟩, hS.F ht⟩) hS.2.2 hdg C.2.2.2.2.2.2.2.1
/-- the entry's locals -/
theorem z_args {vs : List Value} : ∀ (k : Nat), vs.all (fun v => v.category == 1) = true → (lg_sl vs).length = vs.length ∧ ∀ (i : Nat) (v : Value), vs[i]? = some v → (k + i, v) ∈ lv_args k vs ∧ v.category = 1 := by
  induction vs with
  | nil => intro k _; exact ⟨rfl, fun i v h => by simp at h⟩
  | cons a r ih =>
    intro k h
    rw [List.all_cons, Bool.and_eq_true, beq_iff_eq] at h
    have hne : ¬ a.category = 2 := by omega
    obtain ⟨g1, g2⟩ := ih (k + 1) h.2
    refine ⟨by simp [lg_sl, hne] at g1 ⊢; omega, fun i v hi => ?_⟩
    simp only [lv_args, hne, if_false]
    cases i with
    | zero =>
      have : a = v := by simpa using hi
      subst this
      exact ⟨List.mem_cons_self, h.1⟩
    | succ i =>
      have hi' : r[i]? = some v := by simpa using hi
      obtain ⟨q1, q2⟩ := g2 i v hi'
      refine ⟨List.mem_cons_of_mem _ ?_, q2⟩
      rw [show k + (i + 1) = k + 1 + i by omega]
      exact q1
theorem z_entry {vs : List Value} {n : Nat} {lv : List (Option Value)} (hc : vs.all (fun v => v.category == 1) = true) (hn : vs.length ≤ n) (hlv : vs.map some ++ List.replicate (n - vs.length) none = lv) : zL n ((lg_sl vs ++ List.replicate (n - (lg_sl vs).length) Slot.unset).toArray) lv := by
  obtain ⟨g1, g2⟩ := z_args 0 hc
  subst hlv
  refine ⟨by simp; omega, _, lv_entry vs (by rw [g1]; exact hn), fun i v hi => ?_⟩
  by_cases hlt : i < vs.length
  · rw [List.getElem?_append_left (by simpa using hlt)] at hi
    have h9 : vs[i]? = some v := by
      rw [List.getElem?_map] at hi
      cases hv : vs[i]? with
      | none => rw [hv] at hi; cases hi
      | some w => rw [hv] at hi; simpa using hi
    have := g2 i v h9
    rw [Nat.zero_add] at this
    exact this
  · rw [List.getElem?_append_right (by simp; omega), List.getElem?_replicate] at hi
    split at hi <;> simp at hi
theorem zN_of {y : MethodName} {wl wl' : List Cond} {rm : Room} {vs : List Value} {w0 : va_W} {cc : ByteArray} {maxL : Nat} {ret : Option FieldType} {lv0 : List (Option Value)} (hy : plainName y.cls = true) (hw : wl = Cond.code y cc maxL ret :: wl') (hcat : vs.all (fun v => v.category == 1) = true) (hlen : vs.length ≤ maxL) (hlv : vs.map some ++ List.replicate (maxL - vs.length) none = lv0)
    (body : ∀ (E : zE) (Q : State → Prop), zC E cc y.cls wl rm → zOf E l D tys → zRet E Q ret post mc ms → (y.name = "<init>" → zInit E) → zG E Q 0 0 w0 lv0 0 []) : zN l y wl rm D tys vs w0 post mc ms := by
  intro sz
  refine Met.ofW (cc := cc) (maxL := maxL) (ret := ret) hy hw ?_
  intro p e s m args below meth c s₁ B hml hv
  obtain ⟨rfl, hsz, hP, hK, hD0, hX⟩ := hv
  have hts := atoms_spec (ws := wl) B.pre
  have hown : s.vm.findClass y.cls = some m.cls := findClass_of_methodNamed B.named
  subst hsz
  have hD := hD0.self (sz := s.heap.size)
  rw [lg_entry_eq]
  have hA : ∀ q : Nat, s.heap.size ≤ q → va_A w0 s.heap.size q := fun q h => Or.inr h
  exact body (p, l, e, (headSpec wl rm).room, s, m, vs.toArray, below, meth, c, D, tys, va_A w0 s.heap.size, maxL) _ ⟨B.exec, B.bytes, hml, hown, hts, hK, hA, B.notSynchronized, rfl⟩ ⟨rfl, rfl, rfl, hX⟩ ⟨B.returns, fun _ _ _ h => h⟩ (fun hn => (name_of_methodNamed B.named B.method).1.trans hn) s.heap [] _ hP hD va_S.rf (z_entry hcat hlen hlv)
theorem zNX_of {y : MethodName} {wl wl' : List Cond} {rm : Room} {vs : List Value} {w0 : va_W} {px : String → Prop} {cc : ByteArray} {maxL : Nat} {ret : Option FieldType} {lv0 : List (Option Value)} (hl : l.stackTraces = false) (hy : plainName y.cls = true) (hw : wl = Cond.code y cc maxL ret :: wl') (hcat : vs.all (fun v => v.category == 1) = true) (hlen : vs.length ≤ maxL) (hlv : vs.map some ++ List.replicate (maxL - vs.length) none = lv0)
    (body : ∀ (E : zE) (Q : State → Prop), zC E cc y.cls wl rm → zOf E l D tys → zRet E Q ret post mc ms → zThr E Q w0 px mc ms → zG E Q 0 0 w0 lv0 0 []) : zNX l y wl rm D tys vs w0 post px mc ms := by
  intro sz
  refine vx_ofW (cc := cc) (maxL := maxL) (ret := ret) hy hw ?_
  intro p e s m args below meth c s₁ B hml hno hv
  obtain ⟨rfl, hsz, hP, hK, hD0, hX⟩ := hv
  have hts := atoms_spec (ws := wl) B.pre
  have hown : s.vm.findClass y.cls = some m.cls := findClass_of_methodNamed B.named
  subst hsz
  have hD := hD0.self (sz := s.heap.size)
  rw [lg_entry_eq]
  have hA : ∀ q : Nat, s.heap.size ≤ q → va_A w0 s.heap.size q := fun q h => Or.inr h
  exact body (p, l, e, (headSpec wl rm).room, s, m, vs.toArray, below, meth, c, D, tys, va_A w0 s.heap.size, maxL) _ ⟨B.exec, B.bytes, hml, hown, hts, hK, hA, B.notSynchronized, rfl⟩ ⟨rfl, rfl, rfl, hX⟩ ⟨B.returns, fun _ _ _ h => vx_ret h⟩ ⟨hno, hl, post, rfl⟩ s.heap [] _ hP hD va_S.rf (z_entry hcat hlen hlv)
end ZC
end
section
/-! THE LAYER, fourth part: calls, throws, catches. -/
section ZK
variable {p : Program} {l : Launch} {e : Env} {R : Room} {s : State} {m : MethodId} {args : Array Value} {below : List Frame} {meth : Method} {c : Code} {H : Heap} {locs : List Loc} {cells slots : Nat} {Q : State → Prop}
theorem z_hF {D : va_G} {A0 : Nat → Prop} {ws w0 fr : va_W} (hD : va_D A0 ws) (hS : va_S A0 s.heap H locs) (hA : ∀ q, s.heap.size ≤ q → A0 q) (hperm : ws.Perm (w0 ++ fr)) : ∀ q, va_A w0 H.size q → A0 q := by
  intro q hq
  rcases zA_mem.mp hq with ⟨e, h⟩ | h
  · exact (zD_mem.mp hD).2 (q, e) (hperm.mem_iff.mpr (List.mem_append_left _ h))
  · exact hA q (Nat.le_trans hS.1 h)
theorem z_pre {D : va_G} {tys : List (ClassId × FieldType)} {A0 : Nat → Prop} {ws w0 fr : va_W} (hP : va_P D vwCl ws H) (hD : va_D A0 ws) (hK : va_K D vwCl tys s) (hX : zX A0 s) (hS : va_S A0 s.heap H locs) (hA : ∀ q, s.heap.size ≤ q → A0 q) (hperm : ws.Perm (w0 ++ fr)) (U : State) (hU : U.heap = H) (hW : s.WarmedH U.vm) : zPre D tys w0 H.size U := by
  have hP2 := zP_mem.mp (zP_perm hperm hP)
  obtain ⟨n1, n2⟩ := zD_mem.mp (zD_perm hperm hD)
  rw [List.map_append, List.nodup_append] at n1
  exact ⟨by rw [hU], zP_mem.mpr fun q hq => by rw [hU]; exact hP2 q (List.mem_append_left _ hq), va_K.moved hW.alike hK, zD_mem.mpr ⟨n1.1, fun _ _ => trivial⟩, hX.go hS hU hW (z_hF (D := D) hD hS hA hperm)⟩
theorem z_ret {D : va_G} {A0 : Nat → Prop} {ws w0 fr : va_W} {pc : Nat} {ls : Array Slot} {stk st : List Value} {post : Option Value → va_W → Prop} {mc ms : Nat} {a : Array Value} (hP : va_P D vwCl ws H) (hD : va_D A0 ws) (hS : va_S A0 s.heap H locs) (hA : ∀ q, s.heap.size ≤ q → A0 q) (hperm : ws.Perm (w0 ++ fr))
    (hr : va_Run p l e R s m args below meth c H locs cells slots mc ms (F0 m pc ls stk) st (zQ D post (va_A w0 H.size) a) (va_A w0 H.size))
    (kk : ∀ (r : Option Value) (w1 : va_W) (H1 : Heap) (locs1 : List Loc), post r w1 → va_P D vwCl (w1 ++ fr) H1 → va_D A0 (w1 ++ fr) → va_S A0 s.heap H1 locs1 → W p l e R s m args below meth c H1 locs1 (cells + mc) (slots + ms) Q (F0 m (pc + 3) ls (r.toList ++ st))) : W p l e R s m args below meth c H locs cells slots Q (F0 m pc ls stk) := by
  intro T hT X
  have hF := z_hF (D := D) hD hS hA hperm
  obtain ⟨v, st₀, t, T', L, h0, X', hL, e1, e2, ⟨⟨r, w1, hv, hp, hP1, hD1⟩, hz⟩, sg⟩ := hr T hT X
  cases hv
  obtain ⟨k1, k2, k3⟩ := vx_keep h0 e1 hS (fun q _ h => hF q h) hF hL hz
  rw [← e1] at hP1
  obtain ⟨g1, g2⟩ := z_frame (zP_perm hperm hP) (zD_perm hperm hD) hF k2 hP1 hD1
  obtain ⟨t2, a1, b1⟩ := kk v w1 T'.heap (locs ++ L) hp g1 g2 k3 T' rfl X'
  exact ⟨t2, sg t2 a1, b1⟩
theorem z_retx {D : va_G} {A0 : Nat → Prop} {ws w0 fr : va_W} {pc : Nat} {ls : Array Slot} {stk st : List Value} {post : Option Value → va_W → Prop} {px : String → Prop} {mc ms : Nat} {a : Array Value} (hP : va_P D vwCl ws H) (hD : va_D A0 ws) (hS : va_S A0 s.heap H locs) (hA : ∀ q, s.heap.size ≤ q → A0 q) (hperm : ws.Perm (w0 ++ fr))
    (hr : vx_Run p l e R s m args below meth c H locs cells slots mc ms (F0 m pc ls stk) st (zQ D post (va_A w0 H.size) a) (zXC D w0 px (va_A w0 H.size)) (va_A w0 H.size))
    (kx : ∀ (Ex : String) (q : Nat) (ce : Cell) (H1 : Heap) (locs1 : List Loc), px Ex → va_P D vwCl ws H1 → va_S A0 s.heap H1 locs1 → H1[q]? = some ce → ce.vm = .none → s.vm.findClass Ex = some ce.cls → vx_W p l e R s m args below meth c H1 locs1 (cells + mc) (slots + ms) Q (F0 m pc ls st) q)
    (kk : ∀ (r : Option Value) (w1 : va_W) (H1 : Heap) (locs1 : List Loc), post r w1 → va_P D vwCl (w1 ++ fr) H1 → va_D A0 (w1 ++ fr) → va_S A0 s.heap H1 locs1 → W p l e R s m args below meth c H1 locs1 (cells + mc) (slots + ms) Q (F0 m (pc + 3) ls (r.toList ++ st))) : W p l e R s m args below meth c H locs cells slots Q (F0 m pc ls stk) := by
  intro T hT X
  have hF := z_hF (D := D) hD hS hA hperm
  rcases hr T hT X with ⟨v, st₀, t, T', L, h0, X', hL, e1, e2, ⟨⟨r, w1, hv, hp, hP1, hD1⟩, hz⟩, sg⟩ | ⟨q, st₀, t, T', L, Ex, ce, h0, X', hL, e1, e2, ⟨hp, hP1, hz⟩, hce, hcv, hcl, sg⟩
  · cases hv
    obtain ⟨k1, k2, k3⟩ := vx_keep h0 e1 hS (fun q _ h => hF q h) hF hL hz
    rw [← e1] at hP1
    obtain ⟨g1, g2⟩ := z_frame (zP_perm hperm hP) (zD_perm hperm hD) hF k2 hP1 hD1
    obtain ⟨t2, a1, b1⟩ := kk v w1 T'.heap (locs ++ L) hp g1 g2 k3 T' rfl X'
    exact ⟨t2, sg t2 a1, b1⟩
  · obtain ⟨k1, k2, k3⟩ := vx_keep h0 e1 hS (fun q _ h => hF q h) hF hL hz
    rw [← e1] at hP1
    have hD0 : va_D (va_A w0 H.size) w0 := by
      obtain ⟨n1, n2⟩ := zD_mem.mp (zD_perm hperm hD)
      rw [List.map_append, List.nodup_append] at n1
      exact zD_mem.mpr ⟨n1.1, fun q hq => zA_mem.mpr (Or.inl ⟨q.2, hq⟩)⟩
    obtain ⟨g1, -⟩ := z_frame (zP_perm hperm hP) (zD_perm hperm hD) hF k2 hP1 hD0
    obtain ⟨t2, a1, b1⟩ := kx Ex q ce T'.heap (locs ++ L) hp (zP_perm hperm.symm g1) k3 (by rw [e1]; exact hce) hcv hcl T' rfl X'
    exact ⟨t2, sg.trans a1, b1⟩
end ZK
section ZM
variable {E : zE} {Q : State → Prop} {cells slots : Nat} {ws w0 fr : va_W} {lv : List (Option Value)} {pc : Nat} {stk st : List Value} {cc : ByteArray} {own : String} {Ts : List Cond} {rm : Room}
variable {l : Launch} {D : va_G} {tys : List (ClassId × FieldType)} {post : Option Value → va_W → Prop} {px : String → Prop} {mc ms : Nat}
variable {y : MethodName} {bytes : ByteArray} {maxL n index : Nat} {ret : Option FieldType} {wl wl' : List Cond} {rm1 : Room} {b : Nat} {As : List Value} {host : String}
theorem z_callV (C : zC E cc own Ts rm) (hE : zOf E l D tys) (hM : zN l y wl rm1 D tys (.ref b :: As) w0 post mc ms) (hG : GoodIn Ts (wsV own index y.cls y wl)) (hw : wl = Cond.code y bytes maxL ret :: wl') (hm : rm1.cells = mc ∧ rm1.slots = ms) (hd : y.cls = y.cls ∧ y.cls ≠ "java/lang/invoke/MethodHandle" ∧ y.cls ≠ "java/lang/invoke/VarHandle" ∧ (parseMethodDescriptor y.desc).map (fun d => d.parameters.length) = some n) (hR : rm1.frames + 1 ≤ rm.frames ∧ 8 + (maxL + 11) + rm1.locals ≤ rm.locals) (hn : As.length = n) (hst : stk = As.reverse ++ .ref b :: st) (hperm : ws.Perm (w0 ++ fr)) (kb : Nat) {ci : Nat} {fs : List Value} {cl : vw_C} (hb : w0[kb]? = some (b, .inr (ci, fs))) (hc : vwCl[ci]? = some cl) (hcn : cl.1 = y.cls) (hcat : (st.map fun v => v.category).sum ≤ 8) (hf : cells + mc ≤ rm.cells ∧ slots + ms ≤ rm.slots) (hdg : decode cc pc = .ok (.invokevirtual index, 3)) (kk : ∀ (r : Option Value) (w1 : va_W), post r w1 → zG E Q (cells + mc) (slots + ms) (w1 ++ fr) lv (pc + 3) (r.toList ++ st)) : zG E Q cells slots ws lv pc stk := by
  obtain ⟨p, l', e, R, s, m, args, below, meth, c, D', tys', A, nL⟩ := E
  obtain ⟨rfl, rfl, rfl, hX⟩ := hE
  obtain ⟨c1, c2, c3, c4, c5, c6, c7, c8, rfl⟩ := C
  intro H locs ls hP hD hS hL
  refine z_ret hP hD hS c7 hperm (va_runV (C := y.cls) (As := As) ⟨c1, c2, c3, c4, c5⟩ (hM H.size) (cwV n c5 hG hw hm.1 hm.2 hd hR) ⟨zPre_blind, ?_, fun U hU hW => ⟨rfl, z_pre hP hD c6 hX hS c7 hperm U hU hW⟩⟩ rfl hn hL.size hst (lv_room hcat) hdg hf) (fun r w1 H1 locs1 hp hP hD hS => kk r w1 hp H1 locs1 ls hP hD hS hL)
  obtain ⟨k', hk'⟩ := List.getElem?_of_mem (hperm.mem_iff.mpr (List.mem_append_left _ (List.mem_of_getElem? hb)))
  obtain ⟨cell, q1, q2, q3⟩ := va_recv c6 hP hc hk'
  exact ⟨cell, q1, q2, by rw [← hcn]; exact q3⟩
theorem z_callVx (C : zC E cc own Ts rm) (hE : zOf E l D tys) (hM : zNX l y wl rm1 D tys (.ref b :: As) w0 post px mc ms) (hG : GoodIn Ts (wsV own index y.cls y wl)) (hw : wl = Cond.code y bytes maxL ret :: wl') (hm : rm1.cells = mc ∧ rm1.slots = ms) (hd : y.cls = y.cls ∧ y.cls ≠ "java/lang/invoke/MethodHandle" ∧ y.cls ≠ "java/lang/invoke/VarHandle" ∧ (parseMethodDescriptor y.desc).map (fun d => d.parameters.length) = some n) (hR : rm1.frames + 1 ≤ rm.frames ∧ 8 + (maxL + 11) + rm1.locals ≤ rm.locals) (hn : As.length = n) (hst : stk = As.reverse ++ .ref b :: st) (hperm : ws.Perm (w0 ++ fr)) (kb : Nat) {ci : Nat} {fs : List Value} {cl : vw_C} (hb : w0[kb]? = some (b, .inr (ci, fs))) (hc : vwCl[ci]? = some cl) (hcn : cl.1 = y.cls) (hcat : (st.map fun v => v.category).sum ≤ 8) (hf : cells + mc ≤ rm.cells ∧ slots + ms ≤ rm.slots) (hdg : decode cc pc = .ok (.invokevirtual index, 3)) (kx : ∀ Ex : String, px Ex → zV E Q (cells + mc) (slots + ms) ws lv pc st Ex) (kk : ∀ (r : Option Value) (w1 : va_W), post r w1 → zG E Q (cells + mc) (slots + ms) (w1 ++ fr) lv (pc + 3) (r.toList ++ st)) : zG E Q cells slots ws lv pc stk := by
  obtain ⟨p, l', e, R, s, m, args, below, meth, c, D', tys', A, nL⟩ := E
  obtain ⟨rfl, rfl, rfl, hX⟩ := hE
  obtain ⟨c1, c2, c3, c4, c5, c6, c7, c8, rfl⟩ := C
  intro H locs ls hP hD hS hL
  refine z_retx hP hD hS c7 hperm (vx_runV (C := y.cls) (As := As) ⟨c1, c2, c3, c4, c5⟩ (hM H.size) (cwV n c5 hG hw hm.1 hm.2 hd hR) ⟨zPre_blind, ?_, fun U hU hW => ⟨rfl, z_pre hP hD c6 hX hS c7 hperm U hU hW⟩⟩ rfl hn hL.size hst (lv_room hcat) hdg hf) (fun Ex q ce H1 locs1 hp hP hS hq hcv hcl => kx Ex hp H1 locs1 ls q ce hP hD hS hL hq hcv hcl) (fun r w1 H1 locs1 hp hP hD hS => kk r w1 hp H1 locs1 ls hP hD hS hL)
  obtain ⟨k', hk'⟩ := List.getElem?_of_mem (hperm.mem_iff.mpr (List.mem_append_left _ (List.mem_of_getElem? hb)))
  obtain ⟨cell, q1, q2, q3⟩ := va_recv c6 hP hc hk'
  exact ⟨cell, q1, q2, by rw [← hcn]; exact q3⟩
theorem z_callS (C : zC E cc own Ts rm) (hE : zOf E l D tys) (hM : zN l y wl rm1 D tys As w0 post mc ms) (hG : GoodIn Ts (va_wsS own index y wl)) (hw : wl = Cond.code y bytes maxL ret :: wl') (hm : rm1.cells = mc ∧ rm1.slots = ms) (hd : y.cls ≠ "java/lang/invoke/MethodHandle" ∧ y.cls ≠ "java/lang/invoke/VarHandle" ∧ (parseMethodDescriptor y.desc).map (fun d => d.parameters.length) = some n) (hR : rm1.frames + 1 ≤ rm.frames ∧ 8 + (maxL + 11) + rm1.locals ≤ rm.locals) (hn : As.length = n) (hst : stk = As.reverse ++ st) (hperm : ws.Perm (w0 ++ fr)) (hcat : (st.map fun v => v.category).sum ≤ 8) (hf : cells + mc ≤ rm.cells ∧ slots + ms ≤ rm.slots) (hdg : decode cc pc = .ok (.invokestatic index, 3)) (kk : ∀ (r : Option Value) (w1 : va_W), post r w1 → zG E Q (cells + mc) (slots + ms) (w1 ++ fr) lv (pc + 3) (r.toList ++ st)) : zG E Q cells slots ws lv pc stk := by
  obtain ⟨p, l', e, R, s, m, args, below, meth, c, D', tys', A, nL⟩ := E
  obtain ⟨rfl, rfl, rfl, hX⟩ := hE
  obtain ⟨c1, c2, c3, c4, c5, c6, c7, c8, rfl⟩ := C
  intro H locs ls hP hD hS hL
  exact z_ret hP hD hS c7 hperm (va_runS (As := As) ⟨c1, c2, c3, c4, c5⟩ (hM H.size) (va_cwS n c5 hG hw hm.1 hm.2 hd hR) ⟨zPre_blind, fun U hU hW => ⟨rfl, z_pre hP hD c6 hX hS c7 hperm U hU hW⟩⟩ rfl hn hL.size hst (lv_room hcat) hdg hf) (fun r w1 H1 locs1 hp hP hD hS => kk r w1 hp H1 locs1 ls hP hD hS hL)
theorem z_callSN (C : zC E cc own Ts rm) (hE : zOf E l D tys) (hM : zN l y wl rm1 D tys As w0 post mc ms) (hG : GoodIn Ts wl) (hw : wl = Cond.code y bytes maxL ret :: wl') (hm : rm1.cells = mc ∧ rm1.slots = ms) (hl : Cond.methodLinkNest own index y host ∈ zNs) (hini : Cond.initialized y.cls ∈ Ts) (hstt : Cond.static y ∈ Ts) (hd : y.cls ≠ "java/lang/invoke/MethodHandle" ∧ y.cls ≠ "java/lang/invoke/VarHandle" ∧ (parseMethodDescriptor y.desc).map (fun d => d.parameters.length) = some n) (hR : rm1.frames + 1 ≤ rm.frames ∧ 8 + (maxL + 11) + rm1.locals ≤ rm.locals) (hn : As.length = n) (hst : stk = As.reverse ++ st) (hperm : ws.Perm (w0 ++ fr)) (hcat : (st.map fun v => v.category).sum ≤ 8) (hf : cells + mc ≤ rm.cells ∧ slots + ms ≤ rm.slots) (hdg : decode cc pc = .ok (.invokestatic index, 3)) (kk : ∀ (r : Option Value) (w1 : va_W), post r w1 → zG E Q (cells + mc) (slots + ms) (w1 ++ fr) lv (pc + 3) (r.toList ++ st)) : zG E Q cells slots ws lv pc stk := by
  obtain ⟨p, l', e, R, s, m, args, below, meth, c, D', tys', A, nL⟩ := E
  obtain ⟨rfl, rfl, rfl, hX⟩ := hE
  obtain ⟨c1, c2, c3, c4, c5, c6, c7, c8, rfl⟩ := C
  intro H locs ls hP hD hS hL
  exact z_ret hP hD hS c7 hperm (va_runSN (As := As) ⟨c1, c2, c3, c4, c5⟩ (hM H.size) ⟨va_cnB n c5 hG hw hm.1 hm.2 (hX.1 _ hl) (c5 _ hini) hd hR, c5 _ hstt, trivial⟩ ⟨zPre_blind, fun U hU hW => ⟨rfl, z_pre hP hD c6 hX hS c7 hperm U hU hW⟩⟩ rfl hn hL.size hst (lv_room hcat) hdg hf) (fun r w1 H1 locs1 hp hP hD hS => kk r w1 hp H1 locs1 ls hP hD hS hL)
theorem z_callI (C : zC E cc own Ts rm) (hE : zOf E l D tys) (hM : zN l y wl rm1 D tys (.ref b :: As) w0 post mc ms) (hG : GoodIn Ts wl) (hw : wl = Cond.code y bytes maxL none :: wl') (hm : rm1.cells = mc ∧ rm1.slots = ms) (hini : Cond.initialized y.cls ∈ Ts) (hlk : Cond.methodLink own index y ∈ Ts) (hin : Cond.instanceMethod y ∈ Ts) (hy1 : y.name = "<init>") (hd : y.cls ≠ "java/lang/invoke/MethodHandle" ∧ y.cls ≠ "java/lang/invoke/VarHandle" ∧ (parseMethodDescriptor y.desc).map (fun d => d.parameters.length) = some n) (hR : rm1.frames + 1 ≤ rm.frames ∧ 8 + (maxL + 11) + rm1.locals ≤ rm.locals) (hn : As.length = n) (hst : stk = As.reverse ++ .ref b :: st) (hperm : ws.Perm (w0 ++ fr)) (hcat : (st.map fun v => v.category).sum ≤ 8) (hf : cells + mc ≤ rm.cells ∧ slots + ms ≤ rm.slots) (hdg : decode cc pc = .ok (.invokespecial index, 3)) (kk : ∀ (r : Option Value) (w1 : va_W), post r w1 → zG E Q (cells + mc) (slots + ms) (w1 ++ fr) lv (pc + 3) (r.toList ++ st)) : zG E Q cells slots ws lv pc stk := by
  obtain ⟨p, l', e, R, s, m, args, below, meth, c, D', tys', A, nL⟩ := E
  obtain ⟨rfl, rfl, rfl, hX⟩ := hE
  obtain ⟨c1, c2, c3, c4, c5, c6, c7, c8, rfl⟩ := C
  intro H locs ls hP hD hS hL
  exact z_ret hP hD hS c7 hperm (va_runI (As := As) ⟨c1, c2, c3, c4, c5⟩ (hM H.size) (cwI n c5 hG hw hm.1 hm.2 (c5 _ hini) (c5 _ hlk) (c5 _ hin) hy1 hd hR) ⟨zPre_blind, fun U hU hW => ⟨rfl, z_pre hP hD c6 hX hS c7 hperm U hU hW⟩⟩ rfl hn hL.size hst (lv_room hcat) hdg hf) (fun r w1 H1 locs1 hp hP hD hS => kk r w1 hp H1 locs1 ls hP hD hS hL)
theorem z_callIN (C : zC E cc own Ts rm) (hE : zOf E l D tys) (hM : zN l y wl rm1 D tys (.ref b :: As) w0 post mc ms) (hG : GoodIn Ts wl) (hw : wl = Cond.code y bytes maxL none :: wl') (hm : rm1.cells = mc ∧ rm1.slots = ms) (hl : Cond.methodLinkNest own index y host ∈ zNs) (hini : Cond.initialized y.cls ∈ Ts) (hin : Cond.instanceMethod y ∈ Ts) (hy1 : y.name = "<init>") (hd : y.cls ≠ "java/lang/invoke/MethodHandle" ∧ y.cls ≠ "java/lang/invoke/VarHandle" ∧ (parseMethodDescriptor y.desc).map (fun d => d.parameters.length) = some n) (hR : rm1.frames + 1 ≤ rm.frames ∧ 8 + (maxL + 11) + rm1.locals ≤ rm.locals) (hn : As.length = n) (hst : stk = As.reverse ++ .ref b :: st) (hperm : ws.Perm (w0 ++ fr)) (hcat : (st.map fun v => v.category).sum ≤ 8) (hf : cells + mc ≤ rm.cells ∧ slots + ms ≤ rm.slots) (hdg : decode cc pc = .ok (.invokespecial index, 3)) (kk : ∀ (r : Option Value) (w1 : va_W), post r w1 → zG E Q (cells + mc) (slots + ms) (w1 ++ fr) lv (pc + 3) (r.toList ++ st)) : zG E Q cells slots ws lv pc stk := by
  obtain ⟨p, l', e, R, s, m, args, below, meth, c, D', tys', A, nL⟩ := E
  obtain ⟨rfl, rfl, rfl, hX⟩ := hE
  obtain ⟨c1, c2, c3, c4, c5, c6, c7, c8, rfl⟩ := C
  intro H locs ls hP hD hS hL
  exact z_ret hP hD hS c7 hperm (va_runIN (As := As) ⟨c1, c2, c3, c4, c5⟩ (hM H.size) ⟨va_cnB n c5 hG hw hm.1 hm.2 (hX.1 _ hl) (c5 _ hini) hd hR, hy1, c5 _ hin⟩ ⟨zPre_blind, fun U hU hW => ⟨rfl, z_pre hP hD c6 hX hS c7 hperm U hU hW⟩⟩ rfl hn hL.size hst (lv_room hcat) hdg hf) (fun r w1 H1 locs1 hp hP hD hS => kk r w1 hp H1 locs1 ls hP hD hS hL)
theorem z_objInit (C : zC E cc own Ts rm) {idx b : Nat} (h1 : Cond.methodLink own idx objectInit ∈ Ts) (h2 : Cond.instanceMethod objectInit ∈ Ts) (h3 : Cond.code objectInit ⟨#[0xb1]⟩ 1 none ∈ Ts) (hcat : (st.map fun v => v.category).sum ≤ 8) (hr : 1 ≤ rm.frames ∧ 20 ≤ rm.locals) (hdg : decode cc pc = .ok (.invokespecial idx, 3)) (k : zG E Q cells slots ws lv (pc + 3) st) : zG E Q cells slots ws lv pc (.ref b :: st) := by
  obtain ⟨p, l, e, R, s, m, args, below, meth, c, D, tys, A, nL⟩ := E
  obtain ⟨c1, c2, c3, c4, c5, c6, c7, c8, rfl⟩ := C
  intro H locs ls hP hD hS hL
  refine W.objInit c1 c2 c4 (c5 _ h1) (c5 _ h2) (c5 _ h3) rfl (hL.size.trans c3.symm) rfl hdg hr.1 ?_ (k H locs ls hP hD hS hL)
  have := lv_room (m := m) (pc := pc) (ls := ls) (rest := .ref b :: st) hcat
  omega
theorem z_max (C : zC E cc own Ts rm) {x y : Int32} {idx : Nat} (h1 : Cond.methodLink own idx Lib.Math.max.name ∈ Ts) (h2 : Cond.static Lib.Math.max.name ∈ Ts) (h3 : Cond.initialized "java/lang/Math" ∈ Ts) (h4 : Cond.code Lib.Math.max.name Lib.Math.max.code 2 (some .int) ∈ Ts) (hcat : (st.map fun v => v.category).sum ≤ 8) (hr : 1 ≤ rm.frames ∧ 21 ≤ rm.locals) (hc : cells ≤ rm.cells ∧ slots ≤ rm.slots) (hdg : decode cc pc = .ok (.invokestatic idx, 3)) (k : zG E Q cells slots ws lv (pc + 3) (.int (if x < y then y else x) :: st)) : zG E Q cells slots ws lv pc (.int y :: .int x :: st) := by
  obtain ⟨p, l, e, R, s, m, args, below, meth, c, D, tys, A, nL⟩ := E
  obtain ⟨c1, c2, c3, c4, c5, c6, c7, c8, rfl⟩ := C
  intro H locs ls hP hD hS hL
  exact va_mmax c1 c2 (c3.trans hL.size.symm) c4 (c5 _ h1) (c5 _ h2) (c5 _ h3) (c5 _ h4) hr.1 (by omega) hc.1 hc.2 hdg (k H locs ls hP hD hS hL)
theorem z_min (C : zC E cc own Ts rm) {x y : Int32} {idx : Nat} (h1 : Cond.methodLink own idx Lib.Math.min.name ∈ Ts) (h2 : Cond.static Lib.Math.min.name ∈ Ts) (h3 : Cond.initialized "java/lang/Math" ∈ Ts) (h4 : Cond.code Lib.Math.min.name Lib.Math.min.code 2 (some .int) ∈ Ts) (hcat : (st.map fun v => v.category).sum ≤ 8) (hr : 1 ≤ rm.frames ∧ 21 ≤ rm.locals) (hc : cells ≤ rm.cells ∧ slots ≤ rm.slots) (hdg : decode cc pc = .ok (.invokestatic idx, 3)) (k : zG E Q cells slots ws lv (pc + 3) (.int (if y < x then y else x) :: st)) : zG E Q cells slots ws lv pc (.int y :: .int x :: st) := by
  obtain ⟨p, l, e, R, s, m, args, below, meth, c, D, tys, A, nL⟩ := E
  obtain ⟨c1, c2, c3, c4, c5, c6, c7, c8, rfl⟩ := C
  intro H locs ls hP hD hS hL
  exact va_mmin c1 c2 (c3.trans hL.size.symm) c4 (c5 _ h1) (c5 _ h2) (c5 _ h3) (c5 _ h4) hr.1 (by omega) hc.1 hc.2 hdg (k H locs ls hP hD hS hL)
/-- throw new X("text") that leaves the method -/
theorem z_throw (C : zC E cc own Ts rm) (hE : zOf E l D tys) (hT : zThr E Q w0 px mc ms) (ho : own = RX4) {cls text : String} {ik is ic : Nat} (hw : ws = w0) (hpx : px cls) (hcls : Bundle.fit cls = true) (hk : Cond.classLink own ik cls ∈ Ts) (hini : Cond.initialized cls ∈ Ts) (hat : ∀ w ∈ (vx_atS own ic cls ["java/lang/RuntimeException", "java/lang/Exception"]).filter goodWord, w ∈ Ts) (hng : ∀ w ∈ (vx_atS own ic cls ["java/lang/RuntimeException", "java/lang/Exception"]).filter (fun w => !goodWord w), w ∈ zNs)
    (hgood : ∀ w ∈ Cond.classLink own ik cls :: Cond.initialized cls :: vx_atS own ic cls ["java/lang/RuntimeException", "java/lang/Exception"], vx_ot w = true) (hs : (is, text) ∈ zSt)
    (d0 : decode cc pc = .ok (.new ik, 3)) (d3 : decode cc (pc + 3) = .ok (.dup, 1)) (d4 : decode cc (pc + 4) = .ok (.ldc is, 2)) (d6 : decode cc (pc + 6) = .ok (.invokespecial ic, 3)) (d9 : decode cc (pc + 9) = .ok (.athrow, 1))
    (hcat : (st.map fun v => v.category).sum ≤ 8) (hr : 6 ≤ rm.frames ∧ 90 ≤ rm.locals) (hc : cells + 1 ≤ rm.cells ∧ slots + 6 ≤ rm.slots) (hm : cells + 1 ≤ mc ∧ slots + 6 ≤ ms) : zG E Q cells slots ws lv pc st := by
  obtain ⟨p, l', e, R, s, m, args, below, meth, c, D', tys', A, nL⟩ := E
  obtain ⟨rfl, rfl, rfl, hX⟩ := hE
  obtain ⟨c1, c2, c3, c4, c5, c6, c7, c8, rfl⟩ := C
  obtain ⟨t1, t2, post, rfl⟩ := hT
  subst hw
  intro H locs ls hP hD hS hL
  obtain ⟨sa, hsa⟩ := hX.2.2.1 _ hs
  refine vx_throwS (names := ["java/lang/RuntimeException", "java/lang/Exception"]) c1 c2 t2 c4 hcls (by decide +kernel) (c5 _ hk) (c5 _ hini) (by rw [ho]; exact hsa) (vx_hat (fun w hw => c5 _ (hat w hw)) hng (fun w hw => va_Nw.use (zNs_tables w hw) (hX.1 w hw))) hgood hX.2.2.2.2.1 hX.2.2.2.2.2 hS (hL.size.trans c3.symm) d0 d3 d4 d6 d9 (fun x hx => (t1 x hx).elim) (by show 2 + 3 < _; omega) (by show _ + (13 * (2 + 1) + 43) ≤ _; omega) hc.1 hc.2 c8 (fun t hv hz hk => ⟨hpx, ?_, ?_⟩) hS.2.2 hm.1 hm.2
  · exact hP.kept fun k q hq => hk q.1 (hP k q hq).lt
  · exact ⟨Nat.le_trans hS.1 hz, fun q h1 h2 => by rw [hk q (Nat.lt_of_lt_of_le h1 hS.1)]; exact hS.2.1 q h1 h2⟩
/-- a callee's throw leaves the method -/
theorem z_out (C : zC E cc own Ts rm) (hT : zThr E Q w0 px mc ms) {Ex : String} (hw : ws = w0) (hpx : px Ex) (hm : cells ≤ mc ∧ slots ≤ ms) : zV E Q cells slots ws lv pc st Ex := by
  obtain ⟨p, l', e, R, s, m, args, below, meth, c, D', tys', A, nL⟩ := E
  obtain ⟨c1, c2, c3, c4, c5, c6, c7, c8, rfl⟩ := C
  obtain ⟨t1, t2, post, rfl⟩ := hT
  subst hw
  intro H locs ls q ce hP hD hS hL hq hcv hcl
  exact vx_out (fun x hx => (t1 x hx).elim) c8 hq hcv hcl (fun t ht _ => ⟨hpx, by rw [ht]; exact hP, hS.F ht⟩) hS.2.2 hm.1 hm.2
end ZM
end
