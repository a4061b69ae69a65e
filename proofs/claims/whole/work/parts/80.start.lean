/-! THE LAW'S START. -/
theorem lw_D {s : State} {args : Array Value} (hts : ∀ w ∈ lw_tbl, w.before args s = true) : ∃ D : va_G, ∀ (c : Nat) (q : vw_C), vwCl[c]? = some q → u_Kn s q.1 q.2.1 q.2.2 (D.1 c) (D.2 c) := by
  have h : ∀ c : Nat, ∃ (x : ClassId) (g : Nat → Nat), ∀ q : vw_C, vwCl[c]? = some q → u_Kn s q.1 q.2.1 q.2.2 x g := by
    intro c
    match c with
    | 0 =>
      obtain ⟨a, g, hk⟩ := u_known hts inX0 (hts (.instantiable RX0 3) (by decide +kernel))
      exact ⟨a, g, fun q hq => by cases hq; exact hk⟩
    | 1 =>
      obtain ⟨a, g, hk⟩ := u_known hts inX1 (hts (.instantiable RX1 4) (by decide +kernel))
      exact ⟨a, g, fun q hq => by cases hq; exact hk⟩
    | 2 =>
      obtain ⟨a, g, hk⟩ := u_known hts inX2 (hts (.instantiable RX2 7) (by decide +kernel))
      exact ⟨a, g, fun q hq => by cases hq; exact hk⟩
    | 3 =>
      obtain ⟨a, g, hk⟩ := u_known hts inX3 (hts (.instantiable RX3 6) (by decide +kernel))
      exact ⟨a, g, fun q hq => by cases hq; exact hk⟩
    | 4 =>
      obtain ⟨a, g, hk⟩ := u_known hts inX4 (hts (.instantiable RX4 8) (by decide +kernel))
      exact ⟨a, g, fun q hq => by cases hq; exact hk⟩
    | 5 =>
      obtain ⟨a, g, hk⟩ := u_known hts inX5 (hts (.instantiable RX5 20) (by decide +kernel))
      exact ⟨a, g, fun q hq => by cases hq; exact hk⟩
    | c + 6 => exact ⟨0, fun _ => 0, fun q hq => by cases hq⟩
  exact ⟨(fun c => Classical.choose (h c), fun c => Classical.choose (Classical.choose_spec (h c))), fun c q hq => Classical.choose_spec (Classical.choose_spec (h c)) q hq⟩
theorem lw_arrI {s : State} {args : Array Value} (h : (Cond.arrayClass .int).before args s = true) : ∃ cA, ArrOfT s cA .int ∧ va_RA s cA .int := by
  obtain ⟨c, k, comp, h1, h2, h3⟩ := Cond.arrayClass_spec (args := args) (first := s) (o := none) (idx := []) h
  exact ⟨c, fun n z => ⟨fun k h => (by cases h), k, h2, comp, h3⟩, h1⟩
theorem lw_arrZ {s : State} {args : Array Value} (h : (Cond.arrayClass .boolean).before args s = true) : ∃ cA, ArrOfT s cA .boolean ∧ va_RA s cA .boolean := by
  obtain ⟨c, k, comp, h1, h2, h3⟩ := Cond.arrayClass_spec (args := args) (first := s) (o := none) (idx := []) h
  exact ⟨c, fun n z => ⟨fun k h => (by cases h), k, h2, comp, h3⟩, h1⟩
theorem lw_arrJ {s : State} {args : Array Value} (h : (Cond.arrayClass .long).before args s = true) : ∃ cA, ArrOfT s cA .long ∧ va_RA s cA .long := by
  obtain ⟨c, k, comp, h1, h2, h3⟩ := Cond.arrayClass_spec (args := args) (first := s) (o := none) (idx := []) h
  exact ⟨c, fun n z => ⟨fun k h => (by cases h), k, h2, comp, h3⟩, h1⟩
theorem lw_arrO {s : State} {args : Array Value} {C : String} (h : (Cond.arrayOver (.object C)).before args s = true) : ∃ cA, ArrOfT s cA (.object C) ∧ va_RA s cA (.object C) := by
  obtain ⟨comp, c, k, h1, -, h2, h3, h4⟩ := Cond.arrayOver_spec (args := args) (first := s) (o := none) (idx := []) h
  exact ⟨c, fun n z => ⟨fun k h => (by cases h), k, h2, comp, h3⟩, k, comp, h2, h3, h1, h4⟩
theorem lw_inNs : ∀ w ∈ zNs, w ∈ lw_tbl := by decide +kernel
theorem lw_inSt : ∀ q ∈ zSt, Cond.stringRef RX4 q.1 q.2 ∈ lw_tbl := by decide +kernel
theorem lw_inNo : ∀ q ∈ zNo, Cond.not (.castable q.1 q.2) ∈ flatC (Jvm.Cond.and given_1 narrow_1) := by decide +kernel
theorem lw_zX {s : State} {args : Array Value} (hts : ∀ w ∈ lw_tbl, w.before args s = true) (hgv : (Jvm.Cond.and given_1 narrow_1).before args s = true) : zX (fun q => s.heap.size ≤ q) s := by
  have hg := flat_of_before _ hgv
  obtain ⟨c4, k4, hfc, -⟩ := Cond.instantiable_spec (args := args) (first := s) (o := none) (idx := []) (hts (.instantiable RX4 8) (by decide +kernel))
  refine ⟨fun w hw => va_Nw.of (zNs_tables w hw) (hts w (lw_inNs w hw)), va_AO.of (hts (.arrayOver (.object "PaperGuild$Model")) (by decide +kernel)), fun q hq => ?_, fun q hq => va_Nc.of (hg _ (lw_inNo q hq)), ?_, ?_⟩
  · have h1 := hts _ (lw_inSt q hq)
    obtain ⟨k, cf, i, a, -, -, -, -, -, hev⟩ := Cond.stringRef_spec (args := args) (first := s) (o := none) (idx := []) hfc h1
    exact ⟨a, vk_R.of h1 hev⟩
  · exact vx_Zqof (hts (.laysStatic Bundle.tN "UNASSIGNED_STACK" Bundle.steD) (by decide +kernel)) (hts (.initialized Bundle.tN) (by decide +kernel)) (hg (.isRef (.static Bundle.tN "UNASSIGNED_STACK" Bundle.steD)) (by decide +kernel)) (fun a h1 h2 => by omega)
  · exact vx_Zqof (hts (.laysStatic Bundle.tN "SUPPRESSED_SENTINEL" Bundle.listD) (by decide +kernel)) (hts (.initialized Bundle.tN) (by decide +kernel)) (hg (.isRef (.static Bundle.tN "SUPPRESSED_SENTINEL" Bundle.listD)) (by decide +kernel)) (fun a h1 h2 => by omega)
/-- at first the class and the reference hold the same -/
theorem rlx_new (μ : Nat → zM) : rlx 0 0 (fun _ => iI 0) (fun _ => iI 0) (fun _ => iI 0) μ (fun _ => 0) (fun _ => 0) (fun _ => 0) (fun _ => 0) (fun _ => 0) (fun _ => 0) :=
  ⟨⟨by omega, fun i h => absurd h (Nat.not_lt_zero i), by omega, by omega⟩, fun _ _ _ => byt_0, fun _ _ _ => byt_0, fun _ _ _ => rfl, fun _ _ _ => rfl, fun i h => absurd h (Nat.not_lt_zero i)⟩
def zM0 : zM := (0, 0, 0, 0, 0, 0, 0, 0, 0, 0, 0, 0, fun _ => 0, fun _ => 0, fun _ => 0, fun _ => 0, fun _ => 0, fun _ => 0, fun _ => 0, 0, 0)
set_option maxHeartbeats 1000000 in
theorem law_start {E : zE} {Q : State → Prop} {l : Launch} (hl : l.stackTraces = false) {D : va_G} {cI cZ cM cL : ClassId} {b L : Nat} {xs : Nat → Int32} (C : zC E cL_law RL wsL_law room_1) (hE : zOf E l D (zTy cI cZ cM cL)) (hS : zScr E b L xs) (hL : L ≤ 2560)
    (kEnd : ∀ (lv : List (Option Value)) (ws : va_W) (c9 s9 : Nat), c9 ≤ 601024 → s9 ≤ 7293034 → zG E Q c9 s9 ws lv 1491 [.int (iI 1)]) : zG E Q 0 0 [] [some (.ref b), none, none, none, none, none, none] 0 [] := by
  refine z_new (ci := 4) (fs := [.null, .null, .null, .null, .int (iI 0), .null, .null, .null]) C inlX4 tyX4_ok (by decide +kernel) (by decide +kernel) (by decide +kernel) rfl (by decide) (Nat.le_of_ble_eq_true rfl) (Nat.le_of_ble_eq_true rfl) dL_law_0 (fun h => ?_)
  refine z_dup C dL_law_3 rfl ?_
  refine z_callI (n := 0) (As := []) (st := [.ref h]) (fr := []) C hE (k_GuildInit l D cI cZ cM cL h (fun _ => zM0)) gL_law_X4_init rfl ⟨rfl, rfl⟩ (by decide +kernel) (by decide +kernel) (by decide +kernel) rfl (by decide +kernel) ⟨Nat.le_of_ble_eq_true rfl, Nat.le_of_ble_eq_true rfl⟩ rfl rfl (List.Perm.refl _) (Nat.le_of_ble_eq_true rfl) ⟨Nat.le_of_ble_eq_true rfl, Nat.le_of_ble_eq_true rfl⟩ dL_law_4 (fun r1 w1 hp1 => ?_)
  obtain ⟨rfl, nd, kn, gm, us, fo, fh, mi, fw, wt, hw1⟩ := hp1
  refine z_eq (ws' := w1) (st' := [.ref h]) (List.append_nil _) rfl ?_
  refine z_astore_n (i := 1) (lv' := [some (.ref b), some (.ref h), none, none, none, none, none]) C dL_law_7 rfl rfl rfl ?_
  refine z_new (ci := 5) (fs := [.null, .int (iI 0), .null, .null, .null, .null, .null, .null, .null, .int (iI 0), .int (iI 0), .null, .null, .null, .null, .null, .int (iI 0), .int (iI 0), .null, .int (iI 0)]) C inlX5 tyX5_ok (by decide +kernel) (by decide +kernel) (by decide +kernel) rfl (by decide) (Nat.le_of_ble_eq_true rfl) (Nat.le_of_ble_eq_true rfl) dL_law_8 (fun r => ?_)
  refine z_dup C dL_law_11 rfl ?_
  refine z_callI (n := 0) (As := []) (st := [.ref r]) (fr := w1) C hE (k_rinit l D cI cZ cM cL r) gL_law_X5_init rfl ⟨rfl, rfl⟩ (by decide +kernel) (by decide +kernel) (by decide +kernel) rfl (by decide +kernel) ⟨Nat.le_of_ble_eq_true rfl, Nat.le_of_ble_eq_true rfl⟩ rfl rfl List.perm_append_comm (Nat.le_of_ble_eq_true rfl) ⟨Nat.le_of_ble_eq_true rfl, Nat.le_of_ble_eq_true rfl⟩ dL_law_12 (fun r2 w2 hp2 => ?_)
  obtain ⟨rfl, e1, e2, e3, e4, e5, e6, e7, e8, e9, e10, e11, e12, e13, e14, hw2⟩ := hp2
  refine z_eq (ws' := w2 ++ w1) (st' := [.ref r]) rfl rfl ?_
  refine z_astore_n (i := 2) (lv' := [some (.ref b), some (.ref h), some (.ref r), none, none, none, none]) C dL_law_15 rfl rfl rfl ?_
  refine z_iconst (v := iI 1) C dL_law_16 rfl ?_
  refine z_newlong (t0 := 3) (N := 1) C (by decide +kernel) (zT_of hE rfl) rfl (Nat.le_of_ble_eq_true rfl) (Nat.le_of_ble_eq_true rfl) (Nat.le_of_ble_eq_true rfl) dL_law_17 (fun o => ?_)
  refine z_astore_n (i := 3) (lv' := [some (.ref b), some (.ref h), some (.ref r), some (.ref o), none, none, none]) C dL_law_19 rfl rfl rfl ?_
  refine z_iconst (v := iI ↑(5 * 0)) C dL_law_20 rfl ?_
  refine z_istore (lv' := [some (.ref b), some (.ref h), some (.ref r), some (.ref o), some (.int (iI ↑(5 * 0))), none, none]) C dL_law_21 rfl rfl ?_
  refine z_perm (ws' := [(o, lr cL 1 (fun _ => 0))] ++ (w1 ++ w2)) (List.perm_append_comm.trans (List.Perm.append_left _ List.perm_append_comm)) ?_
  refine z_widen (k := 26 + 40 * 0) (n := 1115 + 400 * 0) (Nat.le_of_ble_eq_true rfl) (Nat.le_of_ble_eq_true rfl) ?_
  exact law_loop hl C hE hS hL (A0 := 26) (B0 := 1115) (by omega) (by omega) (fun _ _ _ _ c9 s9 _ h1 h2 _ => kEnd _ _ c9 s9 h1 h2) 513 0 0 w1 w2 (fun _ => 0) (by omega) (by omega) ⟨nd, kn, gm, us, fo, fh, mi, fw, wt, 0, fun _ => iI 0, fun _ => iI 0, fun _ => iI 0, fun _ => zM0, 0, 0, 0, fun _ => 0, 0, iI 0, fun _ => 0, fun _ => 0, e1, e2, e3, e4, e5, e6, e7, e8, e9, e10, e11, e12, e13, e14, 0, 0, fun _ => 0, fun _ => 0, fun _ => 0, fun _ => 0, fun _ => 0, fun _ => 0, fun _ => 0, fun _ => 0, fun _ => 0, fun _ => 0, fun _ => 0, hw1, hw2, rlx_new _⟩
/-- YOUR PART: from the entry, for every script of at most 2560 ints, the law comes to its end with true ('hflags': the launch's flags, for a law that throws: no stack traces) -/
theorem whole_start {p : Program} {e : Env} {s : State} {m : MethodId} {below : List Frame} {meth : Method} {c : Code} (l : Launch) (hflags : l.flags = flags0) {b L : Nat} {xs : Nat → Int32} (hL : L ≤ 2560) (C0 : lw_At p s m meth c b L xs) : W p l e room_1 s m #[Value.ref b] below meth c s.heap [] 0 0 (lw_Z below #[Value.ref b] s) (entryFrame m ([Value.ref b] : List Value).toArray 7) := by
  obtain ⟨hx, hb, hr, hml, hown, hts, hX, hbl, hlocks, hgv⟩ := C0
  have hl : l.stackTraces = false := by unfold Launch.stackTraces; rw [hflags]; decide +kernel
  obtain ⟨D, hD⟩ := lw_D hts
  obtain ⟨cI, i1, i2⟩ := lw_arrI (hts (.arrayClass .int) (by decide +kernel))
  obtain ⟨cZ, z1, z2⟩ := lw_arrZ (hts (.arrayClass .boolean) (by decide +kernel))
  obtain ⟨cM, m1, m2⟩ := lw_arrO (hts (.arrayOver (.object "PaperGuild$Model")) (by decide +kernel))
  obtain ⟨cL, j1, j2⟩ := lw_arrJ (hts (.arrayClass .long) (by decide +kernel))
  have hK : va_K D vwCl (zTy cI cZ cM cL) s := by
    refine ⟨hD, fun k q hq => ?_⟩
    match k with
    | 0 => cases hq; exact ⟨i1, i2⟩
    | 1 => cases hq; exact ⟨z1, z2⟩
    | 2 => cases hq; exact ⟨m1, m2⟩
    | 3 => cases hq; exact ⟨j1, j2⟩
    | k + 4 => cases hq
  rw [lg_entry_eq]
  exact law_start (E := (p, l, e, room_1, s, m, #[Value.ref b], below, meth, c, D, zTy cI cZ cM cL, fun q => s.heap.size ≤ q, 7)) (Q := lw_Z below #[Value.ref b] s) hl (xs := xs) ⟨hx, hb, hml, hown, fun w hw => hts w (wsL_law_in w hw), hK, fun _ h => h, hlocks, rfl⟩ ⟨rfl, rfl, rfl, lw_zX hts hgv⟩ ⟨hX, hbl, fun h => absurd h (Nat.not_le_of_lt hbl)⟩ hL
    (fun lv ws c9 s9 h1 h2 H locs ls hP hD hS hL => va_forget hS.2.2 (W.widen h1 h2 (lw_ret hx hb hr hlocks dL_law_1491)))
    s.heap [] _ (fun k q hq => by cases hq) ⟨fun i j p q hp => (by cases hp), fun k q hq => (by cases hq)⟩ va_S.rf (z_entry (vs := [Value.ref b]) rfl (Nat.le_of_ble_eq_true rfl) rfl)
