/-! P26: THE LAW'S START. -/
theorem lw_D {s : State} {args : Array Value} (hts : ∀ w ∈ lw_tbl, w.before args s = true) : ∃ D : va_G, ∀ (c : Nat) (q : vw_C), vwCl[c]? = some q → u_Kn s q.1 q.2.1 q.2.2 (D.1 c) (D.2 c) := by
  have h : ∀ c : Nat, ∃ (x : ClassId) (g : Nat → Nat), ∀ q : vw_C, vwCl[c]? = some q → u_Kn s q.1 q.2.1 q.2.2 x g := by
    intro c
    match c with
    | 0 =>
      obtain ⟨a, g, hk⟩ := u_known hts inX0 (hts (.instantiable RX0 3) (by decide +kernel))
      exact ⟨a, g, fun q hq => by cases hq; exact hk⟩
    | 1 =>
      obtain ⟨a, g, hk⟩ := u_known hts inX1 (hts (.instantiable RX1 4) (by decide +kernel))
      exact ⟨a, g, fun q hq => by cases hq; exact hk⟩
    | 2 =>
      obtain ⟨a, g, hk⟩ := u_known hts inX2 (hts (.instantiable RX2 7) (by decide +kernel))
      exact ⟨a, g, fun q hq => by cases hq; exact hk⟩
    | 3 =>
      obtain ⟨a, g, hk⟩ := u_known hts inX3 (hts (.instantiable RX3 6) (by decide +kernel))
      exact ⟨a, g, fun q hq => by cases hq; exact hk⟩
    | 4 =>
      obtain ⟨a, g, hk⟩ := u_known hts inX4 (hts (.instantiable RX4 8) (by decide +kernel))
      exact ⟨a, g, fun q hq => by cases hq; exact hk⟩
    | c + 5 => exact ⟨0, fun _ => 0, fun q hq => by cases hq⟩
  exact ⟨(fun c => Classical.choose (h c), fun c => Classical.choose (Classical.choose_spec (h c))), fun c q hq => Classical.choose_spec (Classical.choose_spec (h c)) q hq⟩
theorem lw_arrI {s : State} {args : Array Value} (h : (Cond.arrayClass .int).before args s = true) : ∃ cA, ArrOfT s cA .int ∧ va_RA s cA .int := by
  obtain ⟨c, k, comp, h1, h2, h3⟩ := Cond.arrayClass_spec (args := args) (first := s) (o := none) (idx := []) h
  exact ⟨c, fun n z => ⟨fun k h => (by cases h), k, h2, comp, h3⟩, h1⟩
theorem lw_arrZ {s : State} {args : Array Value} (h : (Cond.arrayClass .boolean).before args s = true) : ∃ cA, ArrOfT s cA .boolean ∧ va_RA s cA .boolean := by
  obtain ⟨c, k, comp, h1, h2, h3⟩ := Cond.arrayClass_spec (args := args) (first := s) (o := none) (idx := []) h
  exact ⟨c, fun n z => ⟨fun k h => (by cases h), k, h2, comp, h3⟩, h1⟩
theorem lw_arrO {s : State} {args : Array Value} {C : String} (h : (Cond.arrayOver (.object C)).before args s = true) : ∃ cA, ArrOfT s cA (.object C) ∧ va_RA s cA (.object C) := by
  obtain ⟨comp, c, k, h1, -, h2, h3, h4⟩ := Cond.arrayOver_spec (args := args) (first := s) (o := none) (idx := []) h
  exact ⟨c, fun n z => ⟨fun k h => (by cases h), k, h2, comp, h3⟩, k, comp, h2, h3, h1, h4⟩
theorem lw_inNs : ∀ w ∈ zNs, w ∈ lw_tbl := by decide +kernel
theorem lw_inSt : ∀ q ∈ zSt, Cond.stringRef RX4 q.1 q.2 ∈ lw_tbl := by decide +kernel
theorem lw_inNo : ∀ q ∈ zNo, Cond.not (.castable q.1 q.2) ∈ flatC (Jvm.Cond.and given_1 narrow_1) := by decide +kernel
theorem lw_zX {s : State} {args : Array Value} (hts : ∀ w ∈ lw_tbl, w.before args s = true) (hgv : (Jvm.Cond.and given_1 narrow_1).before args s = true) : zX (fun q => s.heap.size ≤ q) s := by
  have hg := flat_of_before _ hgv
  obtain ⟨c4, k4, hfc, -⟩ := Cond.instantiable_spec (args := args) (first := s) (o := none) (idx := []) (hts (.instantiable RX4 8) (by decide +kernel))
  refine ⟨fun w hw => va_Nw.of (zNs_tables w hw) (hts w (lw_inNs w hw)), va_AO.of (hts (.arrayOver (.object "PaperGuild$Model")) (by decide +kernel)), fun q hq => ?_, fun q hq => va_Nc.of (hg _ (lw_inNo q hq)), ?_, ?_⟩
  · have h1 := hts _ (lw_inSt q hq)
    obtain ⟨k, cf, i, a, -, -, -, -, -, hev⟩ := Cond.stringRef_spec (args := args) (first := s) (o := none) (idx := []) hfc h1
    exact ⟨a, vk_R.of h1 hev⟩
  · exact vx_Zqof (hts (.laysStatic Bundle.tN "UNASSIGNED_STACK" Bundle.steD) (by decide +kernel)) (hts (.initialized Bundle.tN) (by decide +kernel)) (hg (.isRef (.static Bundle.tN "UNASSIGNED_STACK" Bundle.steD)) (by decide +kernel)) (fun a h1 h2 => by omega)
  · exact vx_Zqof (hts (.laysStatic Bundle.tN "SUPPRESSED_SENTINEL" Bundle.listD) (by decide +kernel)) (hts (.initialized Bundle.tN) (by decide +kernel)) (hg (.isRef (.static Bundle.tN "SUPPRESSED_SENTINEL" Bundle.listD)) (by decide +kernel)) (fun a h1 h2 => by omega)
def zM0 : zM := (0, 0, 0, 0, 0, 0, 0, 0, 0, 0, 0, 0, fun _ => 0, fun _ => 0, fun _ => 0, fun _ => 0, fun _ => 0, fun _ => 0, fun _ => 0, 0, 0)
set_option maxHeartbeats 2000000 in
set_option maxRecDepth 100000 in
theorem law_start {E : zE} {Q : State → Prop} {l : Launch} (hl : l.stackTraces = false) {D : va_G} {cI cZ cM cL : ClassId} {b LS : Nat} {xs : Nat → Int32} (C : zC E cL_law RL wsL_law room_1) (hE : zOf E l D (zTy cI cZ cM cL)) (hS : zScr E b LS xs) (hLS : LS ≤ 260)
    (kEnd : ∀ (lv : List (Option Value)) (ws : va_W) (c9 s9 : Nat), c9 ≤ 600104 → s9 ≤ 7301314 → zG E Q c9 s9 ws lv 865 [.int (iI 1)]) : zG E Q 0 0 [] [some (.ref b), none, none, none, none, none, none, none, none, none, none, none, none, none, none, none, none] 0 [] := by
  refine z_new (ci := 4) (fs := [.null, .null, .null, .null, .int (iI 0), .null, .null, .null]) C inlX4 tyX4_ok (by decide +kernel) (by decide +kernel) (by decide +kernel) rfl (by decide) (Nat.le_of_ble_eq_true rfl) (Nat.le_of_ble_eq_true rfl) dL_law_0 (fun h => ?_)
  refine z_dup C dL_law_3 rfl ?_
  refine z_callI (n := 0) (As := []) (st := [.ref h]) (fr := []) C hE (k_GuildInit l D cI cZ cM cL h (fun _ => zM0)) gL_law_X4_init rfl ⟨rfl, rfl⟩ (by decide +kernel) (by decide +kernel) (by decide +kernel) rfl (by decide +kernel) ⟨Nat.le_of_ble_eq_true rfl, Nat.le_of_ble_eq_true rfl⟩ rfl rfl (List.Perm.refl _) (Nat.le_of_ble_eq_true rfl) ⟨Nat.le_of_ble_eq_true rfl, Nat.le_of_ble_eq_true rfl⟩ dL_law_4 (fun r1 w1 hp1 => ?_)
  obtain ⟨rfl, nd, kn, gm, us, fo, fh, mi, fw, wt, hw1⟩ := hp1
  have hG : GI cI cZ cM h 0 (fun _ => iI 0) (fun _ => iI 0) (fun _ => iI 0) (fun _ => zM0) 0 (iI 0) w1 := ⟨nd, kn, gm, us, fo, fh, mi, fw, wt, _, _, _, _, _, _, hw1, by omega, fun i h => absurd h (Nat.not_lt_zero i), by omega, by omega⟩
  refine z_eq (ws' := w1) (st' := [.ref h]) (List.append_nil _) rfl ?_
  refine z_astore_n (i := 1) (lv' := [some (.ref b), some (.ref h), none, none, none, none, none, none, none, none, none, none, none, none, none, none, none]) C dL_law_7 rfl rfl rfl ?_
  refine z_bipush (v := iI 8) C dL_law_8 (by decide) ?_
  refine z_newint C 0 8 (by decide +kernel) (zT_of hE rfl) rfl (Nat.le_of_ble_eq_true rfl) (Nat.le_of_ble_eq_true rfl) (Nat.le_of_ble_eq_true rfl) dL_law_10 (fun ln => ?_)
  refine z_perm (ws' := [(ln, ai cI 8 (fun _ => 0))] ++ w1) List.perm_append_comm ?_
  have hst : ∀ G : va_W, GI cI cZ cM h 0 (fun _ => iI 0) (fun _ => iI 0) (fun _ => iI 0) (fun _ => zM0) 0 (iI 0) G → zG E Q 40 900 ([(ln, ai cI 8 (fun _ => 0))] ++ G) [some (.ref b), some (.ref h), none, none, none, none, none, none, none, none, none, none, none, none, none, none, none] 12 [.ref ln] := by
    intro G hG
    refine z_astore_n (i := 2) (lv' := [some (.ref b), some (.ref h), some (.ref ln), none, none, none, none, none, none, none, none, none, none, none, none, none, none]) C dL_law_12 rfl rfl rfl ?_
    refine z_iconst (v := iI 0) C dL_law_13 rfl ?_
    refine z_istore_n (i := 3) (lv' := [some (.ref b), some (.ref h), some (.ref ln), some (.int (iI 0)), none, none, none, none, none, none, none, none, none, none, none, none, none]) C dL_law_14 rfl rfl rfl ?_
    refine z_iconst (v := iI 0) C dL_law_15 rfl ?_
    refine z_istore (lv' := [some (.ref b), some (.ref h), some (.ref ln), some (.int (iI 0)), some (.int (iI 0)), none, none, none, none, none, none, none, none, none, none, none, none]) C dL_law_16 rfl rfl ?_
    refine z_aload_n (i := 1) C dL_law_18 rfl rfl ?_
    refine z_iconst (v := iI 0) C dL_law_19 rfl ?_
    refine z_callS (n := 2) (As := [.ref h, .int (iI 0)]) (st := []) (fr := [(ln, ai cI 8 (fun _ => 0))]) C hE (s_mill l hl D cL hG) gL_law_L_mill rfl ⟨rfl, rfl⟩ (by decide +kernel) ⟨Nat.le_of_ble_eq_true rfl, Nat.le_of_ble_eq_true rfl⟩ rfl rfl List.perm_append_comm (Nat.le_of_ble_eq_true rfl) ⟨Nat.le_of_ble_eq_true rfl, Nat.le_of_ble_eq_true rfl⟩ dL_law_20 (fun r G hpo => ?_)
    obtain ⟨rfl, hG⟩ := hpo
    refine (show zG E Q (40 + 0) (900 + 0) (G ++ [(ln, ai cI 8 (fun _ => 0))]) [some (.ref b), some (.ref h), some (.ref ln), some (.int (iI 0)), some (.int (iI 0)), none, none, none, none, none, none, none, none, none, none, none, none] 23 [.int (iI 1)] from ?_)
    refine z_perm (ws' := [(ln, ai cI 8 (fun _ => 0))] ++ G) List.perm_append_comm ?_
    refine z_if_eqI (tgt := 45) C dL_law_23 (by decide) ⟨by omega, by omega⟩ (fun h => by exfalso; omega) (fun _ => ?_)
    refine z_aload_n (i := 1) C dL_law_26 rfl rfl ?_
    obtain ⟨PH, hM, hp⟩ := c_models l hl D cL hG 
    obtain ⟨fs, hG0⟩ := hG.g0
    refine z_callV (n := 0) (As := []) (st := []) (fr := [(ln, ai cI 8 (fun _ => 0))]) C hE hM gL_law_X4_models rfl ⟨rfl, rfl⟩ (by decide +kernel) ⟨Nat.le_of_ble_eq_true rfl, Nat.le_of_ble_eq_true rfl⟩ rfl rfl List.perm_append_comm 0 hG0 rfl rfl (Nat.le_of_ble_eq_true rfl) ⟨Nat.le_of_ble_eq_true rfl, Nat.le_of_ble_eq_true rfl⟩ dL_law_27 (fun r G hpo => ?_)
    obtain ⟨rfl, hG⟩ := hp _ _ hpo
    refine (show zG E Q (40 + 0 + 0) (900 + 0 + 0) (G ++ [(ln, ai cI 8 (fun _ => 0))]) [some (.ref b), some (.ref h), some (.ref ln), some (.int (iI 0)), some (.int (iI 0)), none, none, none, none, none, none, none, none, none, none, none, none] 30 [.int (iI 0)] from ?_)
    refine z_perm (ws' := [(ln, ai cI 8 (fun _ => 0))] ++ G) List.perm_append_comm ?_
    refine z_if_neI (tgt := 45) C dL_law_30 (by decide) ⟨by omega, by omega⟩ (fun h => by exfalso; omega) (fun _ => ?_)
    refine z_aload_n (i := 1) C dL_law_33 rfl rfl ?_
    refine z_iconst (v := iI 0) C dL_law_34 rfl ?_
    obtain ⟨PH, hM, hp⟩ := c_credit l hl D cL hG 0 ⟨by omega, by omega⟩
    obtain ⟨fs, hG0⟩ := hG.g0
    refine z_callVx (n := 1) (As := [.int (iI 0)]) (st := []) (fr := [(ln, ai cI 8 (fun _ => 0))]) C hE hM gL_law_X4_credit rfl ⟨rfl, rfl⟩ (by decide +kernel) ⟨Nat.le_of_ble_eq_true rfl, Nat.le_of_ble_eq_true rfl⟩ rfl rfl List.perm_append_comm 0 hG0 rfl rfl (Nat.le_of_ble_eq_true rfl) ⟨Nat.le_of_ble_eq_true rfl, Nat.le_of_ble_eq_true rfl⟩ dL_law_35 (fun Ex hpx => absurd hpx (pX_no (cCR_ok ⟨by omega, by omega⟩))) (fun r G hpo => ?_)
    obtain ⟨rfl, hG⟩ := hp _ _ hpo
    refine (show zG E Q (40 + 0 + 0 + 17) (900 + 0 + 0 + 102) (G ++ [(ln, ai cI 8 (fun _ => 0))]) [some (.ref b), some (.ref h), some (.ref ln), some (.int (iI 0)), some (.int (iI 0)), none, none, none, none, none, none, none, none, none, none, none, none] 38 [.int (iI 0)] from ?_)
    refine z_perm (ws' := [(ln, ai cI 8 (fun _ => 0))] ++ G) List.perm_append_comm ?_
    refine z_if_neI (tgt := 45) C dL_law_38 (by decide) ⟨by omega, by omega⟩ (fun h => by exfalso; omega) (fun _ => ?_)
    refine z_iconst (v := iI 1) C dL_law_41 rfl ?_
    refine z_goto (tgt := 46) C dL_law_42 (by decide) ?_
    refine z_istore (lv' := [some (.ref b), some (.ref h), some (.ref ln), some (.int (iI 0)), some (.int (iI 0)), some (.int (iI 1)), none, none, none, none, none, none, none, none, none, none, none]) C dL_law_46 rfl rfl ?_
    refine z_iconst (v := iI 5) C dL_law_48 rfl ?_
    refine z_aload_n (i := 0) C dL_law_49 rfl rfl ?_
    refine z_iconst (v := iI 0) C dL_law_50 rfl ?_
    refine z_callSS (n := 2) (As := [.ref b, .int (iI (0))]) (st := [.int (iI 5)]) C hE hS (k_cell l D cI cZ cM cL b LS xs hLS (0) ⟨by omega, by omega⟩) gL_law_L_cell rfl ⟨rfl, rfl⟩ (by decide +kernel) ⟨Nat.le_of_ble_eq_true rfl, Nat.le_of_ble_eq_true rfl⟩ rfl rfl (Nat.le_of_ble_eq_true rfl) ⟨Nat.le_of_ble_eq_true rfl, Nat.le_of_ble_eq_true rfl⟩ dL_law_51 (fun r w1 hpo => ?_)
    obtain ⟨⟨v, rfl⟩, rfl⟩ := hpo
    refine (show zG E Q (40 + 0 + 0 + 17) (900 + 0 + 0 + 102) ([(ln, ai cI 8 (fun _ => 0))] ++ G) [some (.ref b), some (.ref h), some (.ref ln), some (.int (iI 0)), some (.int (iI 0)), some (.int (iI 1)), none, none, none, none, none, none, none, none, none, none, none] 54 [.int v, .int (iI 5)] from ?_)
    have l1 := lo_r v (m := 45) (by omega)
    refine z_bipush (v := iI 45) C dL_law_54 (by decide) ?_
    refine z_callS (n := 2) (As := [.int v, .int (iI 45)]) (st := [.int (iI 5)]) (fr := ([(ln, ai cI 8 (fun _ => 0))] ++ G)) C hE (k_low l D cI cZ cM cL v (45) ⟨by omega, by omega⟩) gL_law_L_low rfl ⟨rfl, rfl⟩ (by decide +kernel) ⟨Nat.le_of_ble_eq_true rfl, Nat.le_of_ble_eq_true rfl⟩ rfl rfl (List.Perm.refl _) (Nat.le_of_ble_eq_true rfl) ⟨Nat.le_of_ble_eq_true rfl, Nat.le_of_ble_eq_true rfl⟩ dL_law_56 (fun r w1 hpo => ?_)
    obtain ⟨rfl, rfl⟩ := hpo
    refine (show zG E Q (40 + 0 + 0 + 17) (900 + 0 + 0 + 102) ([(ln, ai cI 8 (fun _ => 0))] ++ G) [some (.ref b), some (.ref h), some (.ref ln), some (.int (iI 0)), some (.int (iI 0)), some (.int (iI 1)), none, none, none, none, none, none, none, none, none, none, none] 59 [.int (iI (lo v (45))), .int (iI 5)] from ?_)
    refine z_iaddI (v := 5 + (lo v (45))) C dL_law_59 (by omega) ?_
    refine z_istore (lv' := [some (.ref b), some (.ref h), some (.ref ln), some (.int (iI 0)), some (.int (iI 0)), some (.int (iI 1)), some (.int (iI (5 + (lo v (45))))), none, none, none, none, none, none, none, none, none, none]) C dL_law_60 rfl rfl ?_
    refine z_iconst (v := iI 0) C dL_law_62 rfl ?_
    refine z_istore (lv' := [some (.ref b), some (.ref h), some (.ref ln), some (.int (iI 0)), some (.int (iI 0)), some (.int (iI 1)), some (.int (iI (5 + (lo v (45))))), some (.int (iI 0)), none, none, none, none, none, none, none, none, none]) C dL_law_63 rfl rfl ?_
    exact z_widen (k := 100 + 6000 * 0) (n := 2000 + 40000 * 0) (Nat.le_of_ble_eq_true rfl) (Nat.le_of_ble_eq_true rfl) (law_loop (tu := (5 + lo v 45)) hl C hE hS hLS ⟨by omega, by omega⟩ kEnd 100 0 0 0 (fun _ => 0) G (by omega) (by omega) ⟨_, _, _, _, _, hG, fun _ _ _ => byt_0, fun i h0 h1 => by omega⟩ (Or.inl rfl))
  exact z_widen (k := 40) (n := 900) (Nat.le_of_ble_eq_true rfl) (Nat.le_of_ble_eq_true rfl) (hst w1 hG)
/-- YOUR PART: from the entry, for every script of at most 260 ints, the law comes to its end with true ('hflags': the launch's flags, for a law that throws: no stack traces) -/
theorem whole_start {p : Program} {e : Env} {s : State} {m : MethodId} {below : List Frame} {meth : Method} {c : Code} (l : Launch) (hflags : l.flags = flags0) {b L : Nat} {xs : Nat → Int32} (hL : L ≤ 260) (C0 : lw_At p s m meth c b L xs) : W p l e room_1 s m #[Value.ref b] below meth c s.heap [] 0 0 (lw_Z below #[Value.ref b] s) (entryFrame m ([Value.ref b] : List Value).toArray 17) := by
  obtain ⟨hx, hb, hr, hml, hown, hts, hX, hbl, hlocks, hgv⟩ := C0
  have hl : l.stackTraces = false := by unfold Launch.stackTraces; rw [hflags]; decide +kernel
  obtain ⟨D, hD⟩ := lw_D hts
  obtain ⟨cI, i1, i2⟩ := lw_arrI (hts (.arrayClass .int) (by decide +kernel))
  obtain ⟨cZ, z1, z2⟩ := lw_arrZ (hts (.arrayClass .boolean) (by decide +kernel))
  obtain ⟨cM, m1, m2⟩ := lw_arrO (hts (.arrayOver (.object "PaperGuild$Model")) (by decide +kernel))
  have hK : va_K D vwCl (zTy cI cZ cM cI) s := by
    refine ⟨hD, fun k q hq => ?_⟩
    match k with
    | 0 => cases hq; exact ⟨i1, i2⟩
    | 1 => cases hq; exact ⟨z1, z2⟩
    | 2 => cases hq; exact ⟨m1, m2⟩
    | k + 3 => cases hq
  rw [lg_entry_eq]
  exact law_start (E := (p, l, e, room_1, s, m, #[Value.ref b], below, meth, c, D, zTy cI cZ cM cI, fun q => s.heap.size ≤ q, 17)) (Q := lw_Z below #[Value.ref b] s) hl (xs := xs) ⟨hx, hb, hml, hown, fun w hw => hts w (wsL_law_in w hw), hK, fun _ h => h, hlocks, rfl⟩ ⟨rfl, rfl, rfl, lw_zX hts hgv⟩ ⟨hX, hbl, fun h => absurd h (Nat.not_le_of_lt hbl)⟩ hL
    (fun lv ws c9 s9 h1 h2 H locs ls hP hD hS hL => va_forget hS.2.2 (W.widen h1 h2 (lw_ret hx hb hr hlocks dL_law_865)))
    s.heap [] _ (fun k q hq => by cases hq) ⟨fun i j p q hp => (by cases hp), fun k q hq => (by cases hq)⟩ va_S.rf (z_entry (vs := [Value.ref b]) rfl (Nat.le_of_ble_eq_true rfl) rfl)
