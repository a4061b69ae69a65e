/-! THE MODELS: walks. -/
theorem hi_X2_ownKinds_X2 : ∀ w ∈ wsX20, w ∈ wsX2_ownKinds := by decide +kernel
set_option maxHeartbeats 1000000 in
set_option maxRecDepth 100000 in
theorem k_ownKinds (l : Launch) (D : va_G) (cI cZ cM cL : ClassId) (m ka pa la a c s nc ns : Nat) (au len n : Int) (K P F CC SS NC NS : Int → Int) (fl sp : Int) (hn : 0 ≤ n ∧ n ≤ 10) : zN l yX2_ownKinds wsX2_ownKinds { frames := 0, cells := 0, slots := 0, locals := 0 } D (zTy cI cZ cM cL) [.ref m] (mdW cI cZ m ka pa la a c s nc ns au len n K P F CC SS NC NS fl sp) (fun r w => r = some (.int (okb K n.toNat)) ∧ w = (mdW cI cZ m ka pa la a c s nc ns au len n K P F CC SS NC NS fl sp)) 0 0 := by
  refine zN_of (cc := cX2_ownKinds) (maxL := 3) (lv0 := [some (.ref m), none, none]) (by decide) rfl rfl (Nat.le_of_ble_eq_true rfl) rfl ?_
  intro E Q C hE hR hI0
  refine (show zG E Q 0 0 [(m, .inr (2, [.int (iI au), .int (iI len), .ref ka, .ref pa, .ref la, .int (iI n), .ref a])), (ka, ai cI 10 K), (pa, ai cI 10 P), (la, ai cZ 10 F), (a, .inr (3, [.ref c, .ref s, .ref nc, .ref ns, .int (iI fl), .int (iI sp)])), (c, ai cI 32 CC), (s, ai cI 33 SS), (nc, ai cI 32 NC), (ns, ai cI 33 NS)] [some (.ref m), none, none] 0 [] from ?_)
  have lp : ∀ (z : Nat) (j : Nat), j ≤ n.toNat → n.toNat - j < z → zG E Q (0) (0) [(m, .inr (2, [.int (iI au), .int (iI len), .ref ka, .ref pa, .ref la, .int (iI n), .ref a])), (ka, ai cI 10 K), (pa, ai cI 10 P), (la, ai cZ 10 F), (a, .inr (3, [.ref c, .ref s, .ref nc, .ref ns, .int (iI fl), .int (iI sp)])), (c, ai cI 32 CC), (s, ai cI 33 SS), (nc, ai cI 32 NC), (ns, ai cI 33 NS)] [some (.ref m), some (.int (okb K j)), some (.int (iI ↑j))] 4 [] := by
    intro z
    induction z with
    | zero => intro j hj hjn; omega
    | succ z ih =>
      intro j hj hjn
      refine z_iload_n (i := 2) C dX2_ownKinds_4 rfl rfl ?_
      refine z_aload_n (i := 0) C dX2_ownKinds_5 rfl rfl ?_
      refine z_get (ci := 2) C (hi_X2_ownKinds_X2) 0 rfl rfl 5 (by decide) (by decide +kernel) rfl dX2_ownKinds_6 ?_
      refine z_icmp_geI (tgt := 29) C dX2_ownKinds_9 (by decide) ⟨by omega, by omega⟩ ⟨by omega, by omega⟩ (fun hk => ?_) (fun hk => ?_)
      · refine z_iload_n (i := 1) C dX2_ownKinds_29 rfl rfl ?_
        exact z_iret C hR dX2_ownKinds_30 (Nat.le_refl _) (Nat.le_refl _) (⟨by rw [show j = n.toNat by omega], rfl⟩)
      · refine z_iload_n (i := 1) C dX2_ownKinds_12 rfl rfl ?_
        refine z_iconst (v := iI 1) C dX2_ownKinds_13 rfl ?_
        refine z_aload_n (i := 0) C dX2_ownKinds_14 rfl rfl ?_
        refine z_get (ci := 2) C (hi_X2_ownKinds_X2) 0 rfl rfl 2 (by decide) (by decide +kernel) rfl dX2_ownKinds_15 ?_
        refine z_iload_n (i := 2) C dX2_ownKinds_18 rfl rfl ?_
        refine z_ialoadI 1 (he := rfl) C (zT_of hE (t0 := 0) rfl) (by omega) (by omega) (by decide) dX2_ownKinds_19 ?_
        refine z_ishl C dX2_ownKinds_20 ?_
        refine z_ior C dX2_ownKinds_21 ?_
        refine z_istore_n (i := 1) (lv' := [some (.ref m), some (.int ((okb K j) ||| ((iI 1) <<< ((iI (K (↑j))) &&& 31)))), some (.int (iI ↑j))]) C dX2_ownKinds_22 rfl rfl rfl ?_
        refine z_iincI (v := ↑(j + 1)) (lv' := [some (.ref m), some (.int ((okb K j) ||| ((iI 1) <<< ((iI (K (↑j))) &&& 31)))), some (.int (iI (↑(j + 1))))]) C dX2_ownKinds_23 rfl (by omega) rfl ?_
        refine z_goto (tgt := 4) C dX2_ownKinds_26 (by decide) ?_
        exact ih (j + 1) (by omega) (by omega)
  refine z_iconst (v := iI 0) C dX2_ownKinds_0 rfl ?_
  refine z_istore_n (i := 1) (lv' := [some (.ref m), some (.int (iI 0)), none]) C dX2_ownKinds_1 rfl rfl rfl ?_
  refine z_iconst (v := iI 0) C dX2_ownKinds_2 rfl ?_
  refine z_istore_n (i := 2) (lv' := [some (.ref m), some (.int (iI 0)), some (.int (iI 0))]) C dX2_ownKinds_3 rfl rfl rfl ?_
  exact lp (n.toNat + 1) 0 (by omega) (by omega)
theorem hi_X2_addStep_X2 : ∀ w ∈ wsX20, w ∈ wsX2_addStep := by decide +kernel
set_option maxHeartbeats 1000000 in
set_option maxRecDepth 100000 in
theorem k_addStep (l : Launch) (D : va_G) (cI cZ cM cL : ClassId) (m ka pa la a c s nc ns : Nat) (au len n : Int) (K P F CC SS NC NS : Int → Int) (fl sp : Int) (kd p lf : Int) (hn : 0 ≤ n ∧ n < 10) (hp : 1 ≤ p ∧ p < sp) (hlf : lf = 0 ∨ lf = 1) (hW : stW sp SS) : zN l yX2_addStep wsX2_addStep { frames := 6, cells := 0, slots := 0, locals := 135 } D (zTy cI cZ cM cL) [.ref m, .int (iI kd), .int (iI p), .int (iI lf)] (mdW cI cZ m ka pa la a c s nc ns au len n K P F CC SS NC NS fl sp) (fun r w => r = none ∧ ∃ (low : Int) (N1 M1 : Int → Int) (f1 : Int), low = lw p lf sp ∧ w = (mdW cI cZ m ka pa la a nc ns c s au len (n + 1) (zup K n kd) (zup P n p) (zup F n lf) N1 M1 CC SS f1 (max p (sp - p))) ∧ tnP sp SS CC p low (max p (sp - p)) N1 M1 ∧ M1 (max p (sp - p)) = tG sp SS p low (max p (sp - p))) 0 0 := by
  refine zN_of (cc := cX2_addStep) (maxL := 4) (lv0 := [some (.ref m), some (.int (iI kd)), some (.int (iI p)), some (.int (iI lf))]) (by decide) rfl rfl (Nat.le_of_ble_eq_true rfl) rfl ?_
  intro E Q C hE hR hI0
  obtain ⟨hs0, hs1, -, -, -⟩ := id hW
  refine (show zG E Q 0 0 [(m, .inr (2, [.int (iI au), .int (iI len), .ref ka, .ref pa, .ref la, .int (iI n), .ref a])), (ka, ai cI 10 K), (pa, ai cI 10 P), (la, ai cZ 10 F), (a, .inr (3, [.ref c, .ref s, .ref nc, .ref ns, .int (iI fl), .int (iI sp)])), (c, ai cI 32 CC), (s, ai cI 33 SS), (nc, ai cI 32 NC), (ns, ai cI 33 NS)] [some (.ref m), some (.int (iI kd)), some (.int (iI p)), some (.int (iI lf))] 0 [] from ?_)
  refine z_aload_n (i := 0) C dX2_addStep_0 rfl rfl ?_
  refine z_get (ci := 2) C (hi_X2_addStep_X2) 0 rfl rfl 5 (by decide) (by decide +kernel) rfl dX2_addStep_1 ?_
  refine z_bipush (v := iI 10) C dX2_addStep_4 (by decide) ?_
  refine z_icmp_ltI (tgt := 10) C dX2_addStep_6 (by decide) ⟨by omega, by omega⟩ ⟨by omega, by omega⟩ (fun _ => ?_) (fun h => by exfalso; omega)
  refine z_aload_n (i := 0) C dX2_addStep_10 rfl rfl ?_
  refine z_get (ci := 2) C (hi_X2_addStep_X2) 0 rfl rfl 2 (by decide) (by decide +kernel) rfl dX2_addStep_11 ?_
  refine z_aload_n (i := 0) C dX2_addStep_14 rfl rfl ?_
  refine z_get (ci := 2) C (hi_X2_addStep_X2) 0 rfl rfl 5 (by decide) (by decide +kernel) rfl dX2_addStep_15 ?_
  refine z_iload_n (i := 1) C dX2_addStep_18 rfl rfl ?_
  refine z_iastoreI 1 (he := rfl) (ws' := [(m, .inr (2, [.int (iI au), .int (iI len), .ref ka, .ref pa, .ref la, .int (iI n), .ref a])), (ka, ai cI 10 (zup K n kd)), (pa, ai cI 10 P), (la, ai cZ 10 F), (a, .inr (3, [.ref c, .ref s, .ref nc, .ref ns, .int (iI fl), .int (iI sp)])), (c, ai cI 32 CC), (s, ai cI 33 SS), (nc, ai cI 32 NC), (ns, ai cI 33 NS)]) C (zT_of hE (t0 := 0) rfl) (by omega) (by omega) (by decide) rfl dX2_addStep_19 ?_
  refine z_aload_n (i := 0) C dX2_addStep_20 rfl rfl ?_
  refine z_get (ci := 2) C (hi_X2_addStep_X2) 0 rfl rfl 3 (by decide) (by decide +kernel) rfl dX2_addStep_21 ?_
  refine z_aload_n (i := 0) C dX2_addStep_24 rfl rfl ?_
  refine z_get (ci := 2) C (hi_X2_addStep_X2) 0 rfl rfl 5 (by decide) (by decide +kernel) rfl dX2_addStep_25 ?_
  refine z_iload_n (i := 2) C dX2_addStep_28 rfl rfl ?_
  refine z_iastoreI 2 (he := rfl) (ws' := [(m, .inr (2, [.int (iI au), .int (iI len), .ref ka, .ref pa, .ref la, .int (iI n), .ref a])), (ka, ai cI 10 (zup K n kd)), (pa, ai cI 10 (zup P n p)), (la, ai cZ 10 F), (a, .inr (3, [.ref c, .ref s, .ref nc, .ref ns, .int (iI fl), .int (iI sp)])), (c, ai cI 32 CC), (s, ai cI 33 SS), (nc, ai cI 32 NC), (ns, ai cI 33 NS)]) C (zT_of hE (t0 := 0) rfl) (by omega) (by omega) (by decide) rfl dX2_addStep_29 ?_
  refine z_aload_n (i := 0) C dX2_addStep_30 rfl rfl ?_
  refine z_get (ci := 2) C (hi_X2_addStep_X2) 0 rfl rfl 4 (by decide) (by decide +kernel) rfl dX2_addStep_31 ?_
  refine z_aload_n (i := 0) C dX2_addStep_34 rfl rfl ?_
  refine z_get (ci := 2) C (hi_X2_addStep_X2) 0 rfl rfl 5 (by decide) (by decide +kernel) rfl dX2_addStep_35 ?_
  refine z_iload_n (i := 3) C dX2_addStep_38 rfl rfl ?_
  refine z_bastoreI 3 (he := rfl) (ws' := [(m, .inr (2, [.int (iI au), .int (iI len), .ref ka, .ref pa, .ref la, .int (iI n), .ref a])), (ka, ai cI 10 (zup K n kd)), (pa, ai cI 10 (zup P n p)), (la, ai cZ 10 (zup F n lf)), (a, .inr (3, [.ref c, .ref s, .ref nc, .ref ns, .int (iI fl), .int (iI sp)])), (c, ai cI 32 CC), (s, ai cI 33 SS), (nc, ai cI 32 NC), (ns, ai cI 33 NS)]) C (zT_of hE (t0 := 1) rfl) (by omega) (by omega) (by decide) (vn_b hlf) rfl dX2_addStep_39 ?_
  refine z_aload_n (i := 0) C dX2_addStep_40 rfl rfl ?_
  refine z_dup C dX2_addStep_41 rfl ?_
  refine z_get (ci := 2) C (hi_X2_addStep_X2) 0 rfl rfl 5 (by decide) (by decide +kernel) rfl dX2_addStep_42 ?_
  refine z_iconst (v := iI 1) C dX2_addStep_45 rfl ?_
  refine z_iaddI (v := n + 1) C dX2_addStep_46 (by omega) ?_
  refine z_put (ci := 2) (ws' := [(m, .inr (2, [.int (iI au), .int (iI len), .ref ka, .ref pa, .ref la, .int (iI (n + 1)), .ref a])), (ka, ai cI 10 (zup K n kd)), (pa, ai cI 10 (zup P n p)), (la, ai cZ 10 (zup F n lf)), (a, .inr (3, [.ref c, .ref s, .ref nc, .ref ns, .int (iI fl), .int (iI sp)])), (c, ai cI 32 CC), (s, ai cI 33 SS), (nc, ai cI 32 NC), (ns, ai cI 33 NS)]) C (hi_X2_addStep_X2) tyX2_ok nmX2 0 rfl rfl 5 (by decide) (by decide +kernel) rfl (tyX2_ok 5 (by decide)) rfl rfl (Nat.le_of_ble_eq_true rfl) rfl dX2_addStep_47 ?_
  refine z_aload_n (i := 0) C dX2_addStep_50 rfl rfl ?_
  refine z_get (ci := 2) C (hi_X2_addStep_X2) 0 rfl rfl 6 (by decide) (by decide +kernel) rfl dX2_addStep_51 ?_
  refine z_iload_n (i := 2) C dX2_addStep_54 rfl rfl ?_
  refine z_iload_n (i := 3) C dX2_addStep_55 rfl rfl ?_
  refine z_callV (n := 2) (As := [.int (iI p), .int (iI lf)]) (st := []) (fr := [(m, .inr (2, [.int (iI au), .int (iI len), .ref ka, .ref pa, .ref la, .int (iI (n + 1)), .ref a])), (ka, ai cI 10 (zup K n kd)), (pa, ai cI 10 (zup P n p)), (la, ai cZ 10 (zup F n lf))]) C hE (k_turnOver l D cI cZ cM cL a c s nc ns CC SS NC NS fl sp p lf hp hlf hW) gX2_addStep_X3_turnOver rfl ⟨rfl, rfl⟩ (by decide +kernel) ⟨Nat.le_of_ble_eq_true rfl, Nat.le_of_ble_eq_true rfl⟩ rfl rfl (z_places [4, 5, 6, 7, 8, 0, 1, 2, 3] rfl rfl) 0 rfl rfl rfl (Nat.le_of_ble_eq_true rfl) ⟨Nat.le_of_ble_eq_true rfl, Nat.le_of_ble_eq_true rfl⟩ dX2_addStep_56 (fun r w1 hpo => ?_)
  obtain ⟨rfl, low, N1, M1, f1, e1, rfl, e2, e3⟩ := hpo
  refine (show zG E Q (0) (0) [(a, .inr (3, [.ref nc, .ref ns, .ref c, .ref s, .int (iI f1), .int (iI (max p (sp - p)))])), (nc, ai cI 32 N1), (ns, ai cI 33 M1), (c, ai cI 32 CC), (s, ai cI 33 SS), (m, .inr (2, [.int (iI au), .int (iI len), .ref ka, .ref pa, .ref la, .int (iI (n + 1)), .ref a])), (ka, ai cI 10 (zup K n kd)), (pa, ai cI 10 (zup P n p)), (la, ai cZ 10 (zup F n lf))] [some (.ref m), some (.int (iI kd)), some (.int (iI p)), some (.int (iI lf))] 59 [] from ?_)
  refine z_perm (z_places (w := (mdW cI cZ m ka pa la a nc ns c s au len (n + 1) (zup K n kd) (zup P n p) (zup F n lf) N1 M1 CC SS f1 (max p (sp - p)))) [5, 6, 7, 8, 0, 1, 2, 3, 4] rfl rfl) ?_
  exact z_vret C hR dX2_addStep_59 (Nat.le_refl _) (Nat.le_refl _) (⟨rfl, low, N1, M1, f1, e1, rfl, e2, e3⟩)
theorem hi_X2_removeLastStep_X2 : ∀ w ∈ wsX20, w ∈ wsX2_removeLastStep := by decide +kernel
set_option maxHeartbeats 1000000 in
set_option maxRecDepth 100000 in
theorem k_removeLast (l : Launch) (D : va_G) (cI cZ cM cL : ClassId) (m ka pa la a c s nc ns : Nat) (au len n : Int) (K P F CC SS NC NS : Int → Int) (fl sp : Int) (hn : 1 ≤ n ∧ n ≤ 10) (hlen : 2 ≤ len ∧ len ≤ 32) (hst : ∀ j : Nat, (j : Int) < n → (1 ≤ P j ∧ P j < gS len P j) ∧ (F j = 0 ∨ F j = 1)) : zN l yX2_removeLastStep wsX2_removeLastStep { frames := 6, cells := 0, slots := 0, locals := 135 } D (zTy cI cZ cM cL) [.ref m] (mdW cI cZ m ka pa la a c s nc ns au len n K P F CC SS NC NS fl sp) (fun r w => r = some (.int (iI (K (n - 1)))) ∧ ∃ (c1 s1 nc1 ns1 : Nat) (C1 S1 N1 M1 : Int → Int) (f1 s9 : Int), w = (mdW cI cZ m ka pa la a c1 s1 nc1 ns1 au len (n - 1) K P F C1 S1 N1 M1 f1 s9) ∧ s9 = gS len P (n - 1).toNat ∧ geo len s9 S1 C1 (gP len P F (n - 1).toNat) (gH len P F (n - 1).toNat)) 0 0 := by
  refine zN_of (cc := cX2_removeLastStep) (maxL := 2) (lv0 := [some (.ref m), none]) (by decide) rfl rfl (Nat.le_of_ble_eq_true rfl) rfl ?_
  intro E Q C hE hR hI0
  refine (show zG E Q 0 0 [(m, .inr (2, [.int (iI au), .int (iI len), .ref ka, .ref pa, .ref la, .int (iI n), .ref a])), (ka, ai cI 10 K), (pa, ai cI 10 P), (la, ai cZ 10 F), (a, .inr (3, [.ref c, .ref s, .ref nc, .ref ns, .int (iI fl), .int (iI sp)])), (c, ai cI 32 CC), (s, ai cI 33 SS), (nc, ai cI 32 NC), (ns, ai cI 33 NS)] [some (.ref m), none] 0 [] from ?_)
  have lp : ∀ (z : Nat) (j : Nat) (c1 s1 nc1 ns1 : Nat) (C1 S1 N1 M1 : Int → Int) (f1 s9 : Int), j ≤ (n - 1).toNat → (n - 1).toNat - j < z → s9 = gS len P j → geo len s9 S1 C1 (gP len P F j) (gH len P F j) → zG E Q (0) (0) [(m, .inr (2, [.int (iI au), .int (iI len), .ref ka, .ref pa, .ref la, .int (iI (n - 1)), .ref a])), (ka, ai cI 10 K), (pa, ai cI 10 P), (la, ai cZ 10 F), (a, .inr (3, [.ref c1, .ref s1, .ref nc1, .ref ns1, .int (iI f1), .int (iI s9)])), (c1, ai cI 32 C1), (s1, ai cI 33 S1), (nc1, ai cI 32 N1), (ns1, ai cI 33 M1)] [some (.ref m), some (.int (iI ↑j))] 32 [] := by
    intro z
    induction z with
    | zero => intro j c1 s1 nc1 ns1 C1 S1 N1 M1 f1 s9 hj hjn hs9 hg; omega
    | succ z ih =>
      intro j c1 s1 nc1 ns1 C1 S1 N1 M1 f1 s9 hj hjn hs9 hg
      refine z_iload_n (i := 1) C dX2_removeLastStep_32 rfl rfl ?_
      refine z_aload_n (i := 0) C dX2_removeLastStep_33 rfl rfl ?_
      refine z_get (ci := 2) C (hi_X2_removeLastStep_X2) 0 rfl rfl 5 (by decide) (by decide +kernel) rfl dX2_removeLastStep_34 ?_
      refine z_icmp_geI (tgt := 65) C dX2_removeLastStep_37 (by decide) ⟨by omega, by omega⟩ ⟨by omega, by omega⟩ (fun hk => ?_) (fun hk => ?_)
      · refine z_aload_n (i := 0) C dX2_removeLastStep_65 rfl rfl ?_
        refine z_get (ci := 2) C (hi_X2_removeLastStep_X2) 0 rfl rfl 2 (by decide) (by decide +kernel) rfl dX2_removeLastStep_66 ?_
        refine z_aload_n (i := 0) C dX2_removeLastStep_69 rfl rfl ?_
        refine z_get (ci := 2) C (hi_X2_removeLastStep_X2) 0 rfl rfl 5 (by decide) (by decide +kernel) rfl dX2_removeLastStep_70 ?_
        refine z_ialoadI 1 (he := rfl) C (zT_of hE (t0 := 0) rfl) (by omega) (by omega) (by decide) dX2_removeLastStep_73 ?_
        exact z_iret C hR dX2_removeLastStep_74 (Nat.le_refl _) (Nat.le_refl _) (⟨rfl, c1, s1, nc1, ns1, C1, S1, N1, M1, f1, s9, rfl, by rw [show (n - 1).toNat = j by omega]; exact ⟨hs9, hg⟩⟩)
      · refine z_aload_n (i := 0) C dX2_removeLastStep_40 rfl rfl ?_
        refine z_get (ci := 2) C (hi_X2_removeLastStep_X2) 0 rfl rfl 6 (by decide) (by decide +kernel) rfl dX2_removeLastStep_41 ?_
        refine z_aload_n (i := 0) C dX2_removeLastStep_44 rfl rfl ?_
        refine z_get (ci := 2) C (hi_X2_removeLastStep_X2) 0 rfl rfl 3 (by decide) (by decide +kernel) rfl dX2_removeLastStep_45 ?_
        refine z_iload_n (i := 1) C dX2_removeLastStep_48 rfl rfl ?_
        refine z_ialoadI 2 (he := rfl) C (zT_of hE (t0 := 0) rfl) (by omega) (by omega) (by decide) dX2_removeLastStep_49 ?_
        refine z_aload_n (i := 0) C dX2_removeLastStep_50 rfl rfl ?_
        refine z_get (ci := 2) C (hi_X2_removeLastStep_X2) 0 rfl rfl 4 (by decide) (by decide +kernel) rfl dX2_removeLastStep_51 ?_
        refine z_iload_n (i := 1) C dX2_removeLastStep_54 rfl rfl ?_
        refine z_baloadI 3 (he := rfl) C (zT_of hE (t0 := 1) rfl) (by omega) (by omega) (by decide) dX2_removeLastStep_55 ?_
        refine z_callV (n := 2) (As := [.int (iI (P (↑j))), .int (iI (F (↑j)))]) (st := []) (fr := [(m, .inr (2, [.int (iI au), .int (iI len), .ref ka, .ref pa, .ref la, .int (iI (n - 1)), .ref a])), (ka, ai cI 10 K), (pa, ai cI 10 P), (la, ai cZ 10 F)]) C hE (k_turnOver l D cI cZ cM cL a c1 s1 nc1 ns1 C1 S1 N1 M1 f1 s9 (P ↑j) (F ↑j) (by rw [hs9]; exact (hst j (by omega)).1) (hst j (by omega)).2 hg.1) gX2_removeLastStep_X3_turnOver rfl ⟨rfl, rfl⟩ (by decide +kernel) ⟨Nat.le_of_ble_eq_true rfl, Nat.le_of_ble_eq_true rfl⟩ rfl rfl (z_places [4, 5, 6, 7, 8, 0, 1, 2, 3] rfl rfl) 0 rfl rfl rfl (Nat.le_of_ble_eq_true rfl) ⟨Nat.le_of_ble_eq_true rfl, Nat.le_of_ble_eq_true rfl⟩ dX2_removeLastStep_56 (fun r w1 hpo => ?_)
        obtain ⟨rfl, low, N2, M2, f2, e1, rfl, e2, e3⟩ := hpo
        refine (show zG E Q (0) (0) [(a, .inr (3, [.ref nc1, .ref ns1, .ref c1, .ref s1, .int (iI f2), .int (iI (max (P ↑j) (s9 - P ↑j)))])), (nc1, ai cI 32 N2), (ns1, ai cI 33 M2), (c1, ai cI 32 C1), (s1, ai cI 33 S1), (m, .inr (2, [.int (iI au), .int (iI len), .ref ka, .ref pa, .ref la, .int (iI (n - 1)), .ref a])), (ka, ai cI 10 K), (pa, ai cI 10 P), (la, ai cZ 10 F)] [some (.ref m), some (.int (iI ↑j))] 59 [] from ?_)
        refine z_iincI (v := ↑(j + 1)) (lv' := [some (.ref m), some (.int (iI (↑(j + 1))))]) C dX2_removeLastStep_59 rfl (by omega) rfl ?_
        refine z_goto (tgt := 32) C dX2_removeLastStep_62 (by decide) ?_
        refine z_perm (z_places (w := [(m, .inr (2, [.int (iI au), .int (iI len), .ref ka, .ref pa, .ref la, .int (iI (n - 1)), .ref a])), (ka, ai cI 10 K), (pa, ai cI 10 P), (la, ai cZ 10 F), (a, .inr (3, [.ref nc1, .ref ns1, .ref c1, .ref s1, .int (iI f2), .int (iI (max (P ↑j) (s9 - P ↑j)))])), (nc1, ai cI 32 N2), (ns1, ai cI 33 M2), (c1, ai cI 32 C1), (s1, ai cI 33 S1)]) [5, 6, 7, 8, 0, 1, 2, 3, 4] rfl rfl) ?_
        subst hs9
        subst e1
        exact ih (j + 1) nc1 ns1 c1 s1 N2 M2 C1 S1 f2 _ (by omega) (by omega) rfl (geo_step hg (by omega) (hst j (by omega)).1 (fun q => rfl) e2 e3)
  refine z_aload_n (i := 0) C dX2_removeLastStep_0 rfl rfl ?_
  refine z_get (ci := 2) C (hi_X2_removeLastStep_X2) 0 rfl rfl 5 (by decide) (by decide +kernel) rfl dX2_removeLastStep_1 ?_
  refine z_if_gtI (tgt := 9) C dX2_removeLastStep_4 (by decide) ⟨by omega, by omega⟩ (fun _ => ?_) (fun h => by exfalso; omega)
  refine z_aload_n (i := 0) C dX2_removeLastStep_9 rfl rfl ?_
  refine z_dup C dX2_removeLastStep_10 rfl ?_
  refine z_get (ci := 2) C (hi_X2_removeLastStep_X2) 0 rfl rfl 5 (by decide) (by decide +kernel) rfl dX2_removeLastStep_11 ?_
  refine z_iconst (v := iI 1) C dX2_removeLastStep_14 rfl ?_
  refine z_isubI (v := n - 1) C dX2_removeLastStep_15 (by omega) ?_
  refine z_put (ci := 2) (ws' := [(m, .inr (2, [.int (iI au), .int (iI len), .ref ka, .ref pa, .ref la, .int (iI (n - 1)), .ref a])), (ka, ai cI 10 K), (pa, ai cI 10 P), (la, ai cZ 10 F), (a, .inr (3, [.ref c, .ref s, .ref nc, .ref ns, .int (iI fl), .int (iI sp)])), (c, ai cI 32 CC), (s, ai cI 33 SS), (nc, ai cI 32 NC), (ns, ai cI 33 NS)]) C (hi_X2_removeLastStep_X2) tyX2_ok nmX2 0 rfl rfl 5 (by decide) (by decide +kernel) rfl (tyX2_ok 5 (by decide)) rfl rfl (Nat.le_of_ble_eq_true rfl) rfl dX2_removeLastStep_16 ?_
  refine z_aload_n (i := 0) C dX2_removeLastStep_19 rfl rfl ?_
  refine z_get (ci := 2) C (hi_X2_removeLastStep_X2) 0 rfl rfl 6 (by decide) (by decide +kernel) rfl dX2_removeLastStep_20 ?_
  refine z_aload_n (i := 0) C dX2_removeLastStep_23 rfl rfl ?_
  refine z_get (ci := 2) C (hi_X2_removeLastStep_X2) 0 rfl rfl 1 (by decide) (by decide +kernel) rfl dX2_removeLastStep_24 ?_
  refine z_callV (n := 1) (As := [.int (iI len)]) (st := []) (fr := [(m, .inr (2, [.int (iI au), .int (iI len), .ref ka, .ref pa, .ref la, .int (iI (n - 1)), .ref a])), (ka, ai cI 10 K), (pa, ai cI 10 P), (la, ai cZ 10 F)]) C hE (k_layFlat l D cI cZ cM cL a c s nc ns CC SS NC NS fl sp len ⟨by omega, by omega⟩) gX2_removeLastStep_X3_layFlat rfl ⟨rfl, rfl⟩ (by decide +kernel) ⟨Nat.le_of_ble_eq_true rfl, Nat.le_of_ble_eq_true rfl⟩ rfl rfl (z_places [4, 5, 6, 7, 8, 0, 1, 2, 3] rfl rfl) 0 rfl rfl rfl (Nat.le_of_ble_eq_true rfl) ⟨Nat.le_of_ble_eq_true rfl, Nat.le_of_ble_eq_true rfl⟩ dX2_removeLastStep_27 (fun r w1 hpo => ?_)
  obtain ⟨rfl, C1, S1, rfl, e1, e2⟩ := hpo
  refine (show zG E Q (0) (0) [(a, .inr (3, [.ref c, .ref s, .ref nc, .ref ns, .int (iI fl), .int (iI len)])), (c, ai cI 32 C1), (s, ai cI 33 S1), (nc, ai cI 32 NC), (ns, ai cI 33 NS), (m, .inr (2, [.int (iI au), .int (iI len), .ref ka, .ref pa, .ref la, .int (iI (n - 1)), .ref a])), (ka, ai cI 10 K), (pa, ai cI 10 P), (la, ai cZ 10 F)] [some (.ref m), none] 30 [] from ?_)
  refine z_iconst (v := iI 0) C dX2_removeLastStep_30 rfl ?_
  refine z_istore_n (i := 1) (lv' := [some (.ref m), some (.int (iI 0))]) C dX2_removeLastStep_31 rfl rfl rfl ?_
  refine z_perm (z_places (w := [(m, .inr (2, [.int (iI au), .int (iI len), .ref ka, .ref pa, .ref la, .int (iI (n - 1)), .ref a])), (ka, ai cI 10 K), (pa, ai cI 10 P), (la, ai cZ 10 F), (a, .inr (3, [.ref c, .ref s, .ref nc, .ref ns, .int (iI fl), .int (iI len)])), (c, ai cI 32 C1), (s, ai cI 33 S1), (nc, ai cI 32 NC), (ns, ai cI 33 NS)]) [5, 6, 7, 8, 0, 1, 2, 3, 4] rfl rfl) ?_
  exact lp ((n - 1).toNat + 1) 0 c s nc ns C1 S1 NC NS fl len (by omega) (by omega) rfl (geo_flat (by omega) (by omega) e1 e2)
theorem hi_X2_init_X2 : ∀ w ∈ wsX20, w ∈ wsX2_init := by decide +kernel
theorem hi_X2_init_X3 : ∀ w ∈ wsX30, w ∈ wsX2_init := by decide +kernel
set_option maxHeartbeats 1000000 in
set_option maxRecDepth 100000 in
theorem k_ModelInit (l : Launch) (D : va_G) (cI cZ cM cL : ClassId) (m : Nat) (au len : Int) (hlen : 2 ≤ len ∧ len ≤ 32) : zN l yX2_init wsX2_init { frames := 2, cells := 8, slots := 166, locals := 43 } D (zTy cI cZ cM cL) [.ref m, .int (iI au), .int (iI len)] [(m, .inr (2, [.int (iI 0), .int (iI 0), .null, .null, .null, .int (iI 0), .null]))] (fun r w => r = none ∧ ∃ (ka pa la a c s nc ns : Nat) (C1 S1 : Int → Int), w = mdW cI cZ m ka pa la a c s nc ns au len 0 (fun _ => 0) (fun _ => 0) (fun _ => 0) C1 S1 (fun _ => 0) (fun _ => 0) 0 len ∧ geo len len S1 C1 (fun q => q) (fun _ => 0)) 8 166 := by
  refine zN_of (cc := cX2_init) (maxL := 3) (lv0 := [some (.ref m), some (.int (iI au)), some (.int (iI len))]) (by decide) rfl rfl (Nat.le_of_ble_eq_true rfl) rfl ?_
  intro E Q C hE hR hI0
  have hI := hI0 rfl
  refine z_aload_n (i := 0) C dX2_init_0 rfl rfl ?_
  refine z_objInit C (by decide +kernel) (by decide +kernel) (by decide +kernel) (Nat.le_of_ble_eq_true rfl) ⟨Nat.le_of_ble_eq_true rfl, Nat.le_of_ble_eq_true rfl⟩ dX2_init_1 ?_
  refine z_aload_n (i := 0) C dX2_init_4 rfl rfl ?_
  refine z_bipush (v := iI 10) C dX2_init_5 (by decide) ?_
  refine z_newint C 0 10 (by decide +kernel) (zT_of hE rfl) rfl (Nat.le_of_ble_eq_true rfl) (Nat.le_of_ble_eq_true rfl) (Nat.le_of_ble_eq_true rfl) dX2_init_7 (fun ka => ?_)
  refine (show zG E Q (0 + 1) (0 + 10) [(m, .inr (2, [.int (iI 0), .int (iI 0), .null, .null, .null, .int (iI 0), .null])), (ka, ai cI 10 (fun _ => 0))] [some (.ref m), some (.int (iI au)), some (.int (iI len))] 9 [.ref ka, .ref m] from ?_)
  refine z_putF (ci := 2) (ws' := [(m, .inr (2, [.int (iI 0), .int (iI 0), .ref ka, .null, .null, .int (iI 0), .null])), (ka, ai cI 10 (fun _ => 0))]) C hI (hi_X2_init_X2) tyX2_ok nmX2 0 rfl rfl 2 (by decide) (by decide +kernel) rfl rfl (tyX2_ok 2 (by decide)) rfl rfl (Nat.le_of_ble_eq_true rfl) rfl dX2_init_9 ?_
  refine z_aload_n (i := 0) C dX2_init_12 rfl rfl ?_
  refine z_bipush (v := iI 10) C dX2_init_13 (by decide) ?_
  refine z_newint C 0 10 (by decide +kernel) (zT_of hE rfl) rfl (Nat.le_of_ble_eq_true rfl) (Nat.le_of_ble_eq_true rfl) (Nat.le_of_ble_eq_true rfl) dX2_init_15 (fun pa => ?_)
  refine (show zG E Q (0 + 1 + 1) (0 + 10 + 10) [(m, .inr (2, [.int (iI 0), .int (iI 0), .ref ka, .null, .null, .int (iI 0), .null])), (ka, ai cI 10 (fun _ => 0)), (pa, ai cI 10 (fun _ => 0))] [some (.ref m), some (.int (iI au)), some (.int (iI len))] 17 [.ref pa, .ref m] from ?_)
  refine z_putF (ci := 2) (ws' := [(m, .inr (2, [.int (iI 0), .int (iI 0), .ref ka, .ref pa, .null, .int (iI 0), .null])), (ka, ai cI 10 (fun _ => 0)), (pa, ai cI 10 (fun _ => 0))]) C hI (hi_X2_init_X2) tyX2_ok nmX2 0 rfl rfl 3 (by decide) (by decide +kernel) rfl rfl (tyX2_ok 3 (by decide)) rfl rfl (Nat.le_of_ble_eq_true rfl) rfl dX2_init_17 ?_
  refine z_aload_n (i := 0) C dX2_init_20 rfl rfl ?_
  refine z_bipush (v := iI 10) C dX2_init_21 (by decide) ?_
  refine z_newbool C 1 10 (by decide +kernel) (zT_of hE rfl) rfl (Nat.le_of_ble_eq_true rfl) (Nat.le_of_ble_eq_true rfl) (Nat.le_of_ble_eq_true rfl) dX2_init_23 (fun la => ?_)
  refine (show zG E Q (0 + 1 + 1 + 1) (0 + 10 + 10 + 10) [(m, .inr (2, [.int (iI 0), .int (iI 0), .ref ka, .ref pa, .null, .int (iI 0), .null])), (ka, ai cI 10 (fun _ => 0)), (pa, ai cI 10 (fun _ => 0)), (la, ai cZ 10 (fun _ => 0))] [some (.ref m), some (.int (iI au)), some (.int (iI len))] 25 [.ref la, .ref m] from ?_)
  refine z_putF (ci := 2) (ws' := [(m, .inr (2, [.int (iI 0), .int (iI 0), .ref ka, .ref pa, .ref la, .int (iI 0), .null])), (ka, ai cI 10 (fun _ => 0)), (pa, ai cI 10 (fun _ => 0)), (la, ai cZ 10 (fun _ => 0))]) C hI (hi_X2_init_X2) tyX2_ok nmX2 0 rfl rfl 4 (by decide) (by decide +kernel) rfl rfl (tyX2_ok 4 (by decide)) rfl rfl (Nat.le_of_ble_eq_true rfl) rfl dX2_init_25 ?_
  refine z_aload_n (i := 0) C dX2_init_28 rfl rfl ?_
  refine z_iconst (v := iI 0) C dX2_init_29 rfl ?_
  refine z_put (ci := 2) (ws' := [(m, .inr (2, [.int (iI 0), .int (iI 0), .ref ka, .ref pa, .ref la, .int (iI 0), .null])), (ka, ai cI 10 (fun _ => 0)), (pa, ai cI 10 (fun _ => 0)), (la, ai cZ 10 (fun _ => 0))]) C (hi_X2_init_X2) tyX2_ok nmX2 0 rfl rfl 5 (by decide) (by decide +kernel) rfl (tyX2_ok 5 (by decide)) rfl rfl (Nat.le_of_ble_eq_true rfl) rfl dX2_init_30 ?_
  refine z_aload_n (i := 0) C dX2_init_33 rfl rfl ?_
  refine z_iload_n (i := 1) C dX2_init_34 rfl rfl ?_
  refine z_putF (ci := 2) (ws' := [(m, .inr (2, [.int (iI au), .int (iI 0), .ref ka, .ref pa, .ref la, .int (iI 0), .null])), (ka, ai cI 10 (fun _ => 0)), (pa, ai cI 10 (fun _ => 0)), (la, ai cZ 10 (fun _ => 0))]) C hI (hi_X2_init_X2) tyX2_ok nmX2 0 rfl rfl 0 (by decide) (by decide +kernel) rfl rfl (tyX2_ok 0 (by decide)) rfl rfl (Nat.le_of_ble_eq_true rfl) rfl dX2_init_35 ?_
  refine z_aload_n (i := 0) C dX2_init_38 rfl rfl ?_
  refine z_iload_n (i := 2) C dX2_init_39 rfl rfl ?_
  refine z_putF (ci := 2) (ws' := [(m, .inr (2, [.int (iI au), .int (iI len), .ref ka, .ref pa, .ref la, .int (iI 0), .null])), (ka, ai cI 10 (fun _ => 0)), (pa, ai cI 10 (fun _ => 0)), (la, ai cZ 10 (fun _ => 0))]) C hI (hi_X2_init_X2) tyX2_ok nmX2 0 rfl rfl 1 (by decide) (by decide +kernel) rfl rfl (tyX2_ok 1 (by decide)) rfl rfl (Nat.le_of_ble_eq_true rfl) rfl dX2_init_40 ?_
  refine z_aload_n (i := 0) C dX2_init_43 rfl rfl ?_
  refine z_new (ci := 3) (fs := [.null, .null, .null, .null, .int (iI 0), .int (iI 0)]) C (hi_X2_init_X3) tyX3_ok (by decide +kernel) (by decide +kernel) (by decide +kernel) rfl (by decide) (Nat.le_of_ble_eq_true rfl) (Nat.le_of_ble_eq_true rfl) dX2_init_44 (fun a => ?_)
  refine (show zG E Q (0 + 1 + 1 + 1 + 1) (0 + 10 + 10 + 10 + 6) [(m, .inr (2, [.int (iI au), .int (iI len), .ref ka, .ref pa, .ref la, .int (iI 0), .null])), (ka, ai cI 10 (fun _ => 0)), (pa, ai cI 10 (fun _ => 0)), (la, ai cZ 10 (fun _ => 0)), (a, .inr (3, [.null, .null, .null, .null, .int (iI 0), .int (iI 0)]))] [some (.ref m), some (.int (iI au)), some (.int (iI len))] 47 [.ref a, .ref m] from ?_)
  refine z_dup C dX2_init_47 rfl ?_
  refine z_callIN (host := "PaperGuild") (n := 0) (As := []) (st := [.ref a, .ref m]) (fr := [(m, .inr (2, [.int (iI au), .int (iI len), .ref ka, .ref pa, .ref la, .int (iI 0), .null])), (ka, ai cI 10 (fun _ => 0)), (pa, ai cI 10 (fun _ => 0)), (la, ai cZ 10 (fun _ => 0))]) C hE (k_StacksInit l D cI cZ cM cL a) gX2_init_X3_init_n34 rfl ⟨rfl, rfl⟩ (by decide +kernel) (by decide +kernel) (by decide +kernel) rfl (by decide +kernel) ⟨Nat.le_of_ble_eq_true rfl, Nat.le_of_ble_eq_true rfl⟩ rfl rfl (z_places [4, 0, 1, 2, 3] rfl rfl) (Nat.le_of_ble_eq_true rfl) ⟨Nat.le_of_ble_eq_true rfl, Nat.le_of_ble_eq_true rfl⟩ dX2_init_48 (fun r w1 hpo => ?_)
  obtain ⟨rfl, c, s, nc, ns, rfl⟩ := hpo
  refine (show zG E Q (0 + 1 + 1 + 1 + 1 + 4) (0 + 10 + 10 + 10 + 6 + 130) [(a, .inr (3, [.ref c, .ref s, .ref nc, .ref ns, .int (iI 0), .int (iI 0)])), (c, ai cI 32 (fun _ => 0)), (s, ai cI 33 (fun _ => 0)), (nc, ai cI 32 (fun _ => 0)), (ns, ai cI 33 (fun _ => 0)), (m, .inr (2, [.int (iI au), .int (iI len), .ref ka, .ref pa, .ref la, .int (iI 0), .null])), (ka, ai cI 10 (fun _ => 0)), (pa, ai cI 10 (fun _ => 0)), (la, ai cZ 10 (fun _ => 0))] [some (.ref m), some (.int (iI au)), some (.int (iI len))] 51 [.ref a, .ref m] from ?_)
  refine z_putF (ci := 2) (ws' := [(a, .inr (3, [.ref c, .ref s, .ref nc, .ref ns, .int (iI 0), .int (iI 0)])), (c, ai cI 32 (fun _ => 0)), (s, ai cI 33 (fun _ => 0)), (nc, ai cI 32 (fun _ => 0)), (ns, ai cI 33 (fun _ => 0)), (m, .inr (2, [.int (iI au), .int (iI len), .ref ka, .ref pa, .ref la, .int (iI 0), .ref a])), (ka, ai cI 10 (fun _ => 0)), (pa, ai cI 10 (fun _ => 0)), (la, ai cZ 10 (fun _ => 0))]) C hI (hi_X2_init_X2) tyX2_ok nmX2 5 rfl rfl 6 (by decide) (by decide +kernel) rfl rfl (tyX2_ok 6 (by decide)) rfl rfl (Nat.le_of_ble_eq_true rfl) rfl dX2_init_51 ?_
  refine z_aload_n (i := 0) C dX2_init_54 rfl rfl ?_
  refine z_get (ci := 2) C (hi_X2_init_X2) 5 rfl rfl 6 (by decide) (by decide +kernel) rfl dX2_init_55 ?_
  refine z_iload_n (i := 2) C dX2_init_58 rfl rfl ?_
  refine z_callV (n := 1) (As := [.int (iI len)]) (st := []) (fr := [(m, .inr (2, [.int (iI au), .int (iI len), .ref ka, .ref pa, .ref la, .int (iI 0), .ref a])), (ka, ai cI 10 (fun _ => 0)), (pa, ai cI 10 (fun _ => 0)), (la, ai cZ 10 (fun _ => 0))]) C hE (k_layFlat l D cI cZ cM cL a c s nc ns (fun _ => 0) (fun _ => 0) (fun _ => 0) (fun _ => 0) 0 0 len ⟨by omega, by omega⟩) gX2_init_X3_layFlat rfl ⟨rfl, rfl⟩ (by decide +kernel) ⟨Nat.le_of_ble_eq_true rfl, Nat.le_of_ble_eq_true rfl⟩ rfl rfl (List.Perm.refl _) 0 rfl rfl rfl (Nat.le_of_ble_eq_true rfl) ⟨Nat.le_of_ble_eq_true rfl, Nat.le_of_ble_eq_true rfl⟩ dX2_init_59 (fun r w1 hpo => ?_)
  obtain ⟨rfl, C1, S1, rfl, e1, e2⟩ := hpo
  refine (show zG E Q (0 + 1 + 1 + 1 + 1 + 4) (0 + 10 + 10 + 10 + 6 + 130) [(a, .inr (3, [.ref c, .ref s, .ref nc, .ref ns, .int (iI 0), .int (iI len)])), (c, ai cI 32 C1), (s, ai cI 33 S1), (nc, ai cI 32 (fun _ => 0)), (ns, ai cI 33 (fun _ => 0)), (m, .inr (2, [.int (iI au), .int (iI len), .ref ka, .ref pa, .ref la, .int (iI 0), .ref a])), (ka, ai cI 10 (fun _ => 0)), (pa, ai cI 10 (fun _ => 0)), (la, ai cZ 10 (fun _ => 0))] [some (.ref m), some (.int (iI au)), some (.int (iI len))] 62 [] from ?_)
  refine z_perm (z_places (w := mdW cI cZ m ka pa la a c s nc ns au len 0 (fun _ => 0) (fun _ => 0) (fun _ => 0) C1 S1 (fun _ => 0) (fun _ => 0) 0 len) [5, 6, 7, 8, 0, 1, 2, 3, 4] rfl rfl) ?_
  exact z_vret C hR dX2_init_62 (Nat.le_refl _) (Nat.le_refl _) (⟨rfl, ka, pa, la, a, c, s, nc, ns, C1, S1, rfl, geo_flat (by omega) (by omega) e1 e2⟩)
