/-! THE FOLLOWER: walks. -/
theorem hi_X0_takeStep_X0 : ∀ w ∈ wsX00, w ∈ wsX0_takeStep := by decide +kernel
set_option maxHeartbeats 1000000 in
set_option maxRecDepth 100000 in
theorem k_takeStep (l : Launch) (D : va_G) (cI cZ cM cL : ClassId) (fo : Nat) (x t sp p lf : Int) (hx : 0 ≤ x ∧ x < sp) (hsp : sp ≤ 32) (hp : 1 ≤ p ∧ p < sp) (ht : t = 0 ∨ t = 1) (hlf : lf = 0 ∨ lf = 1) : zN l yX0_takeStep wsX0_takeStep { frames := 1, cells := 0, slots := 0, locals := 21 } D (zTy cI cZ cM cL) [.ref fo, .int (iI p), .int (iI lf)] [(fo, .inr (0, [.int (iI x), .int (iI t), .int (iI sp)]))] (fun r w => r = none ∧ w = [(fo, .inr (0, [.int (iI ((if gz lf p x then 2 * p - 1 - x else x) - lw p lf sp)), .int (iI (if gz lf p x then 1 - t else t)), .int (iI (max p (sp - p)))]))]) 0 0 := by
  refine zN_of (cc := cX0_takeStep) (maxL := 5) (lv0 := [some (.ref fo), some (.int (iI p)), some (.int (iI lf)), none, none]) (by decide) rfl rfl (Nat.le_of_ble_eq_true rfl) rfl ?_
  intro E Q C hE hR hI0
  have k49 : ∀ x1 t1 : Int, x1 = (if gz lf p x then 2 * p - 1 - x else x) → t1 = (if gz lf p x then 1 - t else t) → zG E Q 0 0 [(fo, .inr (0, [.int (iI x1), .int (iI t1), .int (iI sp)]))] [some (.ref fo), some (.int (iI p)), some (.int (iI lf)), none, none] 49 [] := by
    intro x1 t1 e1 e2
    have hx1r : -64 ≤ x1 ∧ x1 ≤ 64 := by rw [e1]; split <;> omega
    have k69 : ∀ low : Int, low = lw p lf sp → zG E Q 0 0 [(fo, .inr (0, [.int (iI x1), .int (iI t1), .int (iI sp)]))] [some (.ref fo), some (.int (iI p)), some (.int (iI lf)), none, none] 69 [.int (iI low)] := by
      intro low el
      have hlr : -64 ≤ low ∧ low ≤ 64 := by rw [el]; unfold lw; split <;> omega
      refine z_istore (lv' := [some (.ref fo), some (.int (iI p)), some (.int (iI lf)), none, some (.int (iI low))]) C dX0_takeStep_69 rfl rfl ?_
      refine z_aload_n (i := 0) C dX0_takeStep_71 rfl rfl ?_
      refine z_dup C dX0_takeStep_72 rfl ?_
      refine z_get (ci := 0) C (hi_X0_takeStep_X0) 0 rfl rfl 0 (by decide) (by decide +kernel) rfl dX0_takeStep_73 ?_
      refine z_iload C dX0_takeStep_76 rfl ?_
      refine z_isubI (v := x1 - low) C dX0_takeStep_78 (by omega) ?_
      refine z_put (ci := 0) (ws' := [(fo, .inr (0, [.int (iI (x1 - low)), .int (iI t1), .int (iI sp)]))]) C (hi_X0_takeStep_X0) tyX0_ok nmX0 0 rfl rfl 0 (by decide) (by decide +kernel) rfl (tyX0_ok 0 (by decide)) rfl rfl (Nat.le_of_ble_eq_true rfl) rfl dX0_takeStep_79 ?_
      refine z_aload_n (i := 0) C dX0_takeStep_82 rfl rfl ?_
      refine z_iload_n (i := 1) C dX0_takeStep_83 rfl rfl ?_
      refine z_aload_n (i := 0) C dX0_takeStep_84 rfl rfl ?_
      refine z_get (ci := 0) C (hi_X0_takeStep_X0) 0 rfl rfl 2 (by decide) (by decide +kernel) rfl dX0_takeStep_85 ?_
      refine z_iload_n (i := 1) C dX0_takeStep_88 rfl rfl ?_
      refine z_isubI (v := sp - p) C dX0_takeStep_89 (by omega) ?_
      refine z_maxI C (by decide +kernel) (by decide +kernel) (by decide +kernel) (by decide +kernel) (Nat.le_of_ble_eq_true rfl) ⟨Nat.le_of_ble_eq_true rfl, Nat.le_of_ble_eq_true rfl⟩ ⟨Nat.le_of_ble_eq_true rfl, Nat.le_of_ble_eq_true rfl⟩ dX0_takeStep_90 ⟨by omega, by omega⟩ ⟨by omega, by omega⟩ ?_
      refine z_put (ci := 0) (ws' := [(fo, .inr (0, [.int (iI (x1 - low)), .int (iI t1), .int (iI (max p (sp - p)))]))]) C (hi_X0_takeStep_X0) tyX0_ok nmX0 0 rfl rfl 2 (by decide) (by decide +kernel) rfl (tyX0_ok 2 (by decide)) rfl rfl (Nat.le_of_ble_eq_true rfl) rfl dX0_takeStep_93 ?_
      exact z_vret C hR dX0_takeStep_96 (Nat.le_refl _) (Nat.le_refl _) (⟨rfl, by rw [e1, e2, el]⟩)
    refine z_iload_n (i := 2) C dX0_takeStep_49 rfl rfl ?_
    refine z_if_eqI (tgt := 57) C dX0_takeStep_50 (by decide) ⟨by omega, by omega⟩ (fun hl => ?_) (fun hl => ?_)
    · refine z_iconst (v := iI 0) C dX0_takeStep_57 rfl ?_
      refine z_iconst (v := iI 2) C dX0_takeStep_58 rfl ?_
      refine z_iload_n (i := 1) C dX0_takeStep_59 rfl rfl ?_
      refine z_imulI (v := 2 * p) C dX0_takeStep_60 (by rfl) ?_
      refine z_aload_n (i := 0) C dX0_takeStep_61 rfl rfl ?_
      refine z_get (ci := 0) C (hi_X0_takeStep_X0) 0 rfl rfl 2 (by decide) (by decide +kernel) rfl dX0_takeStep_62 ?_
      refine z_isubI (v := (2 * p) - sp) C dX0_takeStep_65 (by omega) ?_
      refine z_minI C (by decide +kernel) (by decide +kernel) (by decide +kernel) (by decide +kernel) (Nat.le_of_ble_eq_true rfl) ⟨Nat.le_of_ble_eq_true rfl, Nat.le_of_ble_eq_true rfl⟩ ⟨Nat.le_of_ble_eq_true rfl, Nat.le_of_ble_eq_true rfl⟩ dX0_takeStep_66 ⟨by omega, by omega⟩ ⟨by omega, by omega⟩ ?_
      exact k69 _ (by unfold lw; first | rw [if_pos (by omega)] | rw [if_neg (by omega)])
    · refine z_iload_n (i := 1) C dX0_takeStep_53 rfl rfl ?_
      refine z_goto (tgt := 69) C dX0_takeStep_54 (by decide) ?_
      exact k69 _ (by unfold lw; first | rw [if_pos (by omega)] | rw [if_neg (by omega)])
  refine z_aload_n (i := 0) C dX0_takeStep_0 rfl rfl ?_
  refine z_get (ci := 0) C (hi_X0_takeStep_X0) 0 rfl rfl 0 (by decide) (by decide +kernel) rfl dX0_takeStep_1 ?_
  refine z_iload_n (i := 1) C dX0_takeStep_4 rfl rfl ?_
  refine z_icmp_geI (tgt := 12) C dX0_takeStep_5 (by decide) ⟨by omega, by omega⟩ ⟨by omega, by omega⟩ (fun hx1 => ?_) (fun hx1 => ?_)
  · refine z_iconst (v := iI 0) C dX0_takeStep_12 rfl ?_
    refine z_istore_n (i := 3) (lv' := [some (.ref fo), some (.int (iI p)), some (.int (iI lf)), some (.int (iI 0)), none]) C dX0_takeStep_13 rfl rfl rfl ?_
    refine z_iload_n (i := 3) C dX0_takeStep_14 rfl rfl ?_
    refine z_iload_n (i := 2) C dX0_takeStep_15 rfl rfl ?_
    refine z_icmp_neI (tgt := 49) C dX0_takeStep_16 (by decide) ⟨by omega, by omega⟩ ⟨by omega, by omega⟩ (fun hx2 => ?_) (fun hx2 => ?_)
    · refine (show zG E Q 0 0 [(fo, .inr (0, [.int (iI x), .int (iI t), .int (iI sp)]))] [some (.ref fo), some (.int (iI p)), some (.int (iI lf)), some (.int (iI 0)), none] 49 [] from ?_)
      refine z_le (r := [some (.ref fo), some (.int (iI p)), some (.int (iI lf)), none, none]) ⟨Or.inr rfl, Or.inr rfl, Or.inr rfl, Or.inl rfl, Or.inr rfl, trivial⟩ ?_
      exact k49 (x) (t) (by first | rw [if_pos (by omega)] | rw [if_neg (by omega)]) (by first | (rw [if_pos (by omega)]; omega) | rw [if_neg (by omega)])
    · refine z_aload_n (i := 0) C dX0_takeStep_19 rfl rfl ?_
      refine z_iconst (v := iI 2) C dX0_takeStep_20 rfl ?_
      refine z_iload_n (i := 1) C dX0_takeStep_21 rfl rfl ?_
      refine z_imulI (v := 2 * p) C dX0_takeStep_22 (by rfl) ?_
      refine z_iconst (v := iI 1) C dX0_takeStep_23 rfl ?_
      refine z_isubI (v := (2 * p) - 1) C dX0_takeStep_24 (by omega) ?_
      refine z_aload_n (i := 0) C dX0_takeStep_25 rfl rfl ?_
      refine z_get (ci := 0) C (hi_X0_takeStep_X0) 0 rfl rfl 0 (by decide) (by decide +kernel) rfl dX0_takeStep_26 ?_
      refine z_isubI (v := ((2 * p) - 1) - x) C dX0_takeStep_29 (by omega) ?_
      refine z_put (ci := 0) (ws' := [(fo, .inr (0, [.int (iI (((2 * p) - 1) - x)), .int (iI t), .int (iI sp)]))]) C (hi_X0_takeStep_X0) tyX0_ok nmX0 0 rfl rfl 0 (by decide) (by decide +kernel) rfl (tyX0_ok 0 (by decide)) rfl rfl (Nat.le_of_ble_eq_true rfl) rfl dX0_takeStep_30 ?_
      refine z_aload_n (i := 0) C dX0_takeStep_33 rfl rfl ?_
      refine z_aload_n (i := 0) C dX0_takeStep_34 rfl rfl ?_
      refine z_get (ci := 0) C (hi_X0_takeStep_X0) 0 rfl rfl 1 (by decide) (by decide +kernel) rfl dX0_takeStep_35 ?_
      refine z_if_neI (tgt := 45) C dX0_takeStep_38 (by decide) ⟨by omega, by omega⟩ (fun hx3 => ?_) (fun hx3 => ?_)
      · refine z_iconst (v := iI 0) C dX0_takeStep_45 rfl ?_
        refine z_put (ci := 0) (ws' := [(fo, .inr (0, [.int (iI (((2 * p) - 1) - x)), .int (iI 0), .int (iI sp)]))]) C (hi_X0_takeStep_X0) tyX0_ok nmX0 0 rfl rfl 1 (by decide) (by decide +kernel) rfl (tyX0_ok 1 (by decide)) (by decide) (by decide) (Nat.le_of_ble_eq_true rfl) rfl dX0_takeStep_46 ?_
        refine (show zG E Q 0 0 [(fo, .inr (0, [.int (iI (((2 * p) - 1) - x)), .int (iI 0), .int (iI sp)]))] [some (.ref fo), some (.int (iI p)), some (.int (iI lf)), some (.int (iI 0)), none] 49 [] from ?_)
        refine z_le (r := [some (.ref fo), some (.int (iI p)), some (.int (iI lf)), none, none]) ⟨Or.inr rfl, Or.inr rfl, Or.inr rfl, Or.inl rfl, Or.inr rfl, trivial⟩ ?_
        exact k49 (((2 * p) - 1) - x) (0) (by first | rw [if_pos (by omega)] | rw [if_neg (by omega)]) (by first | (rw [if_pos (by omega)]; omega) | rw [if_neg (by omega)])
      · refine z_iconst (v := iI 1) C dX0_takeStep_41 rfl ?_
        refine z_goto (tgt := 46) C dX0_takeStep_42 (by decide) ?_
        refine z_put (ci := 0) (ws' := [(fo, .inr (0, [.int (iI (((2 * p) - 1) - x)), .int (iI 1), .int (iI sp)]))]) C (hi_X0_takeStep_X0) tyX0_ok nmX0 0 rfl rfl 1 (by decide) (by decide +kernel) rfl (tyX0_ok 1 (by decide)) (by decide) (by decide) (Nat.le_of_ble_eq_true rfl) rfl dX0_takeStep_46 ?_
        refine (show zG E Q 0 0 [(fo, .inr (0, [.int (iI (((2 * p) - 1) - x)), .int (iI 1), .int (iI sp)]))] [some (.ref fo), some (.int (iI p)), some (.int (iI lf)), some (.int (iI 0)), none] 49 [] from ?_)
        refine z_le (r := [some (.ref fo), some (.int (iI p)), some (.int (iI lf)), none, none]) ⟨Or.inr rfl, Or.inr rfl, Or.inr rfl, Or.inl rfl, Or.inr rfl, trivial⟩ ?_
        exact k49 (((2 * p) - 1) - x) (1) (by first | rw [if_pos (by omega)] | rw [if_neg (by omega)]) (by first | (rw [if_pos (by omega)]; omega) | rw [if_neg (by omega)])
  · refine z_iconst (v := iI 1) C dX0_takeStep_8 rfl ?_
    refine z_goto (tgt := 13) C dX0_takeStep_9 (by decide) ?_
    refine z_istore_n (i := 3) (lv' := [some (.ref fo), some (.int (iI p)), some (.int (iI lf)), some (.int (iI 1)), none]) C dX0_takeStep_13 rfl rfl rfl ?_
    refine z_iload_n (i := 3) C dX0_takeStep_14 rfl rfl ?_
    refine z_iload_n (i := 2) C dX0_takeStep_15 rfl rfl ?_
    refine z_icmp_neI (tgt := 49) C dX0_takeStep_16 (by decide) ⟨by omega, by omega⟩ ⟨by omega, by omega⟩ (fun hx2 => ?_) (fun hx2 => ?_)
    · refine (show zG E Q 0 0 [(fo, .inr (0, [.int (iI x), .int (iI t), .int (iI sp)]))] [some (.ref fo), some (.int (iI p)), some (.int (iI lf)), some (.int (iI 1)), none] 49 [] from ?_)
      refine z_le (r := [some (.ref fo), some (.int (iI p)), some (.int (iI lf)), none, none]) ⟨Or.inr rfl, Or.inr rfl, Or.inr rfl, Or.inl rfl, Or.inr rfl, trivial⟩ ?_
      exact k49 (x) (t) (by first | rw [if_pos (by omega)] | rw [if_neg (by omega)]) (by first | (rw [if_pos (by omega)]; omega) | rw [if_neg (by omega)])
    · refine z_aload_n (i := 0) C dX0_takeStep_19 rfl rfl ?_
      refine z_iconst (v := iI 2) C dX0_takeStep_20 rfl ?_
      refine z_iload_n (i := 1) C dX0_takeStep_21 rfl rfl ?_
      refine z_imulI (v := 2 * p) C dX0_takeStep_22 (by rfl) ?_
      refine z_iconst (v := iI 1) C dX0_takeStep_23 rfl ?_
      refine z_isubI (v := (2 * p) - 1) C dX0_takeStep_24 (by omega) ?_
      refine z_aload_n (i := 0) C dX0_takeStep_25 rfl rfl ?_
      refine z_get (ci := 0) C (hi_X0_takeStep_X0) 0 rfl rfl 0 (by decide) (by decide +kernel) rfl dX0_takeStep_26 ?_
      refine z_isubI (v := ((2 * p) - 1) - x) C dX0_takeStep_29 (by omega) ?_
      refine z_put (ci := 0) (ws' := [(fo, .inr (0, [.int (iI (((2 * p) - 1) - x)), .int (iI t), .int (iI sp)]))]) C (hi_X0_takeStep_X0) tyX0_ok nmX0 0 rfl rfl 0 (by decide) (by decide +kernel) rfl (tyX0_ok 0 (by decide)) rfl rfl (Nat.le_of_ble_eq_true rfl) rfl dX0_takeStep_30 ?_
      refine z_aload_n (i := 0) C dX0_takeStep_33 rfl rfl ?_
      refine z_aload_n (i := 0) C dX0_takeStep_34 rfl rfl ?_
      refine z_get (ci := 0) C (hi_X0_takeStep_X0) 0 rfl rfl 1 (by decide) (by decide +kernel) rfl dX0_takeStep_35 ?_
      refine z_if_neI (tgt := 45) C dX0_takeStep_38 (by decide) ⟨by omega, by omega⟩ (fun hx3 => ?_) (fun hx3 => ?_)
      · refine z_iconst (v := iI 0) C dX0_takeStep_45 rfl ?_
        refine z_put (ci := 0) (ws' := [(fo, .inr (0, [.int (iI (((2 * p) - 1) - x)), .int (iI 0), .int (iI sp)]))]) C (hi_X0_takeStep_X0) tyX0_ok nmX0 0 rfl rfl 1 (by decide) (by decide +kernel) rfl (tyX0_ok 1 (by decide)) (by decide) (by decide) (Nat.le_of_ble_eq_true rfl) rfl dX0_takeStep_46 ?_
        refine (show zG E Q 0 0 [(fo, .inr (0, [.int (iI (((2 * p) - 1) - x)), .int (iI 0), .int (iI sp)]))] [some (.ref fo), some (.int (iI p)), some (.int (iI lf)), some (.int (iI 1)), none] 49 [] from ?_)
        refine z_le (r := [some (.ref fo), some (.int (iI p)), some (.int (iI lf)), none, none]) ⟨Or.inr rfl, Or.inr rfl, Or.inr rfl, Or.inl rfl, Or.inr rfl, trivial⟩ ?_
        exact k49 (((2 * p) - 1) - x) (0) (by first | rw [if_pos (by omega)] | rw [if_neg (by omega)]) (by first | (rw [if_pos (by omega)]; omega) | rw [if_neg (by omega)])
      · refine z_iconst (v := iI 1) C dX0_takeStep_41 rfl ?_
        refine z_goto (tgt := 46) C dX0_takeStep_42 (by decide) ?_
        refine z_put (ci := 0) (ws' := [(fo, .inr (0, [.int (iI (((2 * p) - 1) - x)), .int (iI 1), .int (iI sp)]))]) C (hi_X0_takeStep_X0) tyX0_ok nmX0 0 rfl rfl 1 (by decide) (by decide +kernel) rfl (tyX0_ok 1 (by decide)) (by decide) (by decide) (Nat.le_of_ble_eq_true rfl) rfl dX0_takeStep_46 ?_
        refine (show zG E Q 0 0 [(fo, .inr (0, [.int (iI (((2 * p) - 1) - x)), .int (iI 1), .int (iI sp)]))] [some (.ref fo), some (.int (iI p)), some (.int (iI lf)), some (.int (iI 1)), none] 49 [] from ?_)
        refine z_le (r := [some (.ref fo), some (.int (iI p)), some (.int (iI lf)), none, none]) ⟨Or.inr rfl, Or.inr rfl, Or.inr rfl, Or.inl rfl, Or.inr rfl, trivial⟩ ?_
        exact k49 (((2 * p) - 1) - x) (1) (by first | rw [if_pos (by omega)] | rw [if_neg (by omega)]) (by first | (rw [if_pos (by omega)]; omega) | rw [if_neg (by omega)])
theorem hi_X0_follow_X0 : ∀ w ∈ wsX00, w ∈ wsX0_follow := by decide +kernel
theorem hi_X0_follow_X2 : ∀ w ∈ wsX20, w ∈ wsX0_follow := by decide +kernel
set_option maxHeartbeats 1000000 in
set_option maxRecDepth 100000 in
theorem k_follow (l : Launch) (D : va_G) (cI cZ cM cL : ClassId) (fo m ka pa la a : Nat) (x t sp au len n q : Int) (P F : Int → Int) (hn : 0 ≤ n ∧ n ≤ 10) (hlen : 2 ≤ len ∧ len ≤ 32) (hq : 0 ≤ q ∧ q < len) (hst : stV len n P F) : zN l yX0_follow wsX0_follow { frames := 2, cells := 0, slots := 0, locals := 45 } D (zTy cI cZ cM cL) [.ref fo, .ref m, .int (iI q)] [(fo, .inr (0, [.int (iI x), .int (iI t), .int (iI sp)])), (m, .inr (2, [.int (iI au), .int (iI len), .ref ka, .ref pa, .ref la, .int (iI n), .ref a])), (pa, ai cI 10 P), (la, ai cZ 10 F)] (fun r w => r = none ∧ w = [(fo, .inr (0, [.int (iI (gP len P F n.toNat q)), .int (iI (gT len P F n.toNat q)), .int (iI (gS len P n.toNat))])), (m, .inr (2, [.int (iI au), .int (iI len), .ref ka, .ref pa, .ref la, .int (iI n), .ref a])), (pa, ai cI 10 P), (la, ai cZ 10 F)]) 0 0 := by
  refine zN_of (cc := cX0_follow) (maxL := 4) (lv0 := [some (.ref fo), some (.ref m), some (.int (iI q)), none]) (by decide) rfl rfl (Nat.le_of_ble_eq_true rfl) rfl ?_
  intro E Q C hE hR hI0
  have lp : ∀ (z : Nat) (j : Nat), j ≤ n.toNat → n.toNat - j < z → zG E Q (0) (0) [(fo, .inr (0, [.int (iI (gP len P F j q)), .int (iI (gT len P F j q)), .int (iI (gS len P j))])), (m, .inr (2, [.int (iI au), .int (iI len), .ref ka, .ref pa, .ref la, .int (iI n), .ref a])), (pa, ai cI 10 P), (la, ai cZ 10 F)] [some (.ref fo), some (.ref m), some (.int (iI q)), some (.int (iI ↑j))] 20 [] := by
    intro z
    induction z with
    | zero => intro j hj hjn; omega
    | succ z ih =>
      intro j hj hjn
      refine z_iload_n (i := 3) C dX0_follow_20 rfl rfl ?_
      refine z_aload_n (i := 1) C dX0_follow_21 rfl rfl ?_
      refine z_get (ci := 2) C (hi_X0_follow_X2) 1 rfl rfl 5 (by decide) (by decide +kernel) rfl dX0_follow_22 ?_
      refine z_icmp_geI (tgt := 50) C dX0_follow_25 (by decide) ⟨by omega, by omega⟩ ⟨by omega, by omega⟩ (fun hk => ?_) (fun hk => ?_)
      · exact z_vret C hR dX0_follow_50 (Nat.le_refl _) (Nat.le_refl _) (⟨rfl, by rw [show j = n.toNat by omega]⟩)
      · refine z_aload_n (i := 0) C dX0_follow_28 rfl rfl ?_
        refine z_aload_n (i := 1) C dX0_follow_29 rfl rfl ?_
        refine z_get (ci := 2) C (hi_X0_follow_X2) 1 rfl rfl 3 (by decide) (by decide +kernel) rfl dX0_follow_30 ?_
        refine z_iload_n (i := 3) C dX0_follow_33 rfl rfl ?_
        refine z_ialoadI 2 (he := rfl) C (zT_of hE (t0 := 0) rfl) (by omega) (by omega) (by decide) dX0_follow_34 ?_
        refine z_aload_n (i := 1) C dX0_follow_35 rfl rfl ?_
        refine z_get (ci := 2) C (hi_X0_follow_X2) 1 rfl rfl 4 (by decide) (by decide +kernel) rfl dX0_follow_36 ?_
        refine z_iload_n (i := 3) C dX0_follow_39 rfl rfl ?_
        refine z_baloadI 3 (he := rfl) C (zT_of hE (t0 := 1) rfl) (by omega) (by omega) (by decide) dX0_follow_40 ?_
        refine z_callV (n := 2) (As := [.int (iI (P (↑j))), .int (iI (F (↑j)))]) (st := []) (fr := [(m, .inr (2, [.int (iI au), .int (iI len), .ref ka, .ref pa, .ref la, .int (iI n), .ref a])), (pa, ai cI 10 P), (la, ai cZ 10 F)]) C hE (k_takeStep l D cI cZ cM cL fo (gP len P F j q) (gT len P F j q) (gS len P j) (P ↑j) (F ↑j) (stV_gP hst (by omega) hq.1 hq.2 j (by omega)) (by have := stV_gS hst (by omega) j (by omega); omega) (hst j (by omega)).1 (gT_r q j) (hst j (by omega)).2) gX0_follow_X0_takeStep rfl ⟨rfl, rfl⟩ (by decide +kernel) ⟨Nat.le_of_ble_eq_true rfl, Nat.le_of_ble_eq_true rfl⟩ rfl rfl (List.Perm.refl _) 0 rfl rfl rfl (Nat.le_of_ble_eq_true rfl) ⟨Nat.le_of_ble_eq_true rfl, Nat.le_of_ble_eq_true rfl⟩ dX0_follow_41 (fun r w1 hpo => ?_)
        obtain ⟨rfl, rfl⟩ := hpo
        refine (show zG E Q (0) (0) [(fo, .inr (0, [.int (iI ((if gz (F ↑j) (P ↑j) (gP len P F j q) then 2 * P ↑j - 1 - gP len P F j q else gP len P F j q) - lw (P ↑j) (F ↑j) (gS len P j))), .int (iI (if gz (F ↑j) (P ↑j) (gP len P F j q) then 1 - gT len P F j q else gT len P F j q)), .int (iI (max (P ↑j) (gS len P j - P ↑j)))])), (m, .inr (2, [.int (iI au), .int (iI len), .ref ka, .ref pa, .ref la, .int (iI n), .ref a])), (pa, ai cI 10 P), (la, ai cZ 10 F)] [some (.ref fo), some (.ref m), some (.int (iI q)), some (.int (iI ↑j))] 44 [] from ?_)
        refine z_iincI (v := ↑(j + 1)) (lv' := [some (.ref fo), some (.ref m), some (.int (iI q)), some (.int (iI (↑(j + 1))))]) C dX0_follow_44 rfl (by omega) rfl ?_
        refine z_goto (tgt := 20) C dX0_follow_47 (by decide) ?_
        exact ih (j + 1) (by omega) (by omega)
  refine z_aload_n (i := 0) C dX0_follow_0 rfl rfl ?_
  refine z_iload_n (i := 2) C dX0_follow_1 rfl rfl ?_
  refine z_put (ci := 0) (ws' := [(fo, .inr (0, [.int (iI q), .int (iI t), .int (iI sp)])), (m, .inr (2, [.int (iI au), .int (iI len), .ref ka, .ref pa, .ref la, .int (iI n), .ref a])), (pa, ai cI 10 P), (la, ai cZ 10 F)]) C (hi_X0_follow_X0) tyX0_ok nmX0 0 rfl rfl 0 (by decide) (by decide +kernel) rfl (tyX0_ok 0 (by decide)) rfl rfl (Nat.le_of_ble_eq_true rfl) rfl dX0_follow_2 ?_
  refine z_aload_n (i := 0) C dX0_follow_5 rfl rfl ?_
  refine z_iconst (v := iI 0) C dX0_follow_6 rfl ?_
  refine z_put (ci := 0) (ws' := [(fo, .inr (0, [.int (iI q), .int (iI 0), .int (iI sp)])), (m, .inr (2, [.int (iI au), .int (iI len), .ref ka, .ref pa, .ref la, .int (iI n), .ref a])), (pa, ai cI 10 P), (la, ai cZ 10 F)]) C (hi_X0_follow_X0) tyX0_ok nmX0 0 rfl rfl 1 (by decide) (by decide +kernel) rfl (tyX0_ok 1 (by decide)) (by decide) (by decide) (Nat.le_of_ble_eq_true rfl) rfl dX0_follow_7 ?_
  refine z_aload_n (i := 0) C dX0_follow_10 rfl rfl ?_
  refine z_aload_n (i := 1) C dX0_follow_11 rfl rfl ?_
  refine z_get (ci := 2) C (hi_X0_follow_X2) 1 rfl rfl 1 (by decide) (by decide +kernel) rfl dX0_follow_12 ?_
  refine z_put (ci := 0) (ws' := [(fo, .inr (0, [.int (iI q), .int (iI 0), .int (iI len)])), (m, .inr (2, [.int (iI au), .int (iI len), .ref ka, .ref pa, .ref la, .int (iI n), .ref a])), (pa, ai cI 10 P), (la, ai cZ 10 F)]) C (hi_X0_follow_X0) tyX0_ok nmX0 0 rfl rfl 2 (by decide) (by decide +kernel) rfl (tyX0_ok 2 (by decide)) rfl rfl (Nat.le_of_ble_eq_true rfl) rfl dX0_follow_15 ?_
  refine z_iconst (v := iI 0) C dX0_follow_18 rfl ?_
  refine z_istore_n (i := 3) (lv' := [some (.ref fo), some (.ref m), some (.int (iI q)), some (.int (iI 0))]) C dX0_follow_19 rfl rfl rfl ?_
  refine (show zG E Q 0 0 [(fo, .inr (0, [.int (iI (gP len P F 0 q)), .int (iI (gT len P F 0 q)), .int (iI (gS len P 0))])), (m, .inr (2, [.int (iI au), .int (iI len), .ref ka, .ref pa, .ref la, .int (iI n), .ref a])), (pa, ai cI 10 P), (la, ai cZ 10 F)] [some (.ref fo), some (.ref m), some (.int (iI q)), some (.int (iI ↑(0 : Nat)))] 20 [] from ?_)
  exact lp (n.toNat + 1) 0 (by omega) (by omega)
theorem hi_X0_init_X0 : ∀ w ∈ wsX00, w ∈ wsX0_init := by decide +kernel
set_option maxHeartbeats 1000000 in
set_option maxRecDepth 100000 in
theorem k_FollowerInit (l : Launch) (D : va_G) (cI cZ cM cL : ClassId) (fo : Nat) : zN l yX0_init wsX0_init { frames := 1, cells := 0, slots := 0, locals := 20 } D (zTy cI cZ cM cL) [.ref fo] [(fo, .inr (0, [.int (iI 0), .int (iI 0), .int (iI 0)]))] (fun r w => r = none ∧ w = [(fo, .inr (0, [.int (iI 0), .int (iI 0), .int (iI 0)]))]) 0 0 := by
  refine zN_of (cc := cX0_init) (maxL := 1) (lv0 := [some (.ref fo)]) (by decide) rfl rfl (Nat.le_of_ble_eq_true rfl) rfl ?_
  intro E Q C hE hR hI0
  have hI := hI0 rfl
  refine z_aload_n (i := 0) C dX0_init_0 rfl rfl ?_
  refine z_objInit C (by decide +kernel) (by decide +kernel) (by decide +kernel) (Nat.le_of_ble_eq_true rfl) ⟨Nat.le_of_ble_eq_true rfl, Nat.le_of_ble_eq_true rfl⟩ dX0_init_1 ?_
  refine z_aload_n (i := 0) C dX0_init_4 rfl rfl ?_
  refine z_iconst (v := iI 0) C dX0_init_5 rfl ?_
  refine z_put (ci := 0) (ws' := [(fo, .inr (0, [.int (iI 0), .int (iI 0), .int (iI 0)]))]) C (hi_X0_init_X0) tyX0_ok nmX0 0 rfl rfl 0 (by decide) (by decide +kernel) rfl (tyX0_ok 0 (by decide)) rfl rfl (Nat.le_of_ble_eq_true rfl) rfl dX0_init_6 ?_
  refine z_aload_n (i := 0) C dX0_init_9 rfl rfl ?_
  refine z_iconst (v := iI 0) C dX0_init_10 rfl ?_
  refine z_put (ci := 0) (ws' := [(fo, .inr (0, [.int (iI 0), .int (iI 0), .int (iI 0)]))]) C (hi_X0_init_X0) tyX0_ok nmX0 0 rfl rfl 1 (by decide) (by decide +kernel) rfl (tyX0_ok 1 (by decide)) (by decide) (by decide) (Nat.le_of_ble_eq_true rfl) rfl dX0_init_11 ?_
  refine z_aload_n (i := 0) C dX0_init_14 rfl rfl ?_
  refine z_iconst (v := iI 0) C dX0_init_15 rfl ?_
  refine z_put (ci := 0) (ws' := [(fo, .inr (0, [.int (iI 0), .int (iI 0), .int (iI 0)]))]) C (hi_X0_init_X0) tyX0_ok nmX0 0 rfl rfl 2 (by decide) (by decide +kernel) rfl (tyX0_ok 2 (by decide)) rfl rfl (Nat.le_of_ble_eq_true rfl) rfl dX0_init_16 ?_
  exact z_vret C hR dX0_init_19 (Nat.le_refl _) (Nat.le_refl _) (⟨rfl, rfl⟩)
