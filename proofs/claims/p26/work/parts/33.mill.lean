/-! THE MILL: walks. -/
set_option maxHeartbeats 1000000 in
set_option maxRecDepth 100000 in
theorem k_bitCount (l : Launch) (D : va_G) (cI cZ cM cL : ClassId) (x : Int32) : zN l yJ6_bitCount_0f7a4 wsJ6_bitCount_0f7a4 { frames := 0, cells := 0, slots := 0, locals := 0 } D (zTy cI cZ cM cL) [.int x] [] (fun r w => r = some (.int (bcE x)) ∧ w = []) 0 0 := by
  refine zN_of (cc := cJ6_bitCount_0f7a4) (maxL := 1) (lv0 := [some (.int x)]) (by decide) rfl rfl (Nat.le_of_ble_eq_true rfl) rfl ?_
  intro E Q C hE hR hI0
  refine z_iload_n (i := 0) C dJ6_bitCount_0f7a4_0 rfl rfl ?_
  refine z_iload_n (i := 0) C dJ6_bitCount_0f7a4_1 rfl rfl ?_
  refine z_iconst (v := iI 1) C dJ6_bitCount_0f7a4_2 rfl ?_
  refine z_iushr C dJ6_bitCount_0f7a4_3 rfl ?_
  refine z_ldcw (v := iI 1431655765) C dJ6_bitCount_0f7a4_4 (by decide +kernel) ?_
  refine z_iand C dJ6_bitCount_0f7a4_7 ?_
  refine z_isub C dJ6_bitCount_0f7a4_8 ?_
  refine z_top (y := bc1 x) (rfl) ?_
  refine z_istore_n (i := 0) (lv' := [some (.int (bc1 x))]) C dJ6_bitCount_0f7a4_9 rfl rfl rfl ?_
  refine z_iload_n (i := 0) C dJ6_bitCount_0f7a4_10 rfl rfl ?_
  refine z_ldcw (v := iI 858993459) C dJ6_bitCount_0f7a4_11 (by decide +kernel) ?_
  refine z_iand C dJ6_bitCount_0f7a4_14 ?_
  refine z_iload_n (i := 0) C dJ6_bitCount_0f7a4_15 rfl rfl ?_
  refine z_iconst (v := iI 2) C dJ6_bitCount_0f7a4_16 rfl ?_
  refine z_iushr C dJ6_bitCount_0f7a4_17 rfl ?_
  refine z_ldcw (v := iI 858993459) C dJ6_bitCount_0f7a4_18 (by decide +kernel) ?_
  refine z_iand C dJ6_bitCount_0f7a4_21 ?_
  refine z_iadd C dJ6_bitCount_0f7a4_22 ?_
  refine z_top (y := bc2 (bc1 x)) (rfl) ?_
  refine z_istore_n (i := 0) (lv' := [some (.int (bc2 (bc1 x)))]) C dJ6_bitCount_0f7a4_23 rfl rfl rfl ?_
  refine z_iload_n (i := 0) C dJ6_bitCount_0f7a4_24 rfl rfl ?_
  refine z_iload_n (i := 0) C dJ6_bitCount_0f7a4_25 rfl rfl ?_
  refine z_iconst (v := iI 4) C dJ6_bitCount_0f7a4_26 rfl ?_
  refine z_iushr C dJ6_bitCount_0f7a4_27 rfl ?_
  refine z_iadd C dJ6_bitCount_0f7a4_28 ?_
  refine z_ldcw (v := iI 252645135) C dJ6_bitCount_0f7a4_29 (by decide +kernel) ?_
  refine z_iand C dJ6_bitCount_0f7a4_32 ?_
  refine z_top (y := bc3 (bc2 (bc1 x))) (rfl) ?_
  refine z_istore_n (i := 0) (lv' := [some (.int (bc3 (bc2 (bc1 x))))]) C dJ6_bitCount_0f7a4_33 rfl rfl rfl ?_
  refine z_iload_n (i := 0) C dJ6_bitCount_0f7a4_34 rfl rfl ?_
  refine z_iload_n (i := 0) C dJ6_bitCount_0f7a4_35 rfl rfl ?_
  refine z_bipush (v := iI 8) C dJ6_bitCount_0f7a4_36 (by decide) ?_
  refine z_iushr C dJ6_bitCount_0f7a4_38 rfl ?_
  refine z_iadd C dJ6_bitCount_0f7a4_39 ?_
  refine z_top (y := bc4 (bc3 (bc2 (bc1 x)))) (rfl) ?_
  refine z_istore_n (i := 0) (lv' := [some (.int (bc4 (bc3 (bc2 (bc1 x)))))]) C dJ6_bitCount_0f7a4_40 rfl rfl rfl ?_
  refine z_iload_n (i := 0) C dJ6_bitCount_0f7a4_41 rfl rfl ?_
  refine z_iload_n (i := 0) C dJ6_bitCount_0f7a4_42 rfl rfl ?_
  refine z_bipush (v := iI 16) C dJ6_bitCount_0f7a4_43 (by decide) ?_
  refine z_iushr C dJ6_bitCount_0f7a4_45 rfl ?_
  refine z_iadd C dJ6_bitCount_0f7a4_46 ?_
  refine z_top (y := bc5 (bc4 (bc3 (bc2 (bc1 x))))) (rfl) ?_
  refine z_istore_n (i := 0) (lv' := [some (.int (bc5 (bc4 (bc3 (bc2 (bc1 x))))))]) C dJ6_bitCount_0f7a4_47 rfl rfl rfl ?_
  refine z_iload_n (i := 0) C dJ6_bitCount_0f7a4_48 rfl rfl ?_
  refine z_bipush (v := iI 63) C dJ6_bitCount_0f7a4_49 (by decide) ?_
  refine z_iand C dJ6_bitCount_0f7a4_51 ?_
  exact z_iret C hR dJ6_bitCount_0f7a4_52 (Nat.le_refl _) (Nat.le_refl _) (⟨rfl, rfl⟩)
theorem hi_X1_isDemanded_X1 : ∀ w ∈ wsX10, w ∈ wsX1_isDemanded := by decide +kernel
set_option maxHeartbeats 1000000 in
set_option maxRecDepth 100000 in
theorem k_isDemanded (l : Launch) (D : va_G) (cI cZ cM cL : ClassId) (mi fw wt : Nat) (L : Int) (d : Int32) (A B : Int → Int) (u : Int) (hu : 0 ≤ u ∧ u ≤ 1000) : zN l yX1_isDemanded wsX1_isDemanded { frames := 1, cells := 0, slots := 0, locals := 21 } D (zTy cI cZ cM cL) [.ref mi, .int (iI (u + 1))] (miW cI mi fw wt L d A B) (fun r w => r = some (.int (iI (b2 (hb d (iI u))))) ∧ w = (miW cI mi fw wt L d A B)) 0 0 := by
  refine zN_of (cc := cX1_isDemanded) (maxL := 2) (lv0 := [some (.ref mi), some (.int (iI (u + 1)))]) (by decide) rfl rfl (Nat.le_of_ble_eq_true rfl) rfl ?_
  intro E Q C hE hR hI0
  refine (show zG E Q 0 0 [(mi, .inr (1, [.int (iI L), .int d, .ref fw, .ref wt])), (fw, ai cI 201 A), (wt, ai cI 201 B)] [some (.ref mi), some (.int (iI (u + 1)))] 0 [] from ?_)
  refine z_aload_n (i := 0) C dX1_isDemanded_0 rfl rfl ?_
  refine z_get (ci := 1) C (hi_X1_isDemanded_X1) 0 rfl rfl 1 (by decide) (by decide +kernel) rfl dX1_isDemanded_1 ?_
  refine z_iload_n (i := 1) C dX1_isDemanded_4 rfl rfl ?_
  refine z_iconst (v := iI 1) C dX1_isDemanded_5 rfl ?_
  refine z_isubI (v := (u + 1) - 1) C dX1_isDemanded_6 (by omega) ?_
  refine z_top (y := iI u) (by rw [show u + 1 - 1 = u by omega]) ?_
  refine z_callSN (host := "PaperGuild") (n := 2) (As := [.int d, .int (iI u)]) (st := []) (fr := [(mi, .inr (1, [.int (iI L), .int d, .ref fw, .ref wt])), (fw, ai cI 201 A), (wt, ai cI 201 B)]) C hE (k_holds l D cI cZ cM cL d (iI u)) gX1_isDemanded_X4_holds_n41 rfl ⟨rfl, rfl⟩ (by decide +kernel) (by decide +kernel) (by decide +kernel) (by decide +kernel) ⟨Nat.le_of_ble_eq_true rfl, Nat.le_of_ble_eq_true rfl⟩ rfl rfl (List.Perm.refl _) (Nat.le_of_ble_eq_true rfl) ⟨Nat.le_of_ble_eq_true rfl, Nat.le_of_ble_eq_true rfl⟩ dX1_isDemanded_7 (fun r w1 hpo => ?_)
  obtain ⟨rfl, rfl⟩ := hpo
  refine (show zG E Q (0) (0) [(mi, .inr (1, [.int (iI L), .int d, .ref fw, .ref wt])), (fw, ai cI 201 A), (wt, ai cI 201 B)] [some (.ref mi), some (.int (iI (u + 1)))] 10 [.int (iI (b2 (hb d (iI u))))] from ?_)
  exact z_zret C hR (nb2 _) dX1_isDemanded_10 (Nat.le_refl _) (Nat.le_refl _) (⟨rfl, rfl⟩)
theorem hi_X1_fewestFor_X1 : ∀ w ∈ wsX10, w ∈ wsX1_fewestFor := by decide +kernel
set_option maxHeartbeats 1000000 in
set_option maxRecDepth 100000 in
theorem k_fewestFor (l : Launch) (D : va_G) (cI cZ cM cL : ClassId) (mi fw wt : Nat) (L : Int) (d : Int32) (A B : Int → Int) (x : Int) (hx : 1 ≤ x ∧ x ≤ 200) (hA : ∀ y, 0 ≤ y → y < x → -1 ≤ A y ∧ A y ≤ 300) : zN l yX1_fewestFor wsX1_fewestFor { frames := 2, cells := 0, slots := 0, locals := 42 } D (zTy cI cZ cM cL) [.ref mi, .int (iI x)] (miW cI mi fw wt L d A B) (fun r w => r = some (.int (iI (fwb d A x (min 20 x.toNat)))) ∧ w = (miW cI mi fw wt L d A B)) 0 0 := by
  refine zN_of (cc := cX1_fewestFor) (maxL := 5) (lv0 := [some (.ref mi), some (.int (iI x)), none, none, none]) (by decide) rfl rfl (Nat.le_of_ble_eq_true rfl) rfl ?_
  intro E Q C hE hR hI0
  refine (show zG E Q 0 0 [(mi, .inr (1, [.int (iI L), .int d, .ref fw, .ref wt])), (fw, ai cI 201 A), (wt, ai cI 201 B)] [some (.ref mi), some (.int (iI x)), none, none, none] 0 [] from ?_)
  have lp : ∀ (n : Nat) (j : Nat), (j : Int) ≤ 20 → (j : Int) ≤ x → 20 - j < n → zG E Q (0) (0) [(mi, .inr (1, [.int (iI L), .int d, .ref fw, .ref wt])), (fw, ai cI 201 A), (wt, ai cI 201 B)] [some (.ref mi), some (.int (iI x)), some (.int (iI (fwb d A x j))), some (.int (iI (↑j + 1))), none] 4 [] := by
    intro n
    induction n with
    | zero => intro j hj1 hj2 hjn; omega
    | succ n ih =>
      intro j hj1 hj2 hjn
      have hr1 := fwb_r (d := d) (A := A) (x := x) (B := 300) (fun y a b => (hA y a b).2) j (by omega)
      have l37 : (j : Int) < 20 → (j : Int) < x → ∀ bv : Int, bv = (if hb d (iI ↑j) then A (x - (↑j + 1)) else -1) → zG E Q 0 0 [(mi, .inr (1, [.int (iI L), .int d, .ref fw, .ref wt])), (fw, ai cI 201 A), (wt, ai cI 201 B)] [some (.ref mi), some (.int (iI x)), some (.int (iI (fwb d A x j))), some (.int (iI (↑j + 1))), some (.int (iI bv))] 37 [] := by
        intro hj20 hjx bv hbv
        have hbvr : -1 ≤ bv ∧ bv ≤ 300 := by
          have := hA (x - (↑j + 1)) (by omega) (by omega)
          rw [hbv]
          split <;> omega
        have l59 : zG E Q 0 0 [(mi, .inr (1, [.int (iI L), .int d, .ref fw, .ref wt])), (fw, ai cI 201 A), (wt, ai cI 201 B)] [some (.ref mi), some (.int (iI x)), some (.int (iI (fwb d A x (j + 1)))), some (.int (iI (↑j + 1))), some (.int (iI bv))] 59 [] := by
          refine z_iincI (v := ↑(j + 1) + 1) (lv' := [some (.ref mi), some (.int (iI x)), some (.int (iI (fwb d A x (j + 1)))), some (.int (iI (↑(j + 1) + 1))), some (.int (iI bv))]) C dX1_fewestFor_59 rfl (by omega) rfl ?_
          refine z_goto (tgt := 4) C dX1_fewestFor_62 (by decide) ?_
          refine z_le (r := [some (.ref mi), some (.int (iI x)), some (.int (iI (fwb d A x (j + 1)))), some (.int (iI (↑(j + 1) + 1))), none]) ⟨Or.inr rfl, Or.inr rfl, Or.inr rfl, Or.inr rfl, Or.inl rfl, trivial⟩ ?_
          exact ih (j + 1) (by omega) (by omega) (by omega)
        refine z_iload C dX1_fewestFor_37 rfl ?_
        refine z_if_ltI (tgt := 59) C dX1_fewestFor_39 (by decide) ⟨by omega, by omega⟩ (fun hb1 => ?_) (fun hb1 => ?_)
        · have e1 : fwb d A x j = fwb d A x (j + 1) := by
            rw [fwb_s d A x j bv hbv]
            first | rw [if_pos (by omega)] | rw [if_neg (by omega)]
          rw [e1]
          exact l59
        · refine z_iload_n (i := 2) C dX1_fewestFor_42 rfl rfl ?_
          refine z_if_ltI (tgt := 54) C dX1_fewestFor_43 (by decide) ⟨by omega, by omega⟩ (fun hb2 => ?_) (fun hb2 => ?_)
          · refine z_iload C dX1_fewestFor_54 rfl ?_
            refine z_iconst (v := iI 1) C dX1_fewestFor_56 rfl ?_
            refine z_iaddI (v := bv + 1) C dX1_fewestFor_57 (by omega) ?_
            refine z_istore_n (i := 2) (lv' := [some (.ref mi), some (.int (iI x)), some (.int (iI (bv + 1))), some (.int (iI (↑j + 1))), some (.int (iI bv))]) C dX1_fewestFor_58 rfl rfl rfl ?_
            have e1 : bv + 1 = fwb d A x (j + 1) := by
              rw [fwb_s d A x j bv hbv]
              first | rw [if_pos (by omega)] | rw [if_neg (by omega)]
            rw [e1]
            exact l59
          · refine z_iload C dX1_fewestFor_46 rfl ?_
            refine z_iconst (v := iI 1) C dX1_fewestFor_48 rfl ?_
            refine z_iaddI (v := bv + 1) C dX1_fewestFor_49 (by omega) ?_
            refine z_iload_n (i := 2) C dX1_fewestFor_50 rfl rfl ?_
            refine z_icmp_geI (tgt := 59) C dX1_fewestFor_51 (by decide) ⟨by omega, by omega⟩ ⟨by omega, by omega⟩ (fun hb3 => ?_) (fun hb3 => ?_)
            · have e1 : fwb d A x j = fwb d A x (j + 1) := by
                rw [fwb_s d A x j bv hbv]
                first | rw [if_pos (by omega)] | rw [if_neg (by omega)]
              rw [e1]
              exact l59
            · refine z_iload C dX1_fewestFor_54 rfl ?_
              refine z_iconst (v := iI 1) C dX1_fewestFor_56 rfl ?_
              refine z_iaddI (v := bv + 1) C dX1_fewestFor_57 (by omega) ?_
              refine z_istore_n (i := 2) (lv' := [some (.ref mi), some (.int (iI x)), some (.int (iI (bv + 1))), some (.int (iI (↑j + 1))), some (.int (iI bv))]) C dX1_fewestFor_58 rfl rfl rfl ?_
              have e1 : bv + 1 = fwb d A x (j + 1) := by
                rw [fwb_s d A x j bv hbv]
                first | rw [if_pos (by omega)] | rw [if_neg (by omega)]
              rw [e1]
              exact l59
      refine z_iload_n (i := 3) C dX1_fewestFor_4 rfl rfl ?_
      refine z_bipush (v := iI 20) C dX1_fewestFor_5 (by decide) ?_
      refine z_icmp_gtI (tgt := 65) C dX1_fewestFor_7 (by decide) ⟨by omega, by omega⟩ ⟨by omega, by omega⟩ (fun hk1 => ?_) (fun hk1 => ?_)
      · refine z_iload_n (i := 2) C dX1_fewestFor_65 rfl rfl ?_
        exact z_iret C hR dX1_fewestFor_66 (Nat.le_refl _) (Nat.le_refl _) (⟨by rw [show j = min 20 x.toNat by omega], rfl⟩)
      · refine z_iload_n (i := 3) C dX1_fewestFor_10 rfl rfl ?_
        refine z_iload_n (i := 1) C dX1_fewestFor_11 rfl rfl ?_
        refine z_icmp_gtI (tgt := 65) C dX1_fewestFor_12 (by decide) ⟨by omega, by omega⟩ ⟨by omega, by omega⟩ (fun hk2 => ?_) (fun hk2 => ?_)
        · refine z_iload_n (i := 2) C dX1_fewestFor_65 rfl rfl ?_
          exact z_iret C hR dX1_fewestFor_66 (Nat.le_refl _) (Nat.le_refl _) (⟨by rw [show j = min 20 x.toNat by omega], rfl⟩)
        · refine z_aload_n (i := 0) C dX1_fewestFor_15 rfl rfl ?_
          refine z_iload_n (i := 3) C dX1_fewestFor_16 rfl rfl ?_
          refine z_callV (n := 1) (As := [.int (iI (↑j + 1))]) (st := []) (fr := []) C hE (k_isDemanded l D cI cZ cM cL mi fw wt L d A B ↑j ⟨by omega, by omega⟩) gX1_fewestFor_X1_isDemanded rfl ⟨rfl, rfl⟩ (by decide +kernel) ⟨Nat.le_of_ble_eq_true rfl, Nat.le_of_ble_eq_true rfl⟩ rfl rfl (List.Perm.refl _) 0 rfl rfl rfl (Nat.le_of_ble_eq_true rfl) ⟨Nat.le_of_ble_eq_true rfl, Nat.le_of_ble_eq_true rfl⟩ dX1_fewestFor_17 (fun r w1 hpo => ?_)
          obtain ⟨rfl, rfl⟩ := hpo
          have hbr := b2r (hb d (iI ↑j))
          refine (show zG E Q (0) (0) [(mi, .inr (1, [.int (iI L), .int d, .ref fw, .ref wt])), (fw, ai cI 201 A), (wt, ai cI 201 B)] [some (.ref mi), some (.int (iI x)), some (.int (iI (fwb d A x j))), some (.int (iI (↑j + 1))), none] 20 [.int (iI (b2 (hb d (iI ↑j))))] from ?_)
          refine z_if_eqI (tgt := 34) C dX1_fewestFor_20 (by decide) ⟨by omega, by omega⟩ (fun hv => ?_) (fun hv => ?_)
          · refine z_iconst (v := iI (-1)) C dX1_fewestFor_34 rfl ?_
            refine z_istore (lv' := [some (.ref mi), some (.int (iI x)), some (.int (iI (fwb d A x j))), some (.int (iI (↑j + 1))), some (.int (iI (-1)))]) C dX1_fewestFor_35 rfl rfl ?_
            exact l37 (by omega) (by omega) (-1) (by first | rw [if_pos (b21 hv)] | rw [if_neg (b20 hv)])
          · refine z_aload_n (i := 0) C dX1_fewestFor_23 rfl rfl ?_
            refine z_get (ci := 1) C (hi_X1_fewestFor_X1) 0 rfl rfl 2 (by decide) (by decide +kernel) rfl dX1_fewestFor_24 ?_
            refine z_iload_n (i := 1) C dX1_fewestFor_27 rfl rfl ?_
            refine z_iload_n (i := 3) C dX1_fewestFor_28 rfl rfl ?_
            refine z_isubI (v := x - (↑j + 1)) C dX1_fewestFor_29 (by omega) ?_
            refine z_ialoadI 1 (he := rfl) C (zT_of hE (t0 := 0) rfl) (by omega) (by omega) (by decide) dX1_fewestFor_30 ?_
            refine z_goto (tgt := 35) C dX1_fewestFor_31 (by decide) ?_
            refine z_istore (lv' := [some (.ref mi), some (.int (iI x)), some (.int (iI (fwb d A x j))), some (.int (iI (↑j + 1))), some (.int (iI (A (x - (↑j + 1)))))]) C dX1_fewestFor_35 rfl rfl ?_
            exact l37 (by omega) (by omega) (A (x - (↑j + 1))) (by first | rw [if_pos (b21 hv)] | rw [if_neg (b20 hv)])
  refine z_iconst (v := iI (-1)) C dX1_fewestFor_0 rfl ?_
  refine z_istore_n (i := 2) (lv' := [some (.ref mi), some (.int (iI x)), some (.int (iI (-1))), none, none]) C dX1_fewestFor_1 rfl rfl rfl ?_
  refine z_iconst (v := iI 1) C dX1_fewestFor_2 rfl ?_
  refine z_istore_n (i := 3) (lv' := [some (.ref mi), some (.int (iI x)), some (.int (iI (-1))), some (.int (iI 1)), none]) C dX1_fewestFor_3 rfl rfl rfl ?_
  refine (show zG E Q 0 0 [(mi, .inr (1, [.int (iI L), .int d, .ref fw, .ref wt])), (fw, ai cI 201 A), (wt, ai cI 201 B)] [some (.ref mi), some (.int (iI x)), some (.int (iI (fwb d A x 0))), some (.int (iI (↑(0 : Nat) + 1))), none] 4 [] from ?_)
  exact lp 21 0 (by omega) (by omega) (by omega)
theorem hi_X1_fillFewest_X1 : ∀ w ∈ wsX10, w ∈ wsX1_fillFewest := by decide +kernel
set_option maxHeartbeats 1000000 in
set_option maxRecDepth 100000 in
theorem k_fillFewest (l : Launch) (D : va_G) (cI cZ cM cL : ClassId) (mi fw wt : Nat) (L : Int) (d : Int32) (A B : Int → Int) (hL : 0 ≤ L ∧ L ≤ 200) : zN l yX1_fillFewest wsX1_fillFewest { frames := 3, cells := 0, slots := 0, locals := 66 } D (zTy cI cZ cM cL) [.ref mi] (miW cI mi fw wt L d A B) (fun r w => r = none ∧ ∃ A1 : Int → Int, w = (miW cI mi fw wt L d A1 B) ∧ ∀ y, 0 ≤ y → y ≤ L → A1 y = fwt d L.toNat y) 0 0 := by
  refine zN_of (cc := cX1_fillFewest) (maxL := 2) (lv0 := [some (.ref mi), none]) (by decide) rfl rfl (Nat.le_of_ble_eq_true rfl) rfl ?_
  intro E Q C hE hR hI0
  refine (show zG E Q 0 0 [(mi, .inr (1, [.int (iI L), .int d, .ref fw, .ref wt])), (fw, ai cI 201 A), (wt, ai cI 201 B)] [some (.ref mi), none] 0 [] from ?_)
  have lp : ∀ (n : Nat) (j : Nat) (A1 : Int → Int), (j : Int) ≤ L → L.toNat - j < n → (∀ y, 0 ≤ y → y ≤ (j : Int) → A1 y = fwt d j y) → zG E Q (0) (0) [(mi, .inr (1, [.int (iI L), .int d, .ref fw, .ref wt])), (fw, ai cI 201 A1), (wt, ai cI 201 B)] [some (.ref mi), some (.int (iI (↑j + 1)))] 9 [] := by
    intro n
    induction n with
    | zero => intro j A1 hj hjn hA1; omega
    | succ n ih =>
      intro j A1 hj hjn hA1
      refine z_iload_n (i := 1) C dX1_fillFewest_9 rfl rfl ?_
      refine z_aload_n (i := 0) C dX1_fillFewest_10 rfl rfl ?_
      refine z_get (ci := 1) C (hi_X1_fillFewest_X1) 0 rfl rfl 0 (by decide) (by decide +kernel) rfl dX1_fillFewest_11 ?_
      refine z_icmp_gtI (tgt := 34) C dX1_fillFewest_14 (by decide) ⟨by omega, by omega⟩ ⟨by omega, by omega⟩ (fun hk => ?_) (fun hk => ?_)
      · exact z_vret C hR dX1_fillFewest_34 (Nat.le_refl _) (Nat.le_refl _) (⟨rfl, A1, rfl, fun y a b => by rw [show L.toNat = j by omega]; exact hA1 y a (by omega)⟩)
      · refine z_aload_n (i := 0) C dX1_fillFewest_17 rfl rfl ?_
        refine z_get (ci := 1) C (hi_X1_fillFewest_X1) 0 rfl rfl 2 (by decide) (by decide +kernel) rfl dX1_fillFewest_18 ?_
        refine z_iload_n (i := 1) C dX1_fillFewest_21 rfl rfl ?_
        refine z_aload_n (i := 0) C dX1_fillFewest_22 rfl rfl ?_
        refine z_iload_n (i := 1) C dX1_fillFewest_23 rfl rfl ?_
        refine z_callV (n := 1) (As := [.int (iI (↑j + 1))]) (st := [.int (iI (↑j + 1)), .ref fw]) (fr := []) C hE (k_fewestFor l D cI cZ cM cL mi fw wt L d A1 B (↑j + 1) ⟨by omega, by omega⟩ (fun y a b => by rw [hA1 y a (by omega)]; have := fwt_r (d := d) j y a (by omega); omega)) gX1_fillFewest_X1_fewestFor rfl ⟨rfl, rfl⟩ (by decide +kernel) ⟨Nat.le_of_ble_eq_true rfl, Nat.le_of_ble_eq_true rfl⟩ rfl rfl (List.Perm.refl _) 0 rfl rfl rfl (Nat.le_of_ble_eq_true rfl) ⟨Nat.le_of_ble_eq_true rfl, Nat.le_of_ble_eq_true rfl⟩ dX1_fillFewest_24 (fun r w1 hpo => ?_)
        obtain ⟨rfl, rfl⟩ := hpo
        refine (show zG E Q (0) (0) [(mi, .inr (1, [.int (iI L), .int d, .ref fw, .ref wt])), (fw, ai cI 201 A1), (wt, ai cI 201 B)] [some (.ref mi), some (.int (iI (↑j + 1)))] 27 [.int (iI (fwb d A1 (↑j + 1) (min 20 (↑j + 1 : Int).toNat))), .int (iI (↑j + 1)), .ref fw] from ?_)
        refine z_iastoreI 1 (he := rfl) (ws' := [(mi, .inr (1, [.int (iI L), .int d, .ref fw, .ref wt])), (fw, ai cI 201 (zup A1 (↑j + 1) (fwb d A1 (↑j + 1) (min 20 (↑j + 1 : Int).toNat)))), (wt, ai cI 201 B)]) C (zT_of hE (t0 := 0) rfl) (by omega) (by omega) (by decide) rfl dX1_fillFewest_27 ?_
        refine z_iincI (v := ↑(j + 1) + 1) (lv' := [some (.ref mi), some (.int (iI (↑(j + 1) + 1)))]) C dX1_fillFewest_28 rfl (by omega) rfl ?_
        refine z_goto (tgt := 9) C dX1_fillFewest_31 (by decide) ?_
        refine ih (j + 1) _ (by omega) (by omega) (fun y a b => ?_)
        unfold fwt zup
        by_cases hy : y = ↑j + 1
        · rw [if_pos hy, if_pos hy, show (↑j + 1 : Int).toNat = j + 1 by omega]
          exact fwb_c (fun q c e => hA1 q c (by omega)) _ (by omega)
        · rw [if_neg hy, if_neg hy]
          exact hA1 y a (by omega)
  refine z_aload_n (i := 0) C dX1_fillFewest_0 rfl rfl ?_
  refine z_get (ci := 1) C (hi_X1_fillFewest_X1) 0 rfl rfl 2 (by decide) (by decide +kernel) rfl dX1_fillFewest_1 ?_
  refine z_iconst (v := iI 0) C dX1_fillFewest_4 rfl ?_
  refine z_iconst (v := iI 0) C dX1_fillFewest_5 rfl ?_
  refine z_iastoreI 1 (he := rfl) (ws' := [(mi, .inr (1, [.int (iI L), .int d, .ref fw, .ref wt])), (fw, ai cI 201 (zup A 0 0)), (wt, ai cI 201 B)]) C (zT_of hE (t0 := 0) rfl) (by omega) (by omega) (by decide) rfl dX1_fillFewest_6 ?_
  refine z_iconst (v := iI 1) C dX1_fillFewest_7 rfl ?_
  refine z_istore_n (i := 1) (lv' := [some (.ref mi), some (.int (iI 1))]) C dX1_fillFewest_8 rfl rfl rfl ?_
  refine (show zG E Q 0 0 [(mi, .inr (1, [.int (iI L), .int d, .ref fw, .ref wt])), (fw, ai cI 201 (zup A 0 0)), (wt, ai cI 201 B)] [some (.ref mi), some (.int (iI (↑(0 : Nat) + 1)))] 9 [] from ?_)
  exact lp (L.toNat + 1) 0 _ (by omega) (by omega) (fun y a b => by rw [show y = 0 by omega]; rfl)
theorem hi_X1_fewestForRoll_X1 : ∀ w ∈ wsX10, w ∈ wsX1_fewestForRoll := by decide +kernel
set_option maxHeartbeats 1000000 in
set_option maxRecDepth 100000 in
theorem k_fewestForRoll (l : Launch) (D : va_G) (cI cZ cM cL : ClassId) (mi fw wt : Nat) (L : Int) (d : Int32) (A B : Int → Int) (hL : 0 ≤ L ∧ L ≤ 200) : zN l yX1_fewestForRoll wsX1_fewestForRoll { frames := 4, cells := 0, slots := 0, locals := 87 } D (zTy cI cZ cM cL) [.ref mi] (miW cI mi fw wt L d A B) (fun r w => r = some (.int (iI (fwt d L.toNat L))) ∧ ∃ A1 : Int → Int, w = (miW cI mi fw wt L d A1 B)) 0 0 := by
  refine zN_of (cc := cX1_fewestForRoll) (maxL := 1) (lv0 := [some (.ref mi)]) (by decide) rfl rfl (Nat.le_of_ble_eq_true rfl) rfl ?_
  intro E Q C hE hR hI0
  refine (show zG E Q 0 0 [(mi, .inr (1, [.int (iI L), .int d, .ref fw, .ref wt])), (fw, ai cI 201 A), (wt, ai cI 201 B)] [some (.ref mi)] 0 [] from ?_)
  refine z_aload_n (i := 0) C dX1_fewestForRoll_0 rfl rfl ?_
  refine z_callV (n := 0) (As := []) (st := []) (fr := []) C hE (k_fillFewest l D cI cZ cM cL mi fw wt L d A B hL) gX1_fewestForRoll_X1_fillFewest rfl ⟨rfl, rfl⟩ (by decide +kernel) ⟨Nat.le_of_ble_eq_true rfl, Nat.le_of_ble_eq_true rfl⟩ rfl rfl (List.Perm.refl _) 0 rfl rfl rfl (Nat.le_of_ble_eq_true rfl) ⟨Nat.le_of_ble_eq_true rfl, Nat.le_of_ble_eq_true rfl⟩ dX1_fewestForRoll_1 (fun r w1 hpo => ?_)
  obtain ⟨rfl, A1, rfl, hA1⟩ := hpo
  refine (show zG E Q (0) (0) [(mi, .inr (1, [.int (iI L), .int d, .ref fw, .ref wt])), (fw, ai cI 201 A1), (wt, ai cI 201 B)] [some (.ref mi)] 4 [] from ?_)
  refine z_aload_n (i := 0) C dX1_fewestForRoll_4 rfl rfl ?_
  refine z_get (ci := 1) C (hi_X1_fewestForRoll_X1) 0 rfl rfl 2 (by decide) (by decide +kernel) rfl dX1_fewestForRoll_5 ?_
  refine z_aload_n (i := 0) C dX1_fewestForRoll_8 rfl rfl ?_
  refine z_get (ci := 1) C (hi_X1_fewestForRoll_X1) 0 rfl rfl 0 (by decide) (by decide +kernel) rfl dX1_fewestForRoll_9 ?_
  refine z_ialoadI 1 (he := rfl) C (zT_of hE (t0 := 0) rfl) (by omega) (by omega) (by decide) dX1_fewestForRoll_12 ?_
  exact z_iret C hR dX1_fewestForRoll_13 (Nat.le_refl _) (Nat.le_refl _) (⟨by rw [hA1 L hL.1 (Int.le_refl _)], A1, rfl⟩)
theorem hi_X1_restOfRoll_X1 : ∀ w ∈ wsX10, w ∈ wsX1_restOfRoll := by decide +kernel
set_option maxHeartbeats 1000000 in
set_option maxRecDepth 100000 in
theorem k_restOfRoll (l : Launch) (D : va_G) (cI cZ cM cL : ClassId) (mi fw wt : Nat) (L : Int) (d : Int32) (A B : Int → Int) (hL : 0 ≤ L ∧ L ≤ 200) : zN l yX1_restOfRoll wsX1_restOfRoll { frames := 4, cells := 0, slots := 0, locals := 87 } D (zTy cI cZ cM cL) [.ref mi] (miW cI mi fw wt L d A B) (fun r w => r = some (.int (iI (L - crs (fwt d L.toNat) L.toNat))) ∧ ∃ A1 : Int → Int, w = (miW cI mi fw wt L d A1 B)) 0 0 := by
  refine zN_of (cc := cX1_restOfRoll) (maxL := 2) (lv0 := [some (.ref mi), none]) (by decide) rfl rfl (Nat.le_of_ble_eq_true rfl) rfl ?_
  intro E Q C hE hR hI0
  refine (show zG E Q 0 0 [(mi, .inr (1, [.int (iI L), .int d, .ref fw, .ref wt])), (fw, ai cI 201 A), (wt, ai cI 201 B)] [some (.ref mi), none] 0 [] from ?_)
  refine z_aload_n (i := 0) C dX1_restOfRoll_0 rfl rfl ?_
  refine z_callV (n := 0) (As := []) (st := []) (fr := []) C hE (k_fillFewest l D cI cZ cM cL mi fw wt L d A B hL) gX1_restOfRoll_X1_fillFewest rfl ⟨rfl, rfl⟩ (by decide +kernel) ⟨Nat.le_of_ble_eq_true rfl, Nat.le_of_ble_eq_true rfl⟩ rfl rfl (List.Perm.refl _) 0 rfl rfl rfl (Nat.le_of_ble_eq_true rfl) ⟨Nat.le_of_ble_eq_true rfl, Nat.le_of_ble_eq_true rfl⟩ dX1_restOfRoll_1 (fun r w1 hpo => ?_)
  obtain ⟨rfl, A1, rfl, hA1⟩ := hpo
  have lp : ∀ j : Nat, (j : Int) ≤ L → crs (fwt d L.toNat) j = crs (fwt d L.toNat) L.toNat → zG E Q 0 0 [(mi, .inr (1, [.int (iI L), .int d, .ref fw, .ref wt])), (fw, ai cI 201 A1), (wt, ai cI 201 B)] [some (.ref mi), some (.int (iI ↑j))] 9 [] := by
    intro j
    induction j with
    | zero =>
      intro hj hc
      refine z_iload_n (i := 1) C dX1_restOfRoll_9 rfl rfl ?_
      refine z_if_leI (tgt := 28) C dX1_restOfRoll_10 (by decide) ⟨by omega, by omega⟩ (fun _ => ?_) (fun h => by exfalso; omega)
      refine z_aload_n (i := 0) C dX1_restOfRoll_28 rfl rfl ?_
      refine z_get (ci := 1) C (hi_X1_restOfRoll_X1) 0 rfl rfl 0 (by decide) (by decide +kernel) rfl dX1_restOfRoll_29 ?_
      refine z_iload_n (i := 1) C dX1_restOfRoll_32 rfl rfl ?_
      refine z_isubI (v := L - (↑(0 : Nat))) C dX1_restOfRoll_33 (by omega) ?_
      exact z_iret C hR dX1_restOfRoll_34 (Nat.le_refl _) (Nat.le_refl _) (⟨by rw [← hc, show crs (fwt d L.toNat) 0 = ((0 : Nat) : Int) from rfl], A1, rfl⟩)
    | succ j ih =>
      intro hj hc
      have hT : A1 ((j + 1 : Nat) : Int) = fwt d L.toNat (↑j + 1) := by
        rw [show ((j + 1 : Nat) : Int) = ↑j + 1 by omega]
        exact hA1 (↑j + 1) (by omega) (by omega)
      have hTr := fwt_r (d := d) L.toNat (↑j + 1) (by omega) (by omega)
      refine z_iload_n (i := 1) C dX1_restOfRoll_9 rfl rfl ?_
      refine z_if_leI (tgt := 28) C dX1_restOfRoll_10 (by decide) ⟨by omega, by omega⟩ (fun h => by exfalso; omega) (fun _ => ?_)
      refine z_aload_n (i := 0) C dX1_restOfRoll_13 rfl rfl ?_
      refine z_get (ci := 1) C (hi_X1_restOfRoll_X1) 0 rfl rfl 2 (by decide) (by decide +kernel) rfl dX1_restOfRoll_14 ?_
      refine z_iload_n (i := 1) C dX1_restOfRoll_17 rfl rfl ?_
      refine z_ialoadI 1 (he := rfl) C (zT_of hE (t0 := 0) rfl) (by omega) (by omega) (by decide) dX1_restOfRoll_18 ?_
      refine z_if_geI (tgt := 28) C dX1_restOfRoll_19 (by decide) ⟨by omega, by omega⟩ (fun hk => ?_) (fun hk => ?_)
      · refine z_aload_n (i := 0) C dX1_restOfRoll_28 rfl rfl ?_
        refine z_get (ci := 1) C (hi_X1_restOfRoll_X1) 0 rfl rfl 0 (by decide) (by decide +kernel) rfl dX1_restOfRoll_29 ?_
        refine z_iload_n (i := 1) C dX1_restOfRoll_32 rfl rfl ?_
        refine z_isubI (v := L - (↑(j + 1))) C dX1_restOfRoll_33 (by omega) ?_
        exact z_iret C hR dX1_restOfRoll_34 (Nat.le_refl _) (Nat.le_refl _) (⟨by rw [← hc, show crs (fwt d L.toNat) (j + 1) = ((j + 1 : Nat) : Int) from ?_]; rw [show crs (fwt d L.toNat) (j + 1) = if fwt d L.toNat (↑j + 1) < 0 then crs (fwt d L.toNat) j else ↑j + 1 from rfl, if_neg (by omega)]; omega, A1, rfl⟩)
      · refine z_iincI (v := ↑j) (lv' := [some (.ref mi), some (.int (iI (↑j)))]) C dX1_restOfRoll_22 rfl (by omega) rfl ?_
        refine z_goto (tgt := 9) C dX1_restOfRoll_25 (by decide) ?_
        refine ih (by omega) (by rw [← hc]; symm; rw [show crs (fwt d L.toNat) (j + 1) = if fwt d L.toNat (↑j + 1) < 0 then crs (fwt d L.toNat) j else ↑j + 1 from rfl, if_pos (by omega)])
  refine (show zG E Q (0) (0) [(mi, .inr (1, [.int (iI L), .int d, .ref fw, .ref wt])), (fw, ai cI 201 A1), (wt, ai cI 201 B)] [some (.ref mi), none] 4 [] from ?_)
  refine z_aload_n (i := 0) C dX1_restOfRoll_4 rfl rfl ?_
  refine z_get (ci := 1) C (hi_X1_restOfRoll_X1) 0 rfl rfl 0 (by decide) (by decide +kernel) rfl dX1_restOfRoll_5 ?_
  refine z_istore_n (i := 1) (lv' := [some (.ref mi), some (.int (iI L))]) C dX1_restOfRoll_8 rfl rfl rfl ?_
  have h9 := lp L.toNat (by omega) rfl
  rw [show ((L.toNat : Nat) : Int) = L by omega] at h9
  exact h9
theorem hi_X1_addWaysWith_X1 : ∀ w ∈ wsX10, w ∈ wsX1_addWaysWith := by decide +kernel
set_option maxHeartbeats 1000000 in
set_option maxRecDepth 100000 in
theorem k_addWays (l : Launch) (D : va_G) (cI cZ cM cL : ClassId) (mi fw wt : Nat) (L : Int) (d : Int32) (A B : Int → Int) (p : Int) (hp : 1 ≤ p ∧ p ≤ 20) (hL : 0 ≤ L ∧ L ≤ 200) (hB : ∀ y, 0 ≤ y → y ≤ L → 0 ≤ B y ∧ B y < 1000007) : zN l yX1_addWaysWith wsX1_addWaysWith { frames := 0, cells := 0, slots := 0, locals := 0 } D (zTy cI cZ cM cL) [.ref mi, .int (iI p)] (miW cI mi fw wt L d A B) (fun r w => r = none ∧ w = (miW cI mi fw wt L d A (wyi p B (L + 1).toNat))) 0 0 := by
  refine zN_of (cc := cX1_addWaysWith) (maxL := 3) (lv0 := [some (.ref mi), some (.int (iI p)), none]) (by decide) rfl rfl (Nat.le_of_ble_eq_true rfl) rfl ?_
  intro E Q C hE hR hI0
  refine (show zG E Q 0 0 [(mi, .inr (1, [.int (iI L), .int d, .ref fw, .ref wt])), (fw, ai cI 201 A), (wt, ai cI 201 B)] [some (.ref mi), some (.int (iI p)), none] 0 [] from ?_)
  have lp : ∀ (n : Nat) (k : Nat), p ≤ (k : Int) → ((k : Int) ≤ L + 1 ∨ (k : Int) = p) → (L + 2).toNat - k < n → zG E Q (0) (0) [(mi, .inr (1, [.int (iI L), .int d, .ref fw, .ref wt])), (fw, ai cI 201 A), (wt, ai cI 201 (wyi p B k))] [some (.ref mi), some (.int (iI p)), some (.int (iI ↑k))] 2 [] := by
    intro n
    induction n with
    | zero => intro k hk1 hk2 hkn; omega
    | succ n ih =>
      intro k hk1 hk2 hkn
      refine z_iload_n (i := 2) C dX1_addWaysWith_2 rfl rfl ?_
      refine z_aload_n (i := 0) C dX1_addWaysWith_3 rfl rfl ?_
      refine z_get (ci := 1) C (hi_X1_addWaysWith_X1) 0 rfl rfl 0 (by decide) (by decide +kernel) rfl dX1_addWaysWith_4 ?_
      refine z_icmp_gtI (tgt := 40) C dX1_addWaysWith_7 (by decide) ⟨by omega, by omega⟩ ⟨by omega, by omega⟩ (fun hk => ?_) (fun hk => ?_)
      · have hfin : wyi p B k = wyi p B (L + 1).toNat := by
          by_cases hkl : (k : Int) = L + 1
          · rw [show (L + 1).toNat = k by omega]
          · rw [wyi_lo k (by omega), wyi_lo (L + 1).toNat (by omega)]
        exact z_vret C hR dX1_addWaysWith_40 (Nat.le_refl _) (Nat.le_refl _) (⟨rfl, by rw [hfin]⟩)
      · have q1 := wyi_q (m := L + 1) hp.1 (fun y a b => hB y a (by omega)) k ↑k (by omega) (by omega)
        have q2 := wyi_q (m := L + 1) hp.1 (fun y a b => hB y a (by omega)) k (↑k - p) (by omega) (by omega)
        refine z_aload_n (i := 0) C dX1_addWaysWith_10 rfl rfl ?_
        refine z_get (ci := 1) C (hi_X1_addWaysWith_X1) 0 rfl rfl 3 (by decide) (by decide +kernel) rfl dX1_addWaysWith_11 ?_
        refine z_iload_n (i := 2) C dX1_addWaysWith_14 rfl rfl ?_
        refine z_aload_n (i := 0) C dX1_addWaysWith_15 rfl rfl ?_
        refine z_get (ci := 1) C (hi_X1_addWaysWith_X1) 0 rfl rfl 3 (by decide) (by decide +kernel) rfl dX1_addWaysWith_16 ?_
        refine z_iload_n (i := 2) C dX1_addWaysWith_19 rfl rfl ?_
        refine z_ialoadI 2 (he := rfl) C (zT_of hE (t0 := 0) rfl) (by omega) (by omega) (by decide) dX1_addWaysWith_20 ?_
        refine z_aload_n (i := 0) C dX1_addWaysWith_21 rfl rfl ?_
        refine z_get (ci := 1) C (hi_X1_addWaysWith_X1) 0 rfl rfl 3 (by decide) (by decide +kernel) rfl dX1_addWaysWith_22 ?_
        refine z_iload_n (i := 2) C dX1_addWaysWith_25 rfl rfl ?_
        refine z_iload_n (i := 1) C dX1_addWaysWith_26 rfl rfl ?_
        refine z_isubI (v := (↑k) - p) C dX1_addWaysWith_27 (by omega) ?_
        refine z_ialoadI 2 (he := rfl) C (zT_of hE (t0 := 0) rfl) (by omega) (by omega) (by decide) dX1_addWaysWith_28 ?_
        refine z_iaddI (v := ((wyi p B k) (↑k)) + ((wyi p B k) ((↑k) - p))) C dX1_addWaysWith_29 (by omega) ?_
        refine z_ldc (v := iI 1000007) C dX1_addWaysWith_30 (by decide +kernel) ?_
        refine z_iremI C dX1_addWaysWith_32 (by omega) (by omega) (by omega) (by omega) ?_
        refine z_iastoreI 2 (he := rfl) (ws' := [(mi, .inr (1, [.int (iI L), .int d, .ref fw, .ref wt])), (fw, ai cI 201 A), (wt, ai cI 201 (zup (wyi p B k) (↑k) ((((wyi p B k) (↑k)) + ((wyi p B k) ((↑k) - p))) % 1000007)))]) C (zT_of hE (t0 := 0) rfl) (by omega) (by omega) (by decide) rfl dX1_addWaysWith_33 ?_
        refine z_iincI (v := ↑(k + 1)) (lv' := [some (.ref mi), some (.int (iI p)), some (.int (iI (↑(k + 1))))]) C dX1_addWaysWith_34 rfl (by omega) rfl ?_
        refine z_goto (tgt := 2) C dX1_addWaysWith_37 (by decide) ?_
        have e1 : zup (wyi p B k) ↑k ((wyi p B k ↑k + wyi p B k (↑k - p)) % 1000007) = wyi p B (k + 1) := (wyi_s k (by omega)).symm
        rw [e1]
        exact ih (k + 1) (by omega) (by omega) (by omega)
  refine z_iload_n (i := 1) C dX1_addWaysWith_0 rfl rfl ?_
  refine z_istore_n (i := 2) (lv' := [some (.ref mi), some (.int (iI p)), some (.int (iI p))]) C dX1_addWaysWith_1 rfl rfl rfl ?_
  have h9 := lp ((L + 2).toNat + 1) p.toNat (by omega) (by omega) (by omega)
  rw [wyi_lo p.toNat (by omega), show ((p.toNat : Nat) : Int) = p by omega] at h9
  exact h9
theorem hi_X1_waysForRoll_X1 : ∀ w ∈ wsX10, w ∈ wsX1_waysForRoll := by decide +kernel
set_option maxHeartbeats 1000000 in
set_option maxRecDepth 100000 in
theorem k_waysForRoll (l : Launch) (D : va_G) (cI cZ cM cL : ClassId) (mi fw wt : Nat) (L : Int) (d : Int32) (A B : Int → Int) (hL : 0 ≤ L ∧ L ≤ 200) : zN l yX1_waysForRoll wsX1_waysForRoll { frames := 2, cells := 0, slots := 0, locals := 42 } D (zTy cI cZ cM cL) [.ref mi] (miW cI mi fw wt L d A B) (fun r w => r = some (.int (iI (wyt d (L + 1).toNat 20 L))) ∧ ∃ B1 : Int → Int, w = (miW cI mi fw wt L d A B1)) 0 0 := by
  refine zN_of (cc := cX1_waysForRoll) (maxL := 2) (lv0 := [some (.ref mi), none]) (by decide) rfl rfl (Nat.le_of_ble_eq_true rfl) rfl ?_
  intro E Q C hE hR hI0
  refine (show zG E Q 0 0 [(mi, .inr (1, [.int (iI L), .int d, .ref fw, .ref wt])), (fw, ai cI 201 A), (wt, ai cI 201 B)] [some (.ref mi), none] 0 [] from ?_)
  have lq : ∀ (n : Nat) (j : Nat) (B1 : Int → Int), j ≤ 20 → 20 - j < n → (∀ y, 0 ≤ y → y ≤ L → B1 y = wyt d (L + 1).toNat j y) → zG E Q (0) (0) [(mi, .inr (1, [.int (iI L), .int d, .ref fw, .ref wt])), (fw, ai cI 201 A), (wt, ai cI 201 B1)] [some (.ref mi), some (.int (iI (↑j + 1)))] 32 [] := by
    intro n
    induction n with
    | zero => intro j B1 hj1 hjn hB1; omega
    | succ n ih =>
      intro j B1 hj1 hjn hB1
      refine z_iload_n (i := 1) C dX1_waysForRoll_32 rfl rfl ?_
      refine z_bipush (v := iI 20) C dX1_waysForRoll_33 (by decide) ?_
      refine z_icmp_gtI (tgt := 57) C dX1_waysForRoll_35 (by decide) ⟨by omega, by omega⟩ ⟨by omega, by omega⟩ (fun hk => ?_) (fun hk => ?_)
      · refine z_aload_n (i := 0) C dX1_waysForRoll_57 rfl rfl ?_
        refine z_get (ci := 1) C (hi_X1_waysForRoll_X1) 0 rfl rfl 3 (by decide) (by decide +kernel) rfl dX1_waysForRoll_58 ?_
        refine z_aload_n (i := 0) C dX1_waysForRoll_61 rfl rfl ?_
        refine z_get (ci := 1) C (hi_X1_waysForRoll_X1) 0 rfl rfl 0 (by decide) (by decide +kernel) rfl dX1_waysForRoll_62 ?_
        refine z_ialoadI 2 (he := rfl) C (zT_of hE (t0 := 0) rfl) (by omega) (by omega) (by decide) dX1_waysForRoll_65 ?_
        exact z_iret C hR dX1_waysForRoll_66 (Nat.le_refl _) (Nat.le_refl _) (⟨by rw [hB1 L hL.1 (Int.le_refl _), show j = 20 by omega], B1, rfl⟩)
      · refine z_aload_n (i := 0) C dX1_waysForRoll_38 rfl rfl ?_
        refine z_iload_n (i := 1) C dX1_waysForRoll_39 rfl rfl ?_
        refine z_callV (n := 1) (As := [.int (iI (↑j + 1))]) (st := []) (fr := []) C hE (k_isDemanded l D cI cZ cM cL mi fw wt L d A B1 ↑j ⟨by omega, by omega⟩) gX1_waysForRoll_X1_isDemanded rfl ⟨rfl, rfl⟩ (by decide +kernel) ⟨Nat.le_of_ble_eq_true rfl, Nat.le_of_ble_eq_true rfl⟩ rfl rfl (List.Perm.refl _) 0 rfl rfl rfl (Nat.le_of_ble_eq_true rfl) ⟨Nat.le_of_ble_eq_true rfl, Nat.le_of_ble_eq_true rfl⟩ dX1_waysForRoll_40 (fun r w1 hpo => ?_)
        obtain ⟨rfl, rfl⟩ := hpo
        have hbr := b2r (hb d (iI ↑j))
        refine (show zG E Q (0) (0) [(mi, .inr (1, [.int (iI L), .int d, .ref fw, .ref wt])), (fw, ai cI 201 A), (wt, ai cI 201 B1)] [some (.ref mi), some (.int (iI (↑j + 1)))] 43 [.int (iI (b2 (hb d (iI ↑j))))] from ?_)
        refine z_if_eqI (tgt := 51) C dX1_waysForRoll_43 (by decide) ⟨by omega, by omega⟩ (fun hv => ?_) (fun hv => ?_)
        · refine z_iincI (v := ↑(j + 1) + 1) (lv' := [some (.ref mi), some (.int (iI (↑(j + 1) + 1)))]) C dX1_waysForRoll_51 rfl (by omega) rfl ?_
          refine z_goto (tgt := 32) C dX1_waysForRoll_54 (by decide) ?_
          refine ih (j + 1) _ (by omega) (by omega) (fun y a b => ?_)
          rw [show wyt d (L + 1).toNat (j + 1) = if hb d (iI ↑j) then wyi (↑j + 1) (wyt d (L + 1).toNat j) (L + 1).toNat else wyt d (L + 1).toNat j from rfl]
          first
            | rw [if_neg (b20 hv)]; exact hB1 y a b
            | rw [if_pos (b21 hv)]; exact wyi_c (m := L + 1) (by omega) (fun q c e => hB1 q c (by omega)) _ (by omega) y a (by omega)
        · refine z_aload_n (i := 0) C dX1_waysForRoll_46 rfl rfl ?_
          refine z_iload_n (i := 1) C dX1_waysForRoll_47 rfl rfl ?_
          refine z_callV (n := 1) (As := [.int (iI (↑j + 1))]) (st := []) (fr := []) C hE (k_addWays l D cI cZ cM cL mi fw wt L d A B1 (↑j + 1) ⟨by omega, by omega⟩ hL (fun y a b => by rw [hB1 y a b]; exact wyt_r j y)) gX1_waysForRoll_X1_addWaysWith rfl ⟨rfl, rfl⟩ (by decide +kernel) ⟨Nat.le_of_ble_eq_true rfl, Nat.le_of_ble_eq_true rfl⟩ rfl rfl (List.Perm.refl _) 0 rfl rfl rfl (Nat.le_of_ble_eq_true rfl) ⟨Nat.le_of_ble_eq_true rfl, Nat.le_of_ble_eq_true rfl⟩ dX1_waysForRoll_48 (fun r w1 hpo => ?_)
          obtain ⟨rfl, rfl⟩ := hpo
          refine (show zG E Q (0) (0) [(mi, .inr (1, [.int (iI L), .int d, .ref fw, .ref wt])), (fw, ai cI 201 A), (wt, ai cI 201 (wyi (↑j + 1) B1 (L + 1).toNat))] [some (.ref mi), some (.int (iI (↑j + 1)))] 51 [] from ?_)
          refine z_iincI (v := ↑(j + 1) + 1) (lv' := [some (.ref mi), some (.int (iI (↑(j + 1) + 1)))]) C dX1_waysForRoll_51 rfl (by omega) rfl ?_
          refine z_goto (tgt := 32) C dX1_waysForRoll_54 (by decide) ?_
          refine ih (j + 1) _ (by omega) (by omega) (fun y a b => ?_)
          rw [show wyt d (L + 1).toNat (j + 1) = if hb d (iI ↑j) then wyi (↑j + 1) (wyt d (L + 1).toNat j) (L + 1).toNat else wyt d (L + 1).toNat j from rfl]
          first
            | rw [if_neg (b20 hv)]; exact hB1 y a b
            | rw [if_pos (b21 hv)]; exact wyi_c (m := L + 1) (by omega) (fun q c e => hB1 q c (by omega)) _ (by omega) y a (by omega)
  have lp : ∀ (n : Nat) (k : Nat) (B1 : Int → Int), (k : Int) ≤ L → L.toNat - k < n → (∀ y, 0 ≤ y → y ≤ (k : Int) → B1 y = if y = 0 then 1 else 0) → zG E Q (0) (0) [(mi, .inr (1, [.int (iI L), .int d, .ref fw, .ref wt])), (fw, ai cI 201 A), (wt, ai cI 201 B1)] [some (.ref mi), some (.int (iI (↑k + 1)))] 9 [] := by
    intro n
    induction n with
    | zero => intro k B1 hk1 hkn hB1; omega
    | succ n ih =>
      intro k B1 hk1 hkn hB1
      refine z_iload_n (i := 1) C dX1_waysForRoll_9 rfl rfl ?_
      refine z_aload_n (i := 0) C dX1_waysForRoll_10 rfl rfl ?_
      refine z_get (ci := 1) C (hi_X1_waysForRoll_X1) 0 rfl rfl 0 (by decide) (by decide +kernel) rfl dX1_waysForRoll_11 ?_
      refine z_icmp_gtI (tgt := 30) C dX1_waysForRoll_14 (by decide) ⟨by omega, by omega⟩ ⟨by omega, by omega⟩ (fun hk => ?_) (fun hk => ?_)
      · refine z_iconst (v := iI 1) C dX1_waysForRoll_30 rfl ?_
        refine z_istore_n (i := 1) (lv' := [some (.ref mi), some (.int (iI 1))]) C dX1_waysForRoll_31 rfl rfl rfl ?_
        refine (show zG E Q 0 0 [(mi, .inr (1, [.int (iI L), .int d, .ref fw, .ref wt])), (fw, ai cI 201 A), (wt, ai cI 201 B1)] [some (.ref mi), some (.int (iI (↑(0 : Nat) + 1)))] 32 [] from ?_)
        exact lq 21 0 B1 (by omega) (by omega) (fun y a b => hB1 y a (by omega))
      · refine z_aload_n (i := 0) C dX1_waysForRoll_17 rfl rfl ?_
        refine z_get (ci := 1) C (hi_X1_waysForRoll_X1) 0 rfl rfl 3 (by decide) (by decide +kernel) rfl dX1_waysForRoll_18 ?_
        refine z_iload_n (i := 1) C dX1_waysForRoll_21 rfl rfl ?_
        refine z_iconst (v := iI 0) C dX1_waysForRoll_22 rfl ?_
        refine z_iastoreI 2 (he := rfl) (ws' := [(mi, .inr (1, [.int (iI L), .int d, .ref fw, .ref wt])), (fw, ai cI 201 A), (wt, ai cI 201 (zup B1 (↑k + 1) 0))]) C (zT_of hE (t0 := 0) rfl) (by omega) (by omega) (by decide) rfl dX1_waysForRoll_23 ?_
        refine z_iincI (v := ↑(k + 1) + 1) (lv' := [some (.ref mi), some (.int (iI (↑(k + 1) + 1)))]) C dX1_waysForRoll_24 rfl (by omega) rfl ?_
        refine z_goto (tgt := 9) C dX1_waysForRoll_27 (by decide) ?_
        refine ih (k + 1) _ (by omega) (by omega) (fun y a b => ?_)
        unfold zup
        by_cases hy : y = ↑k + 1
        · rw [if_pos hy, if_neg (by omega)]
        · rw [if_neg hy]
          exact hB1 y a (by omega)
  refine z_aload_n (i := 0) C dX1_waysForRoll_0 rfl rfl ?_
  refine z_get (ci := 1) C (hi_X1_waysForRoll_X1) 0 rfl rfl 3 (by decide) (by decide +kernel) rfl dX1_waysForRoll_1 ?_
  refine z_iconst (v := iI 0) C dX1_waysForRoll_4 rfl ?_
  refine z_iconst (v := iI 1) C dX1_waysForRoll_5 rfl ?_
  refine z_iastoreI 2 (he := rfl) (ws' := [(mi, .inr (1, [.int (iI L), .int d, .ref fw, .ref wt])), (fw, ai cI 201 A), (wt, ai cI 201 (zup B 0 1))]) C (zT_of hE (t0 := 0) rfl) (by omega) (by omega) (by decide) rfl dX1_waysForRoll_6 ?_
  refine z_iconst (v := iI 1) C dX1_waysForRoll_7 rfl ?_
  refine z_istore_n (i := 1) (lv' := [some (.ref mi), some (.int (iI 1))]) C dX1_waysForRoll_8 rfl rfl rfl ?_
  refine (show zG E Q 0 0 [(mi, .inr (1, [.int (iI L), .int d, .ref fw, .ref wt])), (fw, ai cI 201 A), (wt, ai cI 201 (zup B 0 1))] [some (.ref mi), some (.int (iI (↑(0 : Nat) + 1)))] 9 [] from ?_)
  exact lp (L.toNat + 1) 0 _ (by omega) (by omega) (fun y a b => by rw [show y = 0 by omega]; rfl)
theorem hi_X1_init_X1 : ∀ w ∈ wsX10, w ∈ wsX1_init := by decide +kernel
set_option maxHeartbeats 1000000 in
set_option maxRecDepth 100000 in
theorem k_MillInit (l : Launch) (D : va_G) (cI cZ cM cL : ClassId) (mi : Nat) : zN l yX1_init wsX1_init { frames := 1, cells := 2, slots := 402, locals := 20 } D (zTy cI cZ cM cL) [.ref mi] [(mi, .inr (1, [.int (iI 0), .int (iI 0), .null, .null]))] (fun r w => r = none ∧ ∃ fw wt : Nat, w = miW cI mi fw wt 0 (iI 0) (fun _ => 0) (fun _ => 0)) 2 402 := by
  refine zN_of (cc := cX1_init) (maxL := 1) (lv0 := [some (.ref mi)]) (by decide) rfl rfl (Nat.le_of_ble_eq_true rfl) rfl ?_
  intro E Q C hE hR hI0
  have hI := hI0 rfl
  refine z_aload_n (i := 0) C dX1_init_0 rfl rfl ?_
  refine z_objInit C (by decide +kernel) (by decide +kernel) (by decide +kernel) (Nat.le_of_ble_eq_true rfl) ⟨Nat.le_of_ble_eq_true rfl, Nat.le_of_ble_eq_true rfl⟩ dX1_init_1 ?_
  refine z_aload_n (i := 0) C dX1_init_4 rfl rfl ?_
  refine z_iconst (v := iI 0) C dX1_init_5 rfl ?_
  refine z_put (ci := 1) (ws' := [(mi, .inr (1, [.int (iI 0), .int (iI 0), .null, .null]))]) C (hi_X1_init_X1) tyX1_ok nmX1 0 rfl rfl 0 (by decide) (by decide +kernel) rfl (tyX1_ok 0 (by decide)) rfl rfl (Nat.le_of_ble_eq_true rfl) rfl dX1_init_6 ?_
  refine z_aload_n (i := 0) C dX1_init_9 rfl rfl ?_
  refine z_iconst (v := iI 0) C dX1_init_10 rfl ?_
  refine z_put (ci := 1) (ws' := [(mi, .inr (1, [.int (iI 0), .int (iI 0), .null, .null]))]) C (hi_X1_init_X1) tyX1_ok nmX1 0 rfl rfl 1 (by decide) (by decide +kernel) rfl (tyX1_ok 1 (by decide)) rfl rfl (Nat.le_of_ble_eq_true rfl) rfl dX1_init_11 ?_
  refine z_aload_n (i := 0) C dX1_init_14 rfl rfl ?_
  refine z_sipush (v := iI 201) C dX1_init_15 (by decide) ?_
  refine z_newint C 0 201 (by decide +kernel) (zT_of hE rfl) rfl (Nat.le_of_ble_eq_true rfl) (Nat.le_of_ble_eq_true rfl) (Nat.le_of_ble_eq_true rfl) dX1_init_18 (fun fw => ?_)
  refine (show zG E Q (0 + 1) (0 + 201) [(mi, .inr (1, [.int (iI 0), .int (iI 0), .null, .null])), (fw, ai cI 201 (fun _ => 0))] [some (.ref mi)] 20 [.ref fw, .ref mi] from ?_)
  refine z_putF (ci := 1) (ws' := [(mi, .inr (1, [.int (iI 0), .int (iI 0), .ref fw, .null])), (fw, ai cI 201 (fun _ => 0))]) C hI (hi_X1_init_X1) tyX1_ok nmX1 0 rfl rfl 2 (by decide) (by decide +kernel) rfl rfl (tyX1_ok 2 (by decide)) rfl rfl (Nat.le_of_ble_eq_true rfl) rfl dX1_init_20 ?_
  refine z_aload_n (i := 0) C dX1_init_23 rfl rfl ?_
  refine z_sipush (v := iI 201) C dX1_init_24 (by decide) ?_
  refine z_newint C 0 201 (by decide +kernel) (zT_of hE rfl) rfl (Nat.le_of_ble_eq_true rfl) (Nat.le_of_ble_eq_true rfl) (Nat.le_of_ble_eq_true rfl) dX1_init_27 (fun wt => ?_)
  refine (show zG E Q (0 + 1 + 1) (0 + 201 + 201) [(mi, .inr (1, [.int (iI 0), .int (iI 0), .ref fw, .null])), (fw, ai cI 201 (fun _ => 0)), (wt, ai cI 201 (fun _ => 0))] [some (.ref mi)] 29 [.ref wt, .ref mi] from ?_)
  refine z_putF (ci := 1) (ws' := [(mi, .inr (1, [.int (iI 0), .int (iI 0), .ref fw, .ref wt])), (fw, ai cI 201 (fun _ => 0)), (wt, ai cI 201 (fun _ => 0))]) C hI (hi_X1_init_X1) tyX1_ok nmX1 0 rfl rfl 3 (by decide) (by decide +kernel) rfl rfl (tyX1_ok 3 (by decide)) rfl rfl (Nat.le_of_ble_eq_true rfl) rfl dX1_init_29 ?_
  exact z_vret C hR dX1_init_32 (Nat.le_refl _) (Nat.le_refl _) (⟨rfl, fw, wt, rfl⟩)
