/-! BITS: walks. -/
set_option maxHeartbeats 1000000 in
set_option maxRecDepth 100000 in
theorem k_holds (l : Launch) (D : va_G) (cI cZ cM cL : ClassId) (x y : Int32) : zN l yX4_holds wsX4_holds { frames := 0, cells := 0, slots := 0, locals := 0 } D (zTy cI cZ cM cL) [.int x, .int y] [] (fun r w => r = some (.int (iI (b2 (hb x y)))) ∧ w = []) 0 0 := by
  refine zN_of (cc := cX4_holds) (maxL := 2) (lv0 := [some (.int x), some (.int y)]) (by decide) rfl rfl (Nat.le_of_ble_eq_true rfl) rfl ?_
  intro E Q C hE hR hI0
  refine z_iload_n (i := 0) C dX4_holds_0 rfl rfl ?_
  refine z_iload_n (i := 1) C dX4_holds_1 rfl rfl ?_
  refine z_ishr C dX4_holds_2 ?_
  refine z_iconst (v := iI 1) C dX4_holds_3 rfl ?_
  refine z_iand C dX4_holds_4 ?_
  refine z_if_eq (tgt := 12) C dX4_holds_5 (by decide) (fun hv => ?_) (fun hv => ?_)
  · refine z_iconst (v := iI 0) C dX4_holds_12 rfl ?_
    exact z_zret C hR (by decide) dX4_holds_13 (Nat.le_refl _) (Nat.le_refl _) (⟨by first | rw [b2t (P := hb x y) hv] | rw [b2f (P := hb x y) (fun q => q hv)], rfl⟩)
  · refine z_iconst (v := iI 1) C dX4_holds_8 rfl ?_
    refine z_goto (tgt := 13) C dX4_holds_9 (by decide) ?_
    exact z_zret C hR (by decide) dX4_holds_13 (Nat.le_refl _) (Nat.le_refl _) (⟨by first | rw [b2t (P := hb x y) hv] | rw [b2f (P := hb x y) (fun q => q hv)], rfl⟩)
set_option maxHeartbeats 1000000 in
set_option maxRecDepth 100000 in
theorem k_lacks (l : Launch) (D : va_G) (cI cZ cM cL : ClassId) (x w0 : Int32) : zN l yX4_lacksAny wsX4_lacksAny { frames := 0, cells := 0, slots := 0, locals := 0 } D (zTy cI cZ cM cL) [.int x, .int w0] [] (fun r w => r = some (.int (iI (b2 (lk x w0)))) ∧ w = []) 0 0 := by
  refine zN_of (cc := cX4_lacksAny) (maxL := 2) (lv0 := [some (.int x), some (.int w0)]) (by decide) rfl rfl (Nat.le_of_ble_eq_true rfl) rfl ?_
  intro E Q C hE hR hI0
  refine z_iload_n (i := 1) C dX4_lacksAny_0 rfl rfl ?_
  refine z_iload_n (i := 0) C dX4_lacksAny_1 rfl rfl ?_
  refine z_iconst (v := iI (-1)) C dX4_lacksAny_2 rfl ?_
  refine z_ixor C dX4_lacksAny_3 ?_
  refine z_iand C dX4_lacksAny_4 ?_
  refine z_if_eq (tgt := 12) C dX4_lacksAny_5 (by decide) (fun hv => ?_) (fun hv => ?_)
  · refine z_iconst (v := iI 0) C dX4_lacksAny_12 rfl ?_
    exact z_zret C hR (by decide) dX4_lacksAny_13 (Nat.le_refl _) (Nat.le_refl _) (⟨by first | rw [b2t (P := lk x w0) hv] | rw [b2f (P := lk x w0) (fun q => q hv)], rfl⟩)
  · refine z_iconst (v := iI 1) C dX4_lacksAny_8 rfl ?_
    refine z_goto (tgt := 13) C dX4_lacksAny_9 (by decide) ?_
    exact z_zret C hR (by decide) dX4_lacksAny_13 (Nat.le_refl _) (Nat.le_refl _) (⟨by first | rw [b2t (P := lk x w0) hv] | rw [b2f (P := lk x w0) (fun q => q hv)], rfl⟩)
set_option maxHeartbeats 1000000 in
set_option maxRecDepth 100000 in
theorem k_reached (l : Launch) (D : va_G) (cI cZ cM cL : ClassId) (la : Nat) (f : Int → Int32) (from0 within : Int32) : zN l yX4_reached wsX4_reached { frames := 1, cells := 0, slots := 0, locals := 21 } D (zTy cI cZ cM cL) [.int from0, .ref la, .int within] [(la, ar cI 8 f)] (fun r w => r = some (.int (rch f within 8 (from0 &&& within))) ∧ w = [(la, ar cI 8 f)]) 0 0 := by
  refine zN_of (cc := cX4_reached) (maxL := 6) (lv0 := [some (.int from0), some (.ref la), some (.int within), none, none, none]) (by decide) rfl rfl (Nat.le_of_ble_eq_true rfl) rfl ?_
  intro E Q C hE hR hI0
  have lp : ∀ (n i : Nat), i ≤ 8 → 8 - i < n → zG E Q 0 0 [(la, ar cI 8 f)] [some (.int from0), some (.ref la), some (.int within), some (.int (rch f within i (from0 &&& within))), some (.int (iI ↑i)), none] 7 [] := by
    intro n
    induction n with
    | zero => intro i hi hin; omega
    | succ n ih =>
      intro i hi hin
      have l48 : i < 8 → zG E Q 0 0 [(la, ar cI 8 f)] [some (.int from0), some (.ref la), some (.int within), some (.int (rcr f within 8 (rch f within i (from0 &&& within)))), some (.int (iI ↑i)), some (.int (iI ↑(8 : Nat)))] 48 [] := by
        intro hi8
        refine z_iincI (v := ↑(i + 1)) (lv' := [some (.int from0), some (.ref la), some (.int within), some (.int (rcr f within 8 (rch f within i (from0 &&& within)))), some (.int (iI (↑(i + 1)))), some (.int (iI ↑(8 : Nat)))]) C dX4_reached_48 rfl (by omega) rfl ?_
        refine z_goto (tgt := 7) C dX4_reached_51 (by decide) ?_
        refine z_le (r := [some (.int from0), some (.ref la), some (.int within), some (.int (rch f within (i + 1) (from0 &&& within))), some (.int (iI ↑(i + 1))), none]) ⟨Or.inr rfl, Or.inr rfl, Or.inr rfl, Or.inr rfl, Or.inr rfl, Or.inl rfl, trivial⟩ ?_
        exact ih (i + 1) (by omega) (by omega)
      have lq : i < 8 → ∀ (k j : Nat), j ≤ 8 → 8 - j < k → zG E Q 0 0 [(la, ar cI 8 f)] [some (.int from0), some (.ref la), some (.int within), some (.int (rcr f within j (rch f within i (from0 &&& within)))), some (.int (iI ↑i)), some (.int (iI ↑j))] 17 [] := by
        intro hi8 k
        induction k with
        | zero => intro j hj hjn; omega
        | succ k ih2 =>
          intro j hj hjn
          have l42 : j < 8 → zG E Q 0 0 [(la, ar cI 8 f)] [some (.int from0), some (.ref la), some (.int within), some (.int (rcr f within (j + 1) (rch f within i (from0 &&& within)))), some (.int (iI ↑i)), some (.int (iI ↑j))] 42 [] := by
            intro hj8
            refine z_iincI (v := ↑(j + 1)) (lv' := [some (.int from0), some (.ref la), some (.int within), some (.int (rcr f within (j + 1) (rch f within i (from0 &&& within)))), some (.int (iI ↑i)), some (.int (iI (↑(j + 1))))]) C dX4_reached_42 rfl (by omega) rfl ?_
            refine z_goto (tgt := 17) C dX4_reached_45 (by decide) ?_
            exact ih2 (j + 1) (by omega) (by omega)
          refine z_iload C dX4_reached_17 rfl ?_
          refine z_aload_n (i := 1) C dX4_reached_19 rfl rfl ?_
          refine z_alen (v := iI 8) C 0 rfl (zT_of hE (t0 := 0) rfl) rfl dX4_reached_20 ?_
          refine z_icmp_geI (tgt := 48) C dX4_reached_21 (by decide) ⟨by omega, by omega⟩ ⟨by omega, by omega⟩ (fun hk2 => ?_) (fun hk2 => ?_)
          · have e2 : j = 8 := by omega
            subst e2
            exact l48 hi8
          · refine z_iload_n (i := 3) C dX4_reached_24 rfl rfl ?_
            refine z_iload C dX4_reached_25 rfl ?_
            refine z_callS (n := 2) (As := [.int (rcr f within j (rch f within i (from0 &&& within))), .int (iI ↑j)]) (st := []) (fr := [(la, ar cI 8 f)]) C hE (k_holds l D cI cZ cM cL (rcr f within j (rch f within i (from0 &&& within))) (iI ↑j)) gX4_reached_X4_holds rfl ⟨rfl, rfl⟩ (by decide +kernel) ⟨Nat.le_of_ble_eq_true rfl, Nat.le_of_ble_eq_true rfl⟩ rfl rfl (List.Perm.refl _) (Nat.le_of_ble_eq_true rfl) ⟨Nat.le_of_ble_eq_true rfl, Nat.le_of_ble_eq_true rfl⟩ dX4_reached_27 (fun r w1 hpo => ?_)
            obtain ⟨rfl, rfl⟩ := hpo
            have hbr := b2r (hb (rcr f within j (rch f within i (from0 &&& within))) (iI ↑j))
            refine (show zG E Q (0) (0) [(la, ar cI 8 f)] [some (.int from0), some (.ref la), some (.int within), some (.int (rcr f within j (rch f within i (from0 &&& within)))), some (.int (iI ↑i)), some (.int (iI ↑j))] 30 [.int (iI (b2 (hb (rcr f within j (rch f within i (from0 &&& within))) (iI ↑j))))] from ?_)
            refine z_if_eqI (tgt := 42) C dX4_reached_30 (by decide) ⟨by omega, by omega⟩ (fun hv => ?_) (fun hv => ?_)
            · have e1 : (rcr f within j (rch f within i (from0 &&& within))) = rcr f within (j + 1) (rch f within i (from0 &&& within)) := by
                show _ = (if hb (rcr f within j (rch f within i (from0 &&& within))) (iI ↑j) then rcr f within j (rch f within i (from0 &&& within)) ||| (f ↑j &&& within) else rcr f within j (rch f within i (from0 &&& within)))
                first | rw [if_pos (b21 hv)] | rw [if_neg (b20 hv)]
              rw [e1]
              exact l42 (by omega)
            · refine z_iload_n (i := 3) C dX4_reached_33 rfl rfl ?_
              refine z_aload_n (i := 1) C dX4_reached_34 rfl rfl ?_
              refine z_iload C dX4_reached_35 rfl ?_
              refine z_iaload C 0 rfl (zT_of hE (t0 := 0) rfl) (by omega) (by omega) (by decide) dX4_reached_37 ?_
              refine z_iload_n (i := 2) C dX4_reached_38 rfl rfl ?_
              refine z_iand C dX4_reached_39 ?_
              refine z_ior C dX4_reached_40 ?_
              refine z_istore_n (i := 3) (lv' := [some (.int from0), some (.ref la), some (.int within), some (.int ((rcr f within j (rch f within i (from0 &&& within))) ||| ((f (↑j)) &&& within))), some (.int (iI ↑i)), some (.int (iI ↑j))]) C dX4_reached_41 rfl rfl rfl ?_
              have e1 : ((rcr f within j (rch f within i (from0 &&& within))) ||| ((f (↑j)) &&& within)) = rcr f within (j + 1) (rch f within i (from0 &&& within)) := by
                show _ = (if hb (rcr f within j (rch f within i (from0 &&& within))) (iI ↑j) then rcr f within j (rch f within i (from0 &&& within)) ||| (f ↑j &&& within) else rcr f within j (rch f within i (from0 &&& within)))
                first | rw [if_pos (b21 hv)] | rw [if_neg (b20 hv)]
              rw [e1]
              exact l42 (by omega)
      refine z_iload C dX4_reached_7 rfl ?_
      refine z_aload_n (i := 1) C dX4_reached_9 rfl rfl ?_
      refine z_alen (v := iI 8) C 0 rfl (zT_of hE (t0 := 0) rfl) rfl dX4_reached_10 ?_
      refine z_icmp_geI (tgt := 54) C dX4_reached_11 (by decide) ⟨by omega, by omega⟩ ⟨by omega, by omega⟩ (fun hk => ?_) (fun hk => ?_)
      · refine z_iload_n (i := 3) C dX4_reached_54 rfl rfl ?_
        exact z_iret C hR dX4_reached_55 (Nat.le_refl _) (Nat.le_refl _) (⟨by rw [show i = 8 by omega], rfl⟩)
      · refine z_iconst (v := iI 0) C dX4_reached_14 rfl ?_
        refine z_istore (lv' := [some (.int from0), some (.ref la), some (.int within), some (.int (rch f within i (from0 &&& within))), some (.int (iI ↑i)), some (.int (iI 0))]) C dX4_reached_15 rfl rfl ?_
        exact lq (by omega) 9 0 (by omega) (by omega)
  refine z_iload_n (i := 0) C dX4_reached_0 rfl rfl ?_
  refine z_iload_n (i := 2) C dX4_reached_1 rfl rfl ?_
  refine z_iand C dX4_reached_2 ?_
  refine z_istore_n (i := 3) (lv' := [some (.int from0), some (.ref la), some (.int within), some (.int (from0 &&& within)), none, none]) C dX4_reached_3 rfl rfl rfl ?_
  refine z_iconst (v := iI 0) C dX4_reached_4 rfl ?_
  refine z_istore (lv' := [some (.int from0), some (.ref la), some (.int within), some (.int (from0 &&& within)), some (.int (iI 0)), none]) C dX4_reached_5 rfl rfl ?_
  exact lp 9 0 (by omega) (by omega)
