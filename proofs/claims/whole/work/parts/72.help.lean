/-! THE LAW'S HELPERS: each calls, catches and says what it was. -/
set_option maxHeartbeats 1000000 in
set_option maxRecDepth 100000 in
theorem h_setNeeds (l : Launch) (D : va_G) (cI cZ cM cL : ClassId) (h o : Nat) (G : va_W) (fs : List Value) (hG : G[0]? = some (h, .inr (4, fs))) (f : Int → Int64) (code : Int) (hc3 : ¬ code = 3) (x1 x2 : Int32) (postG : Option Value → va_W → Prop) (hpost : ∀ r w, postG r w → ∃ x : Int32, r = some (.int x)) (hM : zNX l yX4_setNeeds wsX4_setNeeds { frames := 7, cells := 2, slots := 12, locals := 111 } D (zTy cI cZ cM cL) [.ref h, .int x1, .int x2] G postG (pX code "java/lang/IndexOutOfBoundsException" "java/lang/IllegalArgumentException" "java/lang/IndexOutOfBoundsException") 2 12) : zN l yL_setNeeds wsL_setNeeds { frames := 8, cells := 2, slots := 12, locals := 134 } D (zTy cI cZ cM cL) [.ref h, .int x1, .int x2, .ref o] ([(o, lr cL 1 f)] ++ G) (fun r w => (∃ (x : Int32) (G1 : va_W), r = some (.int (iI 0)) ∧ w = [(o, lr cL 1 (zup f 0 (LZ false x)))] ++ G1 ∧ postG (some (.int x)) G1) ∨ (r = some (.int (iI code)) ∧ ¬ code = 0 ∧ w = [(o, lr cL 1 f)] ++ G)) 2 12 := by
  refine zNH_of (cc := cL_setNeeds) (maxL := 5) (hh := [(0, 10, 13, 13), (0, 10, 17, 15)]) (lv0 := [some (.ref h), some (.int x1), some (.int x2), some (.ref o), none]) (by decide) rfl rfl (Nat.le_of_ble_eq_true rfl) rfl ?_
  intro E Q C hE hR hT
  refine z_aload_n (i := 3) C dL_setNeeds_0 rfl rfl ?_
  refine z_iconst (v := iI 0) C dL_setNeeds_1 rfl ?_
  refine z_aload_n (i := 0) C dL_setNeeds_2 rfl rfl ?_
  refine z_iload_n (i := 1) C dL_setNeeds_3 rfl rfl ?_
  refine z_iload_n (i := 2) C dL_setNeeds_4 rfl rfl ?_
  refine z_callVx (n := 2) (As := [.int x1, .int x2]) (st := [.int (iI 0), .ref o]) (fr := [(o, lr cL 1 f)]) C hE hM gL_setNeeds_X4_setNeeds rfl ⟨rfl, rfl⟩ (by decide +kernel) ⟨Nat.le_of_ble_eq_true rfl, Nat.le_of_ble_eq_true rfl⟩ rfl rfl (List.perm_append_singleton _ _).symm 0 hG rfl rfl (Nat.le_of_ble_eq_true rfl) ⟨Nat.le_of_ble_eq_true rfl, Nat.le_of_ble_eq_true rfl⟩ dL_setNeeds_5 (fun Ex hpx => ?_) (fun r w1 hpo => ?_)
  · obtain ⟨hcc, rfl⟩ | ⟨hcc, rfl⟩ | ⟨hcc, rfl⟩ := hpx
    · refine z_catch C hE hT (name := "java/lang/IndexOutOfBoundsException") [] ⟨0, 10, 13, 13⟩ [⟨0, 10, 17, 15⟩] rfl (fun z hz => absurd hz List.not_mem_nil) (by decide) (by decide) (by decide +kernel) (by decide +kernel) (fun q => ?_)
      refine z_astore (lv' := [some (.ref h), some (.int x1), some (.int x2), some (.ref o), some (.ref q)]) C dL_setNeeds_13 rfl rfl ?_
      refine z_iconst (v := iI 1) C dL_setNeeds_15 rfl ?_
      exact z_iret C hR dL_setNeeds_16 (Nat.le_of_ble_eq_true rfl) (Nat.le_of_ble_eq_true rfl) (Or.inr ⟨by rw [hcc], by omega, rfl⟩)
    · refine z_catch C hE hT (name := "java/lang/IllegalArgumentException") [⟨0, 10, 13, 13⟩] ⟨0, 10, 17, 15⟩ [] rfl (fun z hz => by rw [List.mem_singleton] at hz; subst hz; exact Or.inr ⟨by decide, "java/lang/IndexOutOfBoundsException", by decide +kernel, by decide +kernel⟩) (by decide) (by decide) (by decide +kernel) (by decide +kernel) (fun q => ?_)
      refine z_astore (lv' := [some (.ref h), some (.int x1), some (.int x2), some (.ref o), some (.ref q)]) C dL_setNeeds_17 rfl rfl ?_
      refine z_iconst (v := iI 2) C dL_setNeeds_19 rfl ?_
      exact z_iret C hR dL_setNeeds_20 (Nat.le_of_ble_eq_true rfl) (Nat.le_of_ble_eq_true rfl) (Or.inr ⟨by rw [hcc], by omega, rfl⟩)
    · exact absurd hcc hc3
  · obtain ⟨x, rfl⟩ := hpost _ _ hpo
    refine z_perm (ws' := [(o, lr cL 1 f)] ++ w1) (List.perm_append_singleton _ _) ?_
    refine (show zG E Q (0 + 2) (0 + 12) ([(o, lr cL 1 f)] ++ w1) [some (.ref h), some (.int x1), some (.int x2), some (.ref o), none] 8 [.int x, .int (iI 0), .ref o] from ?_)
    refine z_i2l C dL_setNeeds_8 rfl ?_
    refine z_lastore (ws' := ([(o, lr cL 1 (zup f 0 (x.toInt64)))] ++ w1)) C 0 rfl (zT_of hE (t0 := 3) rfl) (by omega) (by omega) (by decide) rfl dL_setNeeds_9 ?_
    refine z_goto (tgt := 21) C dL_setNeeds_10 (by decide) ?_
    refine z_iconst (v := iI 0) C dL_setNeeds_21 rfl ?_
    exact z_iret C hR dL_setNeeds_22 (Nat.le_of_ble_eq_true rfl) (Nat.le_of_ble_eq_true rfl) (Or.inl ⟨x, w1, rfl, rfl, hpo⟩)
set_option maxHeartbeats 1000000 in
set_option maxRecDepth 100000 in
theorem h_addModel (l : Launch) (D : va_G) (cI cZ cM cL : ClassId) (h o : Nat) (G : va_W) (fs : List Value) (hG : G[0]? = some (h, .inr (4, fs))) (f : Int → Int64) (code : Int)  (x1 x2 : Int32) (postG : Option Value → va_W → Prop) (hpost : ∀ r w, postG r w → ∃ x : Int32, r = some (.int x)) (hM : zNX l yX4_addModel wsX4_addModel { frames := 7, cells := 11, slots := 185, locals := 111 } D (zTy cI cZ cM cL) [.ref h, .int x1, .int x2] G postG (pX code "java/lang/IndexOutOfBoundsException" "java/lang/IllegalArgumentException" "java/lang/IllegalStateException") 11 185) : zN l yL_addModel wsL_addModel { frames := 8, cells := 11, slots := 185, locals := 133 } D (zTy cI cZ cM cL) [.ref h, .int x1, .int x2, .ref o] ([(o, lr cL 1 f)] ++ G) (fun r w => (∃ (x : Int32) (G1 : va_W), r = some (.int (iI 0)) ∧ w = [(o, lr cL 1 (zup f 0 (LZ false x)))] ++ G1 ∧ postG (some (.int x)) G1) ∨ (r = some (.int (iI code)) ∧ ¬ code = 0 ∧ w = [(o, lr cL 1 f)] ++ G)) 11 185 := by
  refine zNH_of (cc := cL_addModel) (maxL := 5) (hh := [(0, 10, 13, 13), (0, 10, 17, 15), (0, 10, 21, 20)]) (lv0 := [some (.ref h), some (.int x1), some (.int x2), some (.ref o), none]) (by decide) rfl rfl (Nat.le_of_ble_eq_true rfl) rfl ?_
  intro E Q C hE hR hT
  refine z_aload_n (i := 3) C dL_addModel_0 rfl rfl ?_
  refine z_iconst (v := iI 0) C dL_addModel_1 rfl ?_
  refine z_aload_n (i := 0) C dL_addModel_2 rfl rfl ?_
  refine z_iload_n (i := 1) C dL_addModel_3 rfl rfl ?_
  refine z_iload_n (i := 2) C dL_addModel_4 rfl rfl ?_
  refine z_callVx (n := 2) (As := [.int x1, .int x2]) (st := [.int (iI 0), .ref o]) (fr := [(o, lr cL 1 f)]) C hE hM gL_addModel_X4_addModel rfl ⟨rfl, rfl⟩ (by decide +kernel) ⟨Nat.le_of_ble_eq_true rfl, Nat.le_of_ble_eq_true rfl⟩ rfl rfl (List.perm_append_singleton _ _).symm 0 hG rfl rfl (Nat.le_of_ble_eq_true rfl) ⟨Nat.le_of_ble_eq_true rfl, Nat.le_of_ble_eq_true rfl⟩ dL_addModel_5 (fun Ex hpx => ?_) (fun r w1 hpo => ?_)
  · obtain ⟨hcc, rfl⟩ | ⟨hcc, rfl⟩ | ⟨hcc, rfl⟩ := hpx
    · refine z_catch C hE hT (name := "java/lang/IndexOutOfBoundsException") [] ⟨0, 10, 13, 13⟩ [⟨0, 10, 17, 15⟩, ⟨0, 10, 21, 20⟩] rfl (fun z hz => absurd hz List.not_mem_nil) (by decide) (by decide) (by decide +kernel) (by decide +kernel) (fun q => ?_)
      refine z_astore (lv' := [some (.ref h), some (.int x1), some (.int x2), some (.ref o), some (.ref q)]) C dL_addModel_13 rfl rfl ?_
      refine z_iconst (v := iI 1) C dL_addModel_15 rfl ?_
      exact z_iret C hR dL_addModel_16 (Nat.le_of_ble_eq_true rfl) (Nat.le_of_ble_eq_true rfl) (Or.inr ⟨by rw [hcc], by omega, rfl⟩)
    · refine z_catch C hE hT (name := "java/lang/IllegalArgumentException") [⟨0, 10, 13, 13⟩] ⟨0, 10, 17, 15⟩ [⟨0, 10, 21, 20⟩] rfl (fun z hz => by rw [List.mem_singleton] at hz; subst hz; exact Or.inr ⟨by decide, "java/lang/IndexOutOfBoundsException", by decide +kernel, by decide +kernel⟩) (by decide) (by decide) (by decide +kernel) (by decide +kernel) (fun q => ?_)
      refine z_astore (lv' := [some (.ref h), some (.int x1), some (.int x2), some (.ref o), some (.ref q)]) C dL_addModel_17 rfl rfl ?_
      refine z_iconst (v := iI 2) C dL_addModel_19 rfl ?_
      exact z_iret C hR dL_addModel_20 (Nat.le_of_ble_eq_true rfl) (Nat.le_of_ble_eq_true rfl) (Or.inr ⟨by rw [hcc], by omega, rfl⟩)
    · refine z_catch C hE hT (name := "java/lang/IllegalStateException") [⟨0, 10, 13, 13⟩, ⟨0, 10, 17, 15⟩] ⟨0, 10, 21, 20⟩ [] rfl (fun z hz => (List.mem_cons.mp hz).elim (fun e => by subst e; exact Or.inr ⟨by decide, "java/lang/IndexOutOfBoundsException", by decide +kernel, by decide +kernel⟩) (fun hz => by rw [List.mem_singleton] at hz; subst hz; exact Or.inr ⟨by decide, "java/lang/IllegalArgumentException", by decide +kernel, by decide +kernel⟩)) (by decide) (by decide) (by decide +kernel) (by decide +kernel) (fun q => ?_)
      refine z_astore (lv' := [some (.ref h), some (.int x1), some (.int x2), some (.ref o), some (.ref q)]) C dL_addModel_21 rfl rfl ?_
      refine z_iconst (v := iI 3) C dL_addModel_23 rfl ?_
      exact z_iret C hR dL_addModel_24 (Nat.le_of_ble_eq_true rfl) (Nat.le_of_ble_eq_true rfl) (Or.inr ⟨by rw [hcc], by omega, rfl⟩)
  · obtain ⟨x, rfl⟩ := hpost _ _ hpo
    refine z_perm (ws' := [(o, lr cL 1 f)] ++ w1) (List.perm_append_singleton _ _) ?_
    refine (show zG E Q (0 + 11) (0 + 185) ([(o, lr cL 1 f)] ++ w1) [some (.ref h), some (.int x1), some (.int x2), some (.ref o), none] 8 [.int x, .int (iI 0), .ref o] from ?_)
    refine z_i2l C dL_addModel_8 rfl ?_
    refine z_lastore (ws' := ([(o, lr cL 1 (zup f 0 (x.toInt64)))] ++ w1)) C 0 rfl (zT_of hE (t0 := 3) rfl) (by omega) (by omega) (by decide) rfl dL_addModel_9 ?_
    refine z_goto (tgt := 25) C dL_addModel_10 (by decide) ?_
    refine z_iconst (v := iI 0) C dL_addModel_25 rfl ?_
    exact z_iret C hR dL_addModel_26 (Nat.le_of_ble_eq_true rfl) (Nat.le_of_ble_eq_true rfl) (Or.inl ⟨x, w1, rfl, rfl, hpo⟩)
set_option maxHeartbeats 1000000 in
set_option maxRecDepth 100000 in
theorem h_fold (l : Launch) (D : va_G) (cI cZ cM cL : ClassId) (h o : Nat) (G : va_W) (fs : List Value) (hG : G[0]? = some (h, .inr (4, fs))) (f : Int → Int64) (code : Int)  (x1 x2 x3 x4 : Int32) (postG : Option Value → va_W → Prop) (hpost : ∀ r w, postG r w → ∃ x : Int32, r = some (.int x)) (hM : zNX l yX4_fold wsX4_fold { frames := 8, cells := 4, slots := 24, locals := 158 } D (zTy cI cZ cM cL) [.ref h, .int x1, .int x2, .int x3, .int x4] G postG (pX code "java/lang/IndexOutOfBoundsException" "java/lang/IllegalArgumentException" "java/lang/IllegalStateException") 4 24) : zN l yL_fold wsL_fold { frames := 9, cells := 4, slots := 24, locals := 183 } D (zTy cI cZ cM cL) [.ref h, .int x1, .int x2, .int x3, .int x4, .ref o] ([(o, lr cL 1 f)] ++ G) (fun r w => (∃ (x : Int32) (G1 : va_W), r = some (.int (iI 0)) ∧ w = [(o, lr cL 1 (zup f 0 (LZ false x)))] ++ G1 ∧ postG (some (.int x)) G1) ∨ (r = some (.int (iI code)) ∧ ¬ code = 0 ∧ w = [(o, lr cL 1 f)] ++ G)) 4 24 := by
  refine zNH_of (cc := cL_fold) (maxL := 7) (hh := [(0, 14, 17, 13), (0, 14, 21, 15), (0, 14, 25, 20)]) (lv0 := [some (.ref h), some (.int x1), some (.int x2), some (.int x3), some (.int x4), some (.ref o), none]) (by decide) rfl rfl (Nat.le_of_ble_eq_true rfl) rfl ?_
  intro E Q C hE hR hT
  refine z_aload C dL_fold_0 rfl ?_
  refine z_iconst (v := iI 0) C dL_fold_2 rfl ?_
  refine z_aload_n (i := 0) C dL_fold_3 rfl rfl ?_
  refine z_iload_n (i := 1) C dL_fold_4 rfl rfl ?_
  refine z_iload_n (i := 2) C dL_fold_5 rfl rfl ?_
  refine z_iload_n (i := 3) C dL_fold_6 rfl rfl ?_
  refine z_iload C dL_fold_7 rfl ?_
  refine z_callVx (n := 4) (As := [.int x1, .int x2, .int x3, .int x4]) (st := [.int (iI 0), .ref o]) (fr := [(o, lr cL 1 f)]) C hE hM gL_fold_X4_fold rfl ⟨rfl, rfl⟩ (by decide +kernel) ⟨Nat.le_of_ble_eq_true rfl, Nat.le_of_ble_eq_true rfl⟩ rfl rfl (List.perm_append_singleton _ _).symm 0 hG rfl rfl (Nat.le_of_ble_eq_true rfl) ⟨Nat.le_of_ble_eq_true rfl, Nat.le_of_ble_eq_true rfl⟩ dL_fold_9 (fun Ex hpx => ?_) (fun r w1 hpo => ?_)
  · obtain ⟨hcc, rfl⟩ | ⟨hcc, rfl⟩ | ⟨hcc, rfl⟩ := hpx
    · refine z_catch C hE hT (name := "java/lang/IndexOutOfBoundsException") [] ⟨0, 14, 17, 13⟩ [⟨0, 14, 21, 15⟩, ⟨0, 14, 25, 20⟩] rfl (fun z hz => absurd hz List.not_mem_nil) (by decide) (by decide) (by decide +kernel) (by decide +kernel) (fun q => ?_)
      refine z_astore (lv' := [some (.ref h), some (.int x1), some (.int x2), some (.int x3), some (.int x4), some (.ref o), some (.ref q)]) C dL_fold_17 rfl rfl ?_
      refine z_iconst (v := iI 1) C dL_fold_19 rfl ?_
      exact z_iret C hR dL_fold_20 (Nat.le_of_ble_eq_true rfl) (Nat.le_of_ble_eq_true rfl) (Or.inr ⟨by rw [hcc], by omega, rfl⟩)
    · refine z_catch C hE hT (name := "java/lang/IllegalArgumentException") [⟨0, 14, 17, 13⟩] ⟨0, 14, 21, 15⟩ [⟨0, 14, 25, 20⟩] rfl (fun z hz => by rw [List.mem_singleton] at hz; subst hz; exact Or.inr ⟨by decide, "java/lang/IndexOutOfBoundsException", by decide +kernel, by decide +kernel⟩) (by decide) (by decide) (by decide +kernel) (by decide +kernel) (fun q => ?_)
      refine z_astore (lv' := [some (.ref h), some (.int x1), some (.int x2), some (.int x3), some (.int x4), some (.ref o), some (.ref q)]) C dL_fold_21 rfl rfl ?_
      refine z_iconst (v := iI 2) C dL_fold_23 rfl ?_
      exact z_iret C hR dL_fold_24 (Nat.le_of_ble_eq_true rfl) (Nat.le_of_ble_eq_true rfl) (Or.inr ⟨by rw [hcc], by omega, rfl⟩)
    · refine z_catch C hE hT (name := "java/lang/IllegalStateException") [⟨0, 14, 17, 13⟩, ⟨0, 14, 21, 15⟩] ⟨0, 14, 25, 20⟩ [] rfl (fun z hz => (List.mem_cons.mp hz).elim (fun e => by subst e; exact Or.inr ⟨by decide, "java/lang/IndexOutOfBoundsException", by decide +kernel, by decide +kernel⟩) (fun hz => by rw [List.mem_singleton] at hz; subst hz; exact Or.inr ⟨by decide, "java/lang/IllegalArgumentException", by decide +kernel, by decide +kernel⟩)) (by decide) (by decide) (by decide +kernel) (by decide +kernel) (fun q => ?_)
      refine z_astore (lv' := [some (.ref h), some (.int x1), some (.int x2), some (.int x3), some (.int x4), some (.ref o), some (.ref q)]) C dL_fold_25 rfl rfl ?_
      refine z_iconst (v := iI 3) C dL_fold_27 rfl ?_
      exact z_iret C hR dL_fold_28 (Nat.le_of_ble_eq_true rfl) (Nat.le_of_ble_eq_true rfl) (Or.inr ⟨by rw [hcc], by omega, rfl⟩)
  · obtain ⟨x, rfl⟩ := hpost _ _ hpo
    refine z_perm (ws' := [(o, lr cL 1 f)] ++ w1) (List.perm_append_singleton _ _) ?_
    refine (show zG E Q (0 + 4) (0 + 24) ([(o, lr cL 1 f)] ++ w1) [some (.ref h), some (.int x1), some (.int x2), some (.int x3), some (.int x4), some (.ref o), none] 12 [.int x, .int (iI 0), .ref o] from ?_)
    refine z_i2l C dL_fold_12 rfl ?_
    refine z_lastore (ws' := ([(o, lr cL 1 (zup f 0 (x.toInt64)))] ++ w1)) C 0 rfl (zT_of hE (t0 := 3) rfl) (by omega) (by omega) (by decide) rfl dL_fold_13 ?_
    refine z_goto (tgt := 29) C dL_fold_14 (by decide) ?_
    refine z_iconst (v := iI 0) C dL_fold_29 rfl ?_
    exact z_iret C hR dL_fold_30 (Nat.le_of_ble_eq_true rfl) (Nat.le_of_ble_eq_true rfl) (Or.inl ⟨x, w1, rfl, rfl, hpo⟩)
set_option maxHeartbeats 1000000 in
set_option maxRecDepth 100000 in
theorem h_unfold (l : Launch) (D : va_G) (cI cZ cM cL : ClassId) (h o : Nat) (G : va_W) (fs : List Value) (hG : G[0]? = some (h, .inr (4, fs))) (f : Int → Int64) (code : Int) (hc3 : ¬ code = 3) (x1 : Int32) (postG : Option Value → va_W → Prop) (hpost : ∀ r w, postG r w → ∃ x : Int32, r = some (.int x)) (hM : zNX l yX4_unfold wsX4_unfold { frames := 8, cells := 3, slots := 18, locals := 156 } D (zTy cI cZ cM cL) [.ref h, .int x1] G postG (pX code "java/lang/IndexOutOfBoundsException" "java/lang/IllegalStateException" "java/lang/IndexOutOfBoundsException") 3 18) : zN l yL_unfold wsL_unfold { frames := 9, cells := 3, slots := 18, locals := 178 } D (zTy cI cZ cM cL) [.ref h, .int x1, .ref o] ([(o, lr cL 1 f)] ++ G) (fun r w => (∃ (x : Int32) (G1 : va_W), r = some (.int (iI 0)) ∧ w = [(o, lr cL 1 (zup f 0 (LZ false x)))] ++ G1 ∧ postG (some (.int x)) G1) ∨ (r = some (.int (iI code)) ∧ ¬ code = 0 ∧ w = [(o, lr cL 1 f)] ++ G)) 3 18 := by
  refine zNH_of (cc := cL_unfold) (maxL := 4) (hh := [(0, 9, 12, 13), (0, 9, 15, 20)]) (lv0 := [some (.ref h), some (.int x1), some (.ref o), none]) (by decide) rfl rfl (Nat.le_of_ble_eq_true rfl) rfl ?_
  intro E Q C hE hR hT
  refine z_aload_n (i := 2) C dL_unfold_0 rfl rfl ?_
  refine z_iconst (v := iI 0) C dL_unfold_1 rfl ?_
  refine z_aload_n (i := 0) C dL_unfold_2 rfl rfl ?_
  refine z_iload_n (i := 1) C dL_unfold_3 rfl rfl ?_
  refine z_callVx (n := 1) (As := [.int x1]) (st := [.int (iI 0), .ref o]) (fr := [(o, lr cL 1 f)]) C hE hM gL_unfold_X4_unfold rfl ⟨rfl, rfl⟩ (by decide +kernel) ⟨Nat.le_of_ble_eq_true rfl, Nat.le_of_ble_eq_true rfl⟩ rfl rfl (List.perm_append_singleton _ _).symm 0 hG rfl rfl (Nat.le_of_ble_eq_true rfl) ⟨Nat.le_of_ble_eq_true rfl, Nat.le_of_ble_eq_true rfl⟩ dL_unfold_4 (fun Ex hpx => ?_) (fun r w1 hpo => ?_)
  · obtain ⟨hcc, rfl⟩ | ⟨hcc, rfl⟩ | ⟨hcc, rfl⟩ := hpx
    · refine z_catch C hE hT (name := "java/lang/IndexOutOfBoundsException") [] ⟨0, 9, 12, 13⟩ [⟨0, 9, 15, 20⟩] rfl (fun z hz => absurd hz List.not_mem_nil) (by decide) (by decide) (by decide +kernel) (by decide +kernel) (fun q => ?_)
      refine z_astore_n (i := 3) (lv' := [some (.ref h), some (.int x1), some (.ref o), some (.ref q)]) C dL_unfold_12 rfl rfl rfl ?_
      refine z_iconst (v := iI 1) C dL_unfold_13 rfl ?_
      exact z_iret C hR dL_unfold_14 (Nat.le_of_ble_eq_true rfl) (Nat.le_of_ble_eq_true rfl) (Or.inr ⟨by rw [hcc], by omega, rfl⟩)
    · refine z_catch C hE hT (name := "java/lang/IllegalStateException") [⟨0, 9, 12, 13⟩] ⟨0, 9, 15, 20⟩ [] rfl (fun z hz => by rw [List.mem_singleton] at hz; subst hz; exact Or.inr ⟨by decide, "java/lang/IndexOutOfBoundsException", by decide +kernel, by decide +kernel⟩) (by decide) (by decide) (by decide +kernel) (by decide +kernel) (fun q => ?_)
      refine z_astore_n (i := 3) (lv' := [some (.ref h), some (.int x1), some (.ref o), some (.ref q)]) C dL_unfold_15 rfl rfl rfl ?_
      refine z_iconst (v := iI 2) C dL_unfold_16 rfl ?_
      exact z_iret C hR dL_unfold_17 (Nat.le_of_ble_eq_true rfl) (Nat.le_of_ble_eq_true rfl) (Or.inr ⟨by rw [hcc], by omega, rfl⟩)
    · exact absurd hcc hc3
  · obtain ⟨x, rfl⟩ := hpost _ _ hpo
    refine z_perm (ws' := [(o, lr cL 1 f)] ++ w1) (List.perm_append_singleton _ _) ?_
    refine (show zG E Q (0 + 3) (0 + 18) ([(o, lr cL 1 f)] ++ w1) [some (.ref h), some (.int x1), some (.ref o), none] 7 [.int x, .int (iI 0), .ref o] from ?_)
    refine z_i2l C dL_unfold_7 rfl ?_
    refine z_lastore (ws' := ([(o, lr cL 1 (zup f 0 (x.toInt64)))] ++ w1)) C 0 rfl (zT_of hE (t0 := 3) rfl) (by omega) (by omega) (by decide) rfl dL_unfold_8 ?_
    refine z_goto (tgt := 18) C dL_unfold_9 (by decide) ?_
    refine z_iconst (v := iI 0) C dL_unfold_18 rfl ?_
    exact z_iret C hR dL_unfold_19 (Nat.le_of_ble_eq_true rfl) (Nat.le_of_ble_eq_true rfl) (Or.inl ⟨x, w1, rfl, rfl, hpo⟩)
set_option maxHeartbeats 1000000 in
set_option maxRecDepth 100000 in
theorem h_use (l : Launch) (D : va_G) (cI cZ cM cL : ClassId) (h o : Nat) (G : va_W) (fs : List Value) (hG : G[0]? = some (h, .inr (4, fs))) (f : Int → Int64) (code : Int) (hc3 : ¬ code = 3) (x1 x2 : Int32) (postG : Option Value → va_W → Prop) (hpost : ∀ r w, postG r w → ∃ x : Int32, r = some (.int x)) (hM : zNX l yX4_use wsX4_use { frames := 7, cells := 3, slots := 18, locals := 111 } D (zTy cI cZ cM cL) [.ref h, .int x1, .int x2] G postG (pX code "java/lang/IndexOutOfBoundsException" "java/lang/IllegalArgumentException" "java/lang/IndexOutOfBoundsException") 3 18) : zN l yL_use wsL_use { frames := 8, cells := 3, slots := 18, locals := 134 } D (zTy cI cZ cM cL) [.ref h, .int x1, .int x2, .ref o] ([(o, lr cL 1 f)] ++ G) (fun r w => (∃ (x : Int32) (G1 : va_W), r = some (.int (iI 0)) ∧ w = [(o, lr cL 1 (zup f 0 (LZ true x)))] ++ G1 ∧ postG (some (.int x)) G1) ∨ (r = some (.int (iI code)) ∧ ¬ code = 0 ∧ w = [(o, lr cL 1 f)] ++ G)) 3 18 := by
  refine zNH_of (cc := cL_use) (maxL := 5) (hh := [(0, 17, 20, 13), (0, 17, 24, 15)]) (lv0 := [some (.ref h), some (.int x1), some (.int x2), some (.ref o), none]) (by decide) rfl rfl (Nat.le_of_ble_eq_true rfl) rfl ?_
  intro E Q C hE hR hT
  refine z_aload_n (i := 3) C dL_use_0 rfl rfl ?_
  refine z_iconst (v := iI 0) C dL_use_1 rfl ?_
  refine z_aload_n (i := 0) C dL_use_2 rfl rfl ?_
  refine z_iload_n (i := 1) C dL_use_3 rfl rfl ?_
  refine z_iload_n (i := 2) C dL_use_4 rfl rfl ?_
  refine z_callVx (n := 2) (As := [.int x1, .int x2]) (st := [.int (iI 0), .ref o]) (fr := [(o, lr cL 1 f)]) C hE hM gL_use_X4_use rfl ⟨rfl, rfl⟩ (by decide +kernel) ⟨Nat.le_of_ble_eq_true rfl, Nat.le_of_ble_eq_true rfl⟩ rfl rfl (List.perm_append_singleton _ _).symm 0 hG rfl rfl (Nat.le_of_ble_eq_true rfl) ⟨Nat.le_of_ble_eq_true rfl, Nat.le_of_ble_eq_true rfl⟩ dL_use_5 (fun Ex hpx => ?_) (fun r w1 hpo => ?_)
  · obtain ⟨hcc, rfl⟩ | ⟨hcc, rfl⟩ | ⟨hcc, rfl⟩ := hpx
    · refine z_catch C hE hT (name := "java/lang/IndexOutOfBoundsException") [] ⟨0, 17, 20, 13⟩ [⟨0, 17, 24, 15⟩] rfl (fun z hz => absurd hz List.not_mem_nil) (by decide) (by decide) (by decide +kernel) (by decide +kernel) (fun q => ?_)
      refine z_astore (lv' := [some (.ref h), some (.int x1), some (.int x2), some (.ref o), some (.ref q)]) C dL_use_20 rfl rfl ?_
      refine z_iconst (v := iI 1) C dL_use_22 rfl ?_
      exact z_iret C hR dL_use_23 (Nat.le_of_ble_eq_true rfl) (Nat.le_of_ble_eq_true rfl) (Or.inr ⟨by rw [hcc], by omega, rfl⟩)
    · refine z_catch C hE hT (name := "java/lang/IllegalArgumentException") [⟨0, 17, 20, 13⟩] ⟨0, 17, 24, 15⟩ [] rfl (fun z hz => by rw [List.mem_singleton] at hz; subst hz; exact Or.inr ⟨by decide, "java/lang/IndexOutOfBoundsException", by decide +kernel, by decide +kernel⟩) (by decide) (by decide) (by decide +kernel) (by decide +kernel) (fun q => ?_)
      refine z_astore (lv' := [some (.ref h), some (.int x1), some (.int x2), some (.ref o), some (.ref q)]) C dL_use_24 rfl rfl ?_
      refine z_iconst (v := iI 2) C dL_use_26 rfl ?_
      exact z_iret C hR dL_use_27 (Nat.le_of_ble_eq_true rfl) (Nat.le_of_ble_eq_true rfl) (Or.inr ⟨by rw [hcc], by omega, rfl⟩)
    · exact absurd hcc hc3
  · obtain ⟨x, rfl⟩ := hpost _ _ hpo
    refine z_perm (ws' := [(o, lr cL 1 f)] ++ w1) (List.perm_append_singleton _ _) ?_
    refine (show zG E Q (0 + 3) (0 + 18) ([(o, lr cL 1 f)] ++ w1) [some (.ref h), some (.int x1), some (.int x2), some (.ref o), none] 8 [.int x, .int (iI 0), .ref o] from ?_)
    refine z_if_eq (tgt := 15) C dL_use_8 (by decide) (fun hv => ?_) (fun hv => ?_)
    · refine z_lconst (v := 0) C dL_use_15 (by decide) ?_
      refine z_lastore (ws' := ([(o, lr cL 1 (zup f 0 (0)))] ++ w1)) C 0 rfl (zT_of hE (t0 := 3) rfl) (by omega) (by omega) (by decide) rfl dL_use_16 ?_
      refine z_goto (tgt := 28) C dL_use_17 (by decide) ?_
      refine z_iconst (v := iI 0) C dL_use_28 rfl ?_
      exact z_iret C hR dL_use_29 (Nat.le_of_ble_eq_true rfl) (Nat.le_of_ble_eq_true rfl) (Or.inl ⟨x, w1, rfl, by rw [show LZ true x = 0 by unfold LZ; rw [if_pos rfl, if_pos hv]], hpo⟩)
    · refine z_lconst (v := 1) C dL_use_11 (by decide) ?_
      refine z_goto (tgt := 16) C dL_use_12 (by decide) ?_
      refine z_lastore (ws' := ([(o, lr cL 1 (zup f 0 (1)))] ++ w1)) C 0 rfl (zT_of hE (t0 := 3) rfl) (by omega) (by omega) (by decide) rfl dL_use_16 ?_
      refine z_goto (tgt := 28) C dL_use_17 (by decide) ?_
      refine z_iconst (v := iI 0) C dL_use_28 rfl ?_
      exact z_iret C hR dL_use_29 (Nat.le_of_ble_eq_true rfl) (Nat.le_of_ble_eq_true rfl) (Or.inl ⟨x, w1, rfl, by rw [show LZ true x = 1 by unfold LZ; rw [if_pos rfl, if_neg hv]], hpo⟩)
set_option maxHeartbeats 1000000 in
set_option maxRecDepth 100000 in
theorem h_setRoll (l : Launch) (D : va_G) (cI cZ cM cL : ClassId) (h o : Nat) (G : va_W) (fs : List Value) (hG : G[0]? = some (h, .inr (4, fs))) (f : Int → Int64) (code : Int) (hc2 : ¬ code = 2) (hc3 : ¬ code = 3) (x1 x2 : Int32) (postG : Option Value → va_W → Prop) (hpost : ∀ r w, postG r w → ∃ x : Int32, r = some (.int x)) (hM : zNX l yX4_setRoll wsX4_setRoll { frames := 6, cells := 1, slots := 6, locals := 90 } D (zTy cI cZ cM cL) [.ref h, .int x1, .int x2] G postG (pX code "java/lang/IllegalArgumentException" "java/lang/IllegalArgumentException" "java/lang/IllegalArgumentException") 1 6) : zN l yL_setRoll wsL_setRoll { frames := 7, cells := 1, slots := 6, locals := 113 } D (zTy cI cZ cM cL) [.ref h, .int x1, .int x2, .ref o] ([(o, lr cL 1 f)] ++ G) (fun r w => (∃ (x : Int32) (G1 : va_W), r = some (.int (iI 0)) ∧ w = [(o, lr cL 1 (zup f 0 (LZ false x)))] ++ G1 ∧ postG (some (.int x)) G1) ∨ (r = some (.int (iI code)) ∧ ¬ code = 0 ∧ w = [(o, lr cL 1 f)] ++ G)) 1 6 := by
  refine zNH_of (cc := cL_setRoll) (maxL := 5) (hh := [(0, 10, 13, 15)]) (lv0 := [some (.ref h), some (.int x1), some (.int x2), some (.ref o), none]) (by decide) rfl rfl (Nat.le_of_ble_eq_true rfl) rfl ?_
  intro E Q C hE hR hT
  refine z_aload_n (i := 3) C dL_setRoll_0 rfl rfl ?_
  refine z_iconst (v := iI 0) C dL_setRoll_1 rfl ?_
  refine z_aload_n (i := 0) C dL_setRoll_2 rfl rfl ?_
  refine z_iload_n (i := 1) C dL_setRoll_3 rfl rfl ?_
  refine z_iload_n (i := 2) C dL_setRoll_4 rfl rfl ?_
  refine z_callVx (n := 2) (As := [.int x1, .int x2]) (st := [.int (iI 0), .ref o]) (fr := [(o, lr cL 1 f)]) C hE hM gL_setRoll_X4_setRoll rfl ⟨rfl, rfl⟩ (by decide +kernel) ⟨Nat.le_of_ble_eq_true rfl, Nat.le_of_ble_eq_true rfl⟩ rfl rfl (List.perm_append_singleton _ _).symm 0 hG rfl rfl (Nat.le_of_ble_eq_true rfl) ⟨Nat.le_of_ble_eq_true rfl, Nat.le_of_ble_eq_true rfl⟩ dL_setRoll_5 (fun Ex hpx => ?_) (fun r w1 hpo => ?_)
  · obtain ⟨hcc, rfl⟩ | ⟨hcc, rfl⟩ | ⟨hcc, rfl⟩ := hpx
    · refine z_catch C hE hT (name := "java/lang/IllegalArgumentException") [] ⟨0, 10, 13, 15⟩ [] rfl (fun z hz => absurd hz List.not_mem_nil) (by decide) (by decide) (by decide +kernel) (by decide +kernel) (fun q => ?_)
      refine z_astore (lv' := [some (.ref h), some (.int x1), some (.int x2), some (.ref o), some (.ref q)]) C dL_setRoll_13 rfl rfl ?_
      refine z_iconst (v := iI 1) C dL_setRoll_15 rfl ?_
      exact z_iret C hR dL_setRoll_16 (Nat.le_of_ble_eq_true rfl) (Nat.le_of_ble_eq_true rfl) (Or.inr ⟨by rw [hcc], by omega, rfl⟩)
    · exact absurd hcc hc2
    · exact absurd hcc hc3
  · obtain ⟨x, rfl⟩ := hpost _ _ hpo
    refine z_perm (ws' := [(o, lr cL 1 f)] ++ w1) (List.perm_append_singleton _ _) ?_
    refine (show zG E Q (0 + 1) (0 + 6) ([(o, lr cL 1 f)] ++ w1) [some (.ref h), some (.int x1), some (.int x2), some (.ref o), none] 8 [.int x, .int (iI 0), .ref o] from ?_)
    refine z_i2l C dL_setRoll_8 rfl ?_
    refine z_lastore (ws' := ([(o, lr cL 1 (zup f 0 (x.toInt64)))] ++ w1)) C 0 rfl (zT_of hE (t0 := 3) rfl) (by omega) (by omega) (by decide) rfl dL_setRoll_9 ?_
    refine z_goto (tgt := 17) C dL_setRoll_10 (by decide) ?_
    refine z_iconst (v := iI 0) C dL_setRoll_17 rfl ?_
    exact z_iret C hR dL_setRoll_18 (Nat.le_of_ble_eq_true rfl) (Nat.le_of_ble_eq_true rfl) (Or.inl ⟨x, w1, rfl, rfl, hpo⟩)
set_option maxHeartbeats 1000000 in
set_option maxRecDepth 100000 in
theorem h_teach (l : Launch) (D : va_G) (cI cZ cM cL : ClassId) (h o : Nat) (G : va_W) (fs : List Value) (hG : G[0]? = some (h, .inr (4, fs))) (f : Int → Int64) (code : Int) (hc3 : ¬ code = 3) (x1 x2 : Int32) (postG : Option Value → va_W → Prop) (hpost : ∀ r w, postG r w → ∃ x : Int32, r = some (.int x)) (hM : zNX l yX4_teach wsX4_teach { frames := 7, cells := 3, slots := 18, locals := 111 } D (zTy cI cZ cM cL) [.ref h, .int x1, .int x2] G postG (pX code "java/lang/IndexOutOfBoundsException" "java/lang/IllegalStateException" "java/lang/IndexOutOfBoundsException") 3 18) : zN l yL_teach wsL_teach { frames := 8, cells := 3, slots := 18, locals := 133 } D (zTy cI cZ cM cL) [.ref h, .int x1, .int x2, .ref o] ([(o, lr cL 1 f)] ++ G) (fun r w => (∃ (x : Int32) (G1 : va_W), r = some (.int (iI 0)) ∧ w = [(o, lr cL 1 (zup f 0 (LZ false x)))] ++ G1 ∧ postG (some (.int x)) G1) ∨ (r = some (.int (iI code)) ∧ ¬ code = 0 ∧ w = [(o, lr cL 1 f)] ++ G)) 3 18 := by
  refine zNH_of (cc := cL_teach) (maxL := 5) (hh := [(0, 10, 13, 13), (0, 10, 17, 20)]) (lv0 := [some (.ref h), some (.int x1), some (.int x2), some (.ref o), none]) (by decide) rfl rfl (Nat.le_of_ble_eq_true rfl) rfl ?_
  intro E Q C hE hR hT
  refine z_aload_n (i := 3) C dL_teach_0 rfl rfl ?_
  refine z_iconst (v := iI 0) C dL_teach_1 rfl ?_
  refine z_aload_n (i := 0) C dL_teach_2 rfl rfl ?_
  refine z_iload_n (i := 1) C dL_teach_3 rfl rfl ?_
  refine z_iload_n (i := 2) C dL_teach_4 rfl rfl ?_
  refine z_callVx (n := 2) (As := [.int x1, .int x2]) (st := [.int (iI 0), .ref o]) (fr := [(o, lr cL 1 f)]) C hE hM gL_teach_X4_teach rfl ⟨rfl, rfl⟩ (by decide +kernel) ⟨Nat.le_of_ble_eq_true rfl, Nat.le_of_ble_eq_true rfl⟩ rfl rfl (List.perm_append_singleton _ _).symm 0 hG rfl rfl (Nat.le_of_ble_eq_true rfl) ⟨Nat.le_of_ble_eq_true rfl, Nat.le_of_ble_eq_true rfl⟩ dL_teach_5 (fun Ex hpx => ?_) (fun r w1 hpo => ?_)
  · obtain ⟨hcc, rfl⟩ | ⟨hcc, rfl⟩ | ⟨hcc, rfl⟩ := hpx
    · refine z_catch C hE hT (name := "java/lang/IndexOutOfBoundsException") [] ⟨0, 10, 13, 13⟩ [⟨0, 10, 17, 20⟩] rfl (fun z hz => absurd hz List.not_mem_nil) (by decide) (by decide) (by decide +kernel) (by decide +kernel) (fun q => ?_)
      refine z_astore (lv' := [some (.ref h), some (.int x1), some (.int x2), some (.ref o), some (.ref q)]) C dL_teach_13 rfl rfl ?_
      refine z_iconst (v := iI 1) C dL_teach_15 rfl ?_
      exact z_iret C hR dL_teach_16 (Nat.le_of_ble_eq_true rfl) (Nat.le_of_ble_eq_true rfl) (Or.inr ⟨by rw [hcc], by omega, rfl⟩)
    · refine z_catch C hE hT (name := "java/lang/IllegalStateException") [⟨0, 10, 13, 13⟩] ⟨0, 10, 17, 20⟩ [] rfl (fun z hz => by rw [List.mem_singleton] at hz; subst hz; exact Or.inr ⟨by decide, "java/lang/IndexOutOfBoundsException", by decide +kernel, by decide +kernel⟩) (by decide) (by decide) (by decide +kernel) (by decide +kernel) (fun q => ?_)
      refine z_astore (lv' := [some (.ref h), some (.int x1), some (.int x2), some (.ref o), some (.ref q)]) C dL_teach_17 rfl rfl ?_
      refine z_iconst (v := iI 2) C dL_teach_19 rfl ?_
      exact z_iret C hR dL_teach_20 (Nat.le_of_ble_eq_true rfl) (Nat.le_of_ble_eq_true rfl) (Or.inr ⟨by rw [hcc], by omega, rfl⟩)
    · exact absurd hcc hc3
  · obtain ⟨x, rfl⟩ := hpost _ _ hpo
    refine z_perm (ws' := [(o, lr cL 1 f)] ++ w1) (List.perm_append_singleton _ _) ?_
    refine (show zG E Q (0 + 3) (0 + 18) ([(o, lr cL 1 f)] ++ w1) [some (.ref h), some (.int x1), some (.int x2), some (.ref o), none] 8 [.int x, .int (iI 0), .ref o] from ?_)
    refine z_i2l C dL_teach_8 rfl ?_
    refine z_lastore (ws' := ([(o, lr cL 1 (zup f 0 (x.toInt64)))] ++ w1)) C 0 rfl (zT_of hE (t0 := 3) rfl) (by omega) (by omega) (by decide) rfl dL_teach_9 ?_
    refine z_goto (tgt := 21) C dL_teach_10 (by decide) ?_
    refine z_iconst (v := iI 0) C dL_teach_21 rfl ?_
    exact z_iret C hR dL_teach_22 (Nat.le_of_ble_eq_true rfl) (Nat.le_of_ble_eq_true rfl) (Or.inl ⟨x, w1, rfl, rfl, hpo⟩)
set_option maxHeartbeats 1000000 in
set_option maxRecDepth 100000 in
theorem h_steps (l : Launch) (D : va_G) (cI cZ cM cL : ClassId) (h o : Nat) (G : va_W) (fs : List Value) (hG : G[0]? = some (h, .inr (4, fs))) (f : Int → Int64) (code : Int) (hc2 : ¬ code = 2) (hc3 : ¬ code = 3) (x1 : Int32) (postG : Option Value → va_W → Prop) (hpost : ∀ r w, postG r w → ∃ x : Int32, r = some (.int x)) (hM : zNX l yX4_steps wsX4_steps { frames := 8, cells := 2, slots := 12, locals := 133 } D (zTy cI cZ cM cL) [.ref h, .int x1] G postG (pX code "java/lang/IndexOutOfBoundsException" "java/lang/IndexOutOfBoundsException" "java/lang/IndexOutOfBoundsException") 2 12) : zN l yL_steps wsL_steps { frames := 9, cells := 2, slots := 12, locals := 154 } D (zTy cI cZ cM cL) [.ref h, .int x1, .ref o] ([(o, lr cL 1 f)] ++ G) (fun r w => (∃ (x : Int32) (G1 : va_W), r = some (.int (iI 0)) ∧ w = [(o, lr cL 1 (zup f 0 (LZ false x)))] ++ G1 ∧ postG (some (.int x)) G1) ∨ (r = some (.int (iI code)) ∧ ¬ code = 0 ∧ w = [(o, lr cL 1 f)] ++ G)) 2 12 := by
  refine zNH_of (cc := cL_steps) (maxL := 4) (hh := [(0, 9, 12, 13)]) (lv0 := [some (.ref h), some (.int x1), some (.ref o), none]) (by decide) rfl rfl (Nat.le_of_ble_eq_true rfl) rfl ?_
  intro E Q C hE hR hT
  refine z_aload_n (i := 2) C dL_steps_0 rfl rfl ?_
  refine z_iconst (v := iI 0) C dL_steps_1 rfl ?_
  refine z_aload_n (i := 0) C dL_steps_2 rfl rfl ?_
  refine z_iload_n (i := 1) C dL_steps_3 rfl rfl ?_
  refine z_callVx (n := 1) (As := [.int x1]) (st := [.int (iI 0), .ref o]) (fr := [(o, lr cL 1 f)]) C hE hM gL_steps_X4_steps rfl ⟨rfl, rfl⟩ (by decide +kernel) ⟨Nat.le_of_ble_eq_true rfl, Nat.le_of_ble_eq_true rfl⟩ rfl rfl (List.perm_append_singleton _ _).symm 0 hG rfl rfl (Nat.le_of_ble_eq_true rfl) ⟨Nat.le_of_ble_eq_true rfl, Nat.le_of_ble_eq_true rfl⟩ dL_steps_4 (fun Ex hpx => ?_) (fun r w1 hpo => ?_)
  · obtain ⟨hcc, rfl⟩ | ⟨hcc, rfl⟩ | ⟨hcc, rfl⟩ := hpx
    · refine z_catch C hE hT (name := "java/lang/IndexOutOfBoundsException") [] ⟨0, 9, 12, 13⟩ [] rfl (fun z hz => absurd hz List.not_mem_nil) (by decide) (by decide) (by decide +kernel) (by decide +kernel) (fun q => ?_)
      refine z_astore_n (i := 3) (lv' := [some (.ref h), some (.int x1), some (.ref o), some (.ref q)]) C dL_steps_12 rfl rfl rfl ?_
      refine z_iconst (v := iI 1) C dL_steps_13 rfl ?_
      exact z_iret C hR dL_steps_14 (Nat.le_of_ble_eq_true rfl) (Nat.le_of_ble_eq_true rfl) (Or.inr ⟨by rw [hcc], by omega, rfl⟩)
    · exact absurd hcc hc2
    · exact absurd hcc hc3
  · obtain ⟨x, rfl⟩ := hpost _ _ hpo
    refine z_perm (ws' := [(o, lr cL 1 f)] ++ w1) (List.perm_append_singleton _ _) ?_
    refine (show zG E Q (0 + 2) (0 + 12) ([(o, lr cL 1 f)] ++ w1) [some (.ref h), some (.int x1), some (.ref o), none] 7 [.int x, .int (iI 0), .ref o] from ?_)
    refine z_i2l C dL_steps_7 rfl ?_
    refine z_lastore (ws' := ([(o, lr cL 1 (zup f 0 (x.toInt64)))] ++ w1)) C 0 rfl (zT_of hE (t0 := 3) rfl) (by omega) (by omega) (by decide) rfl dL_steps_8 ?_
    refine z_goto (tgt := 15) C dL_steps_9 (by decide) ?_
    refine z_iconst (v := iI 0) C dL_steps_15 rfl ?_
    exact z_iret C hR dL_steps_16 (Nat.le_of_ble_eq_true rfl) (Nat.le_of_ble_eq_true rfl) (Or.inl ⟨x, w1, rfl, rfl, hpo⟩)
set_option maxHeartbeats 1000000 in
set_option maxRecDepth 100000 in
theorem h_places (l : Launch) (D : va_G) (cI cZ cM cL : ClassId) (h o : Nat) (G : va_W) (fs : List Value) (hG : G[0]? = some (h, .inr (4, fs))) (f : Int → Int64) (code : Int) (hc2 : ¬ code = 2) (hc3 : ¬ code = 3) (x1 : Int32) (postG : Option Value → va_W → Prop) (hpost : ∀ r w, postG r w → ∃ x : Int32, r = some (.int x)) (hM : zNX l yX4_places wsX4_places { frames := 8, cells := 2, slots := 12, locals := 133 } D (zTy cI cZ cM cL) [.ref h, .int x1] G postG (pX code "java/lang/IndexOutOfBoundsException" "java/lang/IndexOutOfBoundsException" "java/lang/IndexOutOfBoundsException") 2 12) : zN l yL_places wsL_places { frames := 9, cells := 2, slots := 12, locals := 154 } D (zTy cI cZ cM cL) [.ref h, .int x1, .ref o] ([(o, lr cL 1 f)] ++ G) (fun r w => (∃ (x : Int32) (G1 : va_W), r = some (.int (iI 0)) ∧ w = [(o, lr cL 1 (zup f 0 (LZ false x)))] ++ G1 ∧ postG (some (.int x)) G1) ∨ (r = some (.int (iI code)) ∧ ¬ code = 0 ∧ w = [(o, lr cL 1 f)] ++ G)) 2 12 := by
  refine zNH_of (cc := cL_places) (maxL := 4) (hh := [(0, 9, 12, 13)]) (lv0 := [some (.ref h), some (.int x1), some (.ref o), none]) (by decide) rfl rfl (Nat.le_of_ble_eq_true rfl) rfl ?_
  intro E Q C hE hR hT
  refine z_aload_n (i := 2) C dL_places_0 rfl rfl ?_
  refine z_iconst (v := iI 0) C dL_places_1 rfl ?_
  refine z_aload_n (i := 0) C dL_places_2 rfl rfl ?_
  refine z_iload_n (i := 1) C dL_places_3 rfl rfl ?_
  refine z_callVx (n := 1) (As := [.int x1]) (st := [.int (iI 0), .ref o]) (fr := [(o, lr cL 1 f)]) C hE hM gL_places_X4_places rfl ⟨rfl, rfl⟩ (by decide +kernel) ⟨Nat.le_of_ble_eq_true rfl, Nat.le_of_ble_eq_true rfl⟩ rfl rfl (List.perm_append_singleton _ _).symm 0 hG rfl rfl (Nat.le_of_ble_eq_true rfl) ⟨Nat.le_of_ble_eq_true rfl, Nat.le_of_ble_eq_true rfl⟩ dL_places_4 (fun Ex hpx => ?_) (fun r w1 hpo => ?_)
  · obtain ⟨hcc, rfl⟩ | ⟨hcc, rfl⟩ | ⟨hcc, rfl⟩ := hpx
    · refine z_catch C hE hT (name := "java/lang/IndexOutOfBoundsException") [] ⟨0, 9, 12, 13⟩ [] rfl (fun z hz => absurd hz List.not_mem_nil) (by decide) (by decide) (by decide +kernel) (by decide +kernel) (fun q => ?_)
      refine z_astore_n (i := 3) (lv' := [some (.ref h), some (.int x1), some (.ref o), some (.ref q)]) C dL_places_12 rfl rfl rfl ?_
      refine z_iconst (v := iI 1) C dL_places_13 rfl ?_
      exact z_iret C hR dL_places_14 (Nat.le_of_ble_eq_true rfl) (Nat.le_of_ble_eq_true rfl) (Or.inr ⟨by rw [hcc], by omega, rfl⟩)
    · exact absurd hcc hc2
    · exact absurd hcc hc3
  · obtain ⟨x, rfl⟩ := hpost _ _ hpo
    refine z_perm (ws' := [(o, lr cL 1 f)] ++ w1) (List.perm_append_singleton _ _) ?_
    refine (show zG E Q (0 + 2) (0 + 12) ([(o, lr cL 1 f)] ++ w1) [some (.ref h), some (.int x1), some (.ref o), none] 7 [.int x, .int (iI 0), .ref o] from ?_)
    refine z_i2l C dL_places_7 rfl ?_
    refine z_lastore (ws' := ([(o, lr cL 1 (zup f 0 (x.toInt64)))] ++ w1)) C 0 rfl (zT_of hE (t0 := 3) rfl) (by omega) (by omega) (by decide) rfl dL_places_8 ?_
    refine z_goto (tgt := 15) C dL_places_9 (by decide) ?_
    refine z_iconst (v := iI 0) C dL_places_15 rfl ?_
    exact z_iret C hR dL_places_16 (Nat.le_of_ble_eq_true rfl) (Nat.le_of_ble_eq_true rfl) (Or.inl ⟨x, w1, rfl, rfl, hpo⟩)
set_option maxHeartbeats 1000000 in
set_option maxRecDepth 100000 in
theorem h_layers (l : Launch) (D : va_G) (cI cZ cM cL : ClassId) (h o : Nat) (G : va_W) (fs : List Value) (hG : G[0]? = some (h, .inr (4, fs))) (f : Int → Int64) (code : Int) (hc2 : ¬ code = 2) (hc3 : ¬ code = 3) (x1 : Int32) (postG : Option Value → va_W → Prop) (hpost : ∀ r w, postG r w → ∃ x : Int32, r = some (.int x)) (hM : zNX l yX4_layers wsX4_layers { frames := 8, cells := 2, slots := 12, locals := 133 } D (zTy cI cZ cM cL) [.ref h, .int x1] G postG (pX code "java/lang/IndexOutOfBoundsException" "java/lang/IndexOutOfBoundsException" "java/lang/IndexOutOfBoundsException") 2 12) : zN l yL_layers wsL_layers { frames := 9, cells := 2, slots := 12, locals := 154 } D (zTy cI cZ cM cL) [.ref h, .int x1, .ref o] ([(o, lr cL 1 f)] ++ G) (fun r w => (∃ (x : Int32) (G1 : va_W), r = some (.int (iI 0)) ∧ w = [(o, lr cL 1 (zup f 0 (LZ false x)))] ++ G1 ∧ postG (some (.int x)) G1) ∨ (r = some (.int (iI code)) ∧ ¬ code = 0 ∧ w = [(o, lr cL 1 f)] ++ G)) 2 12 := by
  refine zNH_of (cc := cL_layers) (maxL := 4) (hh := [(0, 9, 12, 13)]) (lv0 := [some (.ref h), some (.int x1), some (.ref o), none]) (by decide) rfl rfl (Nat.le_of_ble_eq_true rfl) rfl ?_
  intro E Q C hE hR hT
  refine z_aload_n (i := 2) C dL_layers_0 rfl rfl ?_
  refine z_iconst (v := iI 0) C dL_layers_1 rfl ?_
  refine z_aload_n (i := 0) C dL_layers_2 rfl rfl ?_
  refine z_iload_n (i := 1) C dL_layers_3 rfl rfl ?_
  refine z_callVx (n := 1) (As := [.int x1]) (st := [.int (iI 0), .ref o]) (fr := [(o, lr cL 1 f)]) C hE hM gL_layers_X4_layers rfl ⟨rfl, rfl⟩ (by decide +kernel) ⟨Nat.le_of_ble_eq_true rfl, Nat.le_of_ble_eq_true rfl⟩ rfl rfl (List.perm_append_singleton _ _).symm 0 hG rfl rfl (Nat.le_of_ble_eq_true rfl) ⟨Nat.le_of_ble_eq_true rfl, Nat.le_of_ble_eq_true rfl⟩ dL_layers_4 (fun Ex hpx => ?_) (fun r w1 hpo => ?_)
  · obtain ⟨hcc, rfl⟩ | ⟨hcc, rfl⟩ | ⟨hcc, rfl⟩ := hpx
    · refine z_catch C hE hT (name := "java/lang/IndexOutOfBoundsException") [] ⟨0, 9, 12, 13⟩ [] rfl (fun z hz => absurd hz List.not_mem_nil) (by decide) (by decide) (by decide +kernel) (by decide +kernel) (fun q => ?_)
      refine z_astore_n (i := 3) (lv' := [some (.ref h), some (.int x1), some (.ref o), some (.ref q)]) C dL_layers_12 rfl rfl rfl ?_
      refine z_iconst (v := iI 1) C dL_layers_13 rfl ?_
      exact z_iret C hR dL_layers_14 (Nat.le_of_ble_eq_true rfl) (Nat.le_of_ble_eq_true rfl) (Or.inr ⟨by rw [hcc], by omega, rfl⟩)
    · exact absurd hcc hc2
    · exact absurd hcc hc3
  · obtain ⟨x, rfl⟩ := hpost _ _ hpo
    refine z_perm (ws' := [(o, lr cL 1 f)] ++ w1) (List.perm_append_singleton _ _) ?_
    refine (show zG E Q (0 + 2) (0 + 12) ([(o, lr cL 1 f)] ++ w1) [some (.ref h), some (.int x1), some (.ref o), none] 7 [.int x, .int (iI 0), .ref o] from ?_)
    refine z_i2l C dL_layers_7 rfl ?_
    refine z_lastore (ws' := ([(o, lr cL 1 (zup f 0 (x.toInt64)))] ++ w1)) C 0 rfl (zT_of hE (t0 := 3) rfl) (by omega) (by omega) (by decide) rfl dL_layers_8 ?_
    refine z_goto (tgt := 15) C dL_layers_9 (by decide) ?_
    refine z_iconst (v := iI 0) C dL_layers_15 rfl ?_
    exact z_iret C hR dL_layers_16 (Nat.le_of_ble_eq_true rfl) (Nat.le_of_ble_eq_true rfl) (Or.inl ⟨x, w1, rfl, rfl, hpo⟩)
set_option maxHeartbeats 1000000 in
set_option maxRecDepth 100000 in
theorem h_cellAt (l : Launch) (D : va_G) (cI cZ cM cL : ClassId) (h o : Nat) (G : va_W) (fs : List Value) (hG : G[0]? = some (h, .inr (4, fs))) (f : Int → Int64) (code : Int) (hc2 : ¬ code = 2) (hc3 : ¬ code = 3) (x1 x2 x3 : Int32) (postG : Option Value → va_W → Prop) (hpost : ∀ r w, postG r w → ∃ x : Int32, r = some (.int x)) (hM : zNX l yX4_cellAt wsX4_cellAt { frames := 8, cells := 3, slots := 18, locals := 133 } D (zTy cI cZ cM cL) [.ref h, .int x1, .int x2, .int x3] G postG (pX code "java/lang/IndexOutOfBoundsException" "java/lang/IndexOutOfBoundsException" "java/lang/IndexOutOfBoundsException") 3 18) : zN l yL_cellAt wsL_cellAt { frames := 9, cells := 3, slots := 18, locals := 157 } D (zTy cI cZ cM cL) [.ref h, .int x1, .int x2, .int x3, .ref o] ([(o, lr cL 1 f)] ++ G) (fun r w => (∃ (x : Int32) (G1 : va_W), r = some (.int (iI 0)) ∧ w = [(o, lr cL 1 (zup f 0 (LZ false x)))] ++ G1 ∧ postG (some (.int x)) G1) ∨ (r = some (.int (iI code)) ∧ ¬ code = 0 ∧ w = [(o, lr cL 1 f)] ++ G)) 3 18 := by
  refine zNH_of (cc := cL_cellAt) (maxL := 6) (hh := [(0, 12, 15, 13)]) (lv0 := [some (.ref h), some (.int x1), some (.int x2), some (.int x3), some (.ref o), none]) (by decide) rfl rfl (Nat.le_of_ble_eq_true rfl) rfl ?_
  intro E Q C hE hR hT
  refine z_aload C dL_cellAt_0 rfl ?_
  refine z_iconst (v := iI 0) C dL_cellAt_2 rfl ?_
  refine z_aload_n (i := 0) C dL_cellAt_3 rfl rfl ?_
  refine z_iload_n (i := 1) C dL_cellAt_4 rfl rfl ?_
  refine z_iload_n (i := 2) C dL_cellAt_5 rfl rfl ?_
  refine z_iload_n (i := 3) C dL_cellAt_6 rfl rfl ?_
  refine z_callVx (n := 3) (As := [.int x1, .int x2, .int x3]) (st := [.int (iI 0), .ref o]) (fr := [(o, lr cL 1 f)]) C hE hM gL_cellAt_X4_cellAt rfl ⟨rfl, rfl⟩ (by decide +kernel) ⟨Nat.le_of_ble_eq_true rfl, Nat.le_of_ble_eq_true rfl⟩ rfl rfl (List.perm_append_singleton _ _).symm 0 hG rfl rfl (Nat.le_of_ble_eq_true rfl) ⟨Nat.le_of_ble_eq_true rfl, Nat.le_of_ble_eq_true rfl⟩ dL_cellAt_7 (fun Ex hpx => ?_) (fun r w1 hpo => ?_)
  · obtain ⟨hcc, rfl⟩ | ⟨hcc, rfl⟩ | ⟨hcc, rfl⟩ := hpx
    · refine z_catch C hE hT (name := "java/lang/IndexOutOfBoundsException") [] ⟨0, 12, 15, 13⟩ [] rfl (fun z hz => absurd hz List.not_mem_nil) (by decide) (by decide) (by decide +kernel) (by decide +kernel) (fun q => ?_)
      refine z_astore (lv' := [some (.ref h), some (.int x1), some (.int x2), some (.int x3), some (.ref o), some (.ref q)]) C dL_cellAt_15 rfl rfl ?_
      refine z_iconst (v := iI 1) C dL_cellAt_17 rfl ?_
      exact z_iret C hR dL_cellAt_18 (Nat.le_of_ble_eq_true rfl) (Nat.le_of_ble_eq_true rfl) (Or.inr ⟨by rw [hcc], by omega, rfl⟩)
    · exact absurd hcc hc2
    · exact absurd hcc hc3
  · obtain ⟨x, rfl⟩ := hpost _ _ hpo
    refine z_perm (ws' := [(o, lr cL 1 f)] ++ w1) (List.perm_append_singleton _ _) ?_
    refine (show zG E Q (0 + 3) (0 + 18) ([(o, lr cL 1 f)] ++ w1) [some (.ref h), some (.int x1), some (.int x2), some (.int x3), some (.ref o), none] 10 [.int x, .int (iI 0), .ref o] from ?_)
    refine z_i2l C dL_cellAt_10 rfl ?_
    refine z_lastore (ws' := ([(o, lr cL 1 (zup f 0 (x.toInt64)))] ++ w1)) C 0 rfl (zT_of hE (t0 := 3) rfl) (by omega) (by omega) (by decide) rfl dL_cellAt_11 ?_
    refine z_goto (tgt := 19) C dL_cellAt_12 (by decide) ?_
    refine z_iconst (v := iI 0) C dL_cellAt_19 rfl ?_
    exact z_iret C hR dL_cellAt_20 (Nat.le_of_ble_eq_true rfl) (Nat.le_of_ble_eq_true rfl) (Or.inl ⟨x, w1, rfl, rfl, hpo⟩)
set_option maxHeartbeats 1000000 in
set_option maxRecDepth 100000 in
theorem h_placeOf (l : Launch) (D : va_G) (cI cZ cM cL : ClassId) (h o : Nat) (G : va_W) (fs : List Value) (hG : G[0]? = some (h, .inr (4, fs))) (f : Int → Int64) (code : Int) (hc2 : ¬ code = 2) (hc3 : ¬ code = 3) (x1 x2 : Int32) (postG : Option Value → va_W → Prop) (hpost : ∀ r w, postG r w → ∃ x : Int32, r = some (.int x)) (hM : zNX l yX4_placeOf wsX4_placeOf { frames := 8, cells := 3, slots := 18, locals := 133 } D (zTy cI cZ cM cL) [.ref h, .int x1, .int x2] G postG (pX code "java/lang/IndexOutOfBoundsException" "java/lang/IndexOutOfBoundsException" "java/lang/IndexOutOfBoundsException") 3 18) : zN l yL_placeOf wsL_placeOf { frames := 9, cells := 3, slots := 18, locals := 156 } D (zTy cI cZ cM cL) [.ref h, .int x1, .int x2, .ref o] ([(o, lr cL 1 f)] ++ G) (fun r w => (∃ (x : Int32) (G1 : va_W), r = some (.int (iI 0)) ∧ w = [(o, lr cL 1 (zup f 0 (LZ false x)))] ++ G1 ∧ postG (some (.int x)) G1) ∨ (r = some (.int (iI code)) ∧ ¬ code = 0 ∧ w = [(o, lr cL 1 f)] ++ G)) 3 18 := by
  refine zNH_of (cc := cL_placeOf) (maxL := 5) (hh := [(0, 10, 13, 13)]) (lv0 := [some (.ref h), some (.int x1), some (.int x2), some (.ref o), none]) (by decide) rfl rfl (Nat.le_of_ble_eq_true rfl) rfl ?_
  intro E Q C hE hR hT
  refine z_aload_n (i := 3) C dL_placeOf_0 rfl rfl ?_
  refine z_iconst (v := iI 0) C dL_placeOf_1 rfl ?_
  refine z_aload_n (i := 0) C dL_placeOf_2 rfl rfl ?_
  refine z_iload_n (i := 1) C dL_placeOf_3 rfl rfl ?_
  refine z_iload_n (i := 2) C dL_placeOf_4 rfl rfl ?_
  refine z_callVx (n := 2) (As := [.int x1, .int x2]) (st := [.int (iI 0), .ref o]) (fr := [(o, lr cL 1 f)]) C hE hM gL_placeOf_X4_placeOf rfl ⟨rfl, rfl⟩ (by decide +kernel) ⟨Nat.le_of_ble_eq_true rfl, Nat.le_of_ble_eq_true rfl⟩ rfl rfl (List.perm_append_singleton _ _).symm 0 hG rfl rfl (Nat.le_of_ble_eq_true rfl) ⟨Nat.le_of_ble_eq_true rfl, Nat.le_of_ble_eq_true rfl⟩ dL_placeOf_5 (fun Ex hpx => ?_) (fun r w1 hpo => ?_)
  · obtain ⟨hcc, rfl⟩ | ⟨hcc, rfl⟩ | ⟨hcc, rfl⟩ := hpx
    · refine z_catch C hE hT (name := "java/lang/IndexOutOfBoundsException") [] ⟨0, 10, 13, 13⟩ [] rfl (fun z hz => absurd hz List.not_mem_nil) (by decide) (by decide) (by decide +kernel) (by decide +kernel) (fun q => ?_)
      refine z_astore (lv' := [some (.ref h), some (.int x1), some (.int x2), some (.ref o), some (.ref q)]) C dL_placeOf_13 rfl rfl ?_
      refine z_iconst (v := iI 1) C dL_placeOf_15 rfl ?_
      exact z_iret C hR dL_placeOf_16 (Nat.le_of_ble_eq_true rfl) (Nat.le_of_ble_eq_true rfl) (Or.inr ⟨by rw [hcc], by omega, rfl⟩)
    · exact absurd hcc hc2
    · exact absurd hcc hc3
  · obtain ⟨x, rfl⟩ := hpost _ _ hpo
    refine z_perm (ws' := [(o, lr cL 1 f)] ++ w1) (List.perm_append_singleton _ _) ?_
    refine (show zG E Q (0 + 3) (0 + 18) ([(o, lr cL 1 f)] ++ w1) [some (.ref h), some (.int x1), some (.int x2), some (.ref o), none] 8 [.int x, .int (iI 0), .ref o] from ?_)
    refine z_i2l C dL_placeOf_8 rfl ?_
    refine z_lastore (ws' := ([(o, lr cL 1 (zup f 0 (x.toInt64)))] ++ w1)) C 0 rfl (zT_of hE (t0 := 3) rfl) (by omega) (by omega) (by decide) rfl dL_placeOf_9 ?_
    refine z_goto (tgt := 17) C dL_placeOf_10 (by decide) ?_
    refine z_iconst (v := iI 0) C dL_placeOf_17 rfl ?_
    exact z_iret C hR dL_placeOf_18 (Nat.le_of_ble_eq_true rfl) (Nat.le_of_ble_eq_true rfl) (Or.inl ⟨x, w1, rfl, rfl, hpo⟩)
set_option maxHeartbeats 1000000 in
set_option maxRecDepth 100000 in
theorem h_isTurned (l : Launch) (D : va_G) (cI cZ cM cL : ClassId) (h o : Nat) (G : va_W) (fs : List Value) (hG : G[0]? = some (h, .inr (4, fs))) (f : Int → Int64) (code : Int) (hc2 : ¬ code = 2) (hc3 : ¬ code = 3) (x1 x2 : Int32) (postG : Option Value → va_W → Prop) (hpost : ∀ r w, postG r w → ∃ x : Int32, r = some (.int x)) (hM : zNX l yX4_isTurned wsX4_isTurned { frames := 8, cells := 3, slots := 18, locals := 133 } D (zTy cI cZ cM cL) [.ref h, .int x1, .int x2] G postG (pX code "java/lang/IndexOutOfBoundsException" "java/lang/IndexOutOfBoundsException" "java/lang/IndexOutOfBoundsException") 3 18) : zN l yL_isTurned wsL_isTurned { frames := 9, cells := 3, slots := 18, locals := 156 } D (zTy cI cZ cM cL) [.ref h, .int x1, .int x2, .ref o] ([(o, lr cL 1 f)] ++ G) (fun r w => (∃ (x : Int32) (G1 : va_W), r = some (.int (iI 0)) ∧ w = [(o, lr cL 1 (zup f 0 (LZ true x)))] ++ G1 ∧ postG (some (.int x)) G1) ∨ (r = some (.int (iI code)) ∧ ¬ code = 0 ∧ w = [(o, lr cL 1 f)] ++ G)) 3 18 := by
  refine zNH_of (cc := cL_isTurned) (maxL := 5) (hh := [(0, 17, 20, 13)]) (lv0 := [some (.ref h), some (.int x1), some (.int x2), some (.ref o), none]) (by decide) rfl rfl (Nat.le_of_ble_eq_true rfl) rfl ?_
  intro E Q C hE hR hT
  refine z_aload_n (i := 3) C dL_isTurned_0 rfl rfl ?_
  refine z_iconst (v := iI 0) C dL_isTurned_1 rfl ?_
  refine z_aload_n (i := 0) C dL_isTurned_2 rfl rfl ?_
  refine z_iload_n (i := 1) C dL_isTurned_3 rfl rfl ?_
  refine z_iload_n (i := 2) C dL_isTurned_4 rfl rfl ?_
  refine z_callVx (n := 2) (As := [.int x1, .int x2]) (st := [.int (iI 0), .ref o]) (fr := [(o, lr cL 1 f)]) C hE hM gL_isTurned_X4_isTurned rfl ⟨rfl, rfl⟩ (by decide +kernel) ⟨Nat.le_of_ble_eq_true rfl, Nat.le_of_ble_eq_true rfl⟩ rfl rfl (List.perm_append_singleton _ _).symm 0 hG rfl rfl (Nat.le_of_ble_eq_true rfl) ⟨Nat.le_of_ble_eq_true rfl, Nat.le_of_ble_eq_true rfl⟩ dL_isTurned_5 (fun Ex hpx => ?_) (fun r w1 hpo => ?_)
  · obtain ⟨hcc, rfl⟩ | ⟨hcc, rfl⟩ | ⟨hcc, rfl⟩ := hpx
    · refine z_catch C hE hT (name := "java/lang/IndexOutOfBoundsException") [] ⟨0, 17, 20, 13⟩ [] rfl (fun z hz => absurd hz List.not_mem_nil) (by decide) (by decide) (by decide +kernel) (by decide +kernel) (fun q => ?_)
      refine z_astore (lv' := [some (.ref h), some (.int x1), some (.int x2), some (.ref o), some (.ref q)]) C dL_isTurned_20 rfl rfl ?_
      refine z_iconst (v := iI 1) C dL_isTurned_22 rfl ?_
      exact z_iret C hR dL_isTurned_23 (Nat.le_of_ble_eq_true rfl) (Nat.le_of_ble_eq_true rfl) (Or.inr ⟨by rw [hcc], by omega, rfl⟩)
    · exact absurd hcc hc2
    · exact absurd hcc hc3
  · obtain ⟨x, rfl⟩ := hpost _ _ hpo
    refine z_perm (ws' := [(o, lr cL 1 f)] ++ w1) (List.perm_append_singleton _ _) ?_
    refine (show zG E Q (0 + 3) (0 + 18) ([(o, lr cL 1 f)] ++ w1) [some (.ref h), some (.int x1), some (.int x2), some (.ref o), none] 8 [.int x, .int (iI 0), .ref o] from ?_)
    refine z_if_eq (tgt := 15) C dL_isTurned_8 (by decide) (fun hv => ?_) (fun hv => ?_)
    · refine z_lconst (v := 0) C dL_isTurned_15 (by decide) ?_
      refine z_lastore (ws' := ([(o, lr cL 1 (zup f 0 (0)))] ++ w1)) C 0 rfl (zT_of hE (t0 := 3) rfl) (by omega) (by omega) (by decide) rfl dL_isTurned_16 ?_
      refine z_goto (tgt := 24) C dL_isTurned_17 (by decide) ?_
      refine z_iconst (v := iI 0) C dL_isTurned_24 rfl ?_
      exact z_iret C hR dL_isTurned_25 (Nat.le_of_ble_eq_true rfl) (Nat.le_of_ble_eq_true rfl) (Or.inl ⟨x, w1, rfl, by rw [show LZ true x = 0 by unfold LZ; rw [if_pos rfl, if_pos hv]], hpo⟩)
    · refine z_lconst (v := 1) C dL_isTurned_11 (by decide) ?_
      refine z_goto (tgt := 16) C dL_isTurned_12 (by decide) ?_
      refine z_lastore (ws' := ([(o, lr cL 1 (zup f 0 (1)))] ++ w1)) C 0 rfl (zT_of hE (t0 := 3) rfl) (by omega) (by omega) (by decide) rfl dL_isTurned_16 ?_
      refine z_goto (tgt := 24) C dL_isTurned_17 (by decide) ?_
      refine z_iconst (v := iI 0) C dL_isTurned_24 rfl ?_
      exact z_iret C hR dL_isTurned_25 (Nat.le_of_ble_eq_true rfl) (Nat.le_of_ble_eq_true rfl) (Or.inl ⟨x, w1, rfl, by rw [show LZ true x = 1 by unfold LZ; rw [if_pos rfl, if_neg hv]], hpo⟩)
set_option maxHeartbeats 1000000 in
set_option maxRecDepth 100000 in
theorem h_layersByFollowing (l : Launch) (D : va_G) (cI cZ cM cL : ClassId) (h o : Nat) (G : va_W) (fs : List Value) (hG : G[0]? = some (h, .inr (4, fs))) (f : Int → Int64) (code : Int) (hc2 : ¬ code = 2) (hc3 : ¬ code = 3) (x1 : Int32) (postG : Option Value → va_W → Prop) (hpost : ∀ r w, postG r w → ∃ x : Int32, r = some (.int x)) (hM : zNX l yX4_layersByFollowing wsX4_layersByFollowing { frames := 8, cells := 2, slots := 12, locals := 133 } D (zTy cI cZ cM cL) [.ref h, .int x1] G postG (pX code "java/lang/IndexOutOfBoundsException" "java/lang/IndexOutOfBoundsException" "java/lang/IndexOutOfBoundsException") 2 12) : zN l yL_layersByFollowing wsL_layersByFollowing { frames := 9, cells := 2, slots := 12, locals := 158 } D (zTy cI cZ cM cL) [.ref h, .int x1, .ref o] ([(o, lr cL 1 f)] ++ G) (fun r w => (∃ (x : Int32) (G1 : va_W), r = some (.int (iI 0)) ∧ w = [(o, lr cL 1 (zup f 0 (LZ false x)))] ++ G1 ∧ postG (some (.int x)) G1) ∨ (r = some (.int (iI code)) ∧ ¬ code = 0 ∧ w = [(o, lr cL 1 f)] ++ G)) 2 12 := by
  refine zNH_of (cc := cL_layersByFollowing) (maxL := 4) (hh := [(0, 9, 12, 13)]) (lv0 := [some (.ref h), some (.int x1), some (.ref o), none]) (by decide) rfl rfl (Nat.le_of_ble_eq_true rfl) rfl ?_
  intro E Q C hE hR hT
  refine z_aload_n (i := 2) C dL_layersByFollowing_0 rfl rfl ?_
  refine z_iconst (v := iI 0) C dL_layersByFollowing_1 rfl ?_
  refine z_aload_n (i := 0) C dL_layersByFollowing_2 rfl rfl ?_
  refine z_iload_n (i := 1) C dL_layersByFollowing_3 rfl rfl ?_
  refine z_callVx (n := 1) (As := [.int x1]) (st := [.int (iI 0), .ref o]) (fr := [(o, lr cL 1 f)]) C hE hM gL_layersByFollowing_X4_layersByFollowing rfl ⟨rfl, rfl⟩ (by decide +kernel) ⟨Nat.le_of_ble_eq_true rfl, Nat.le_of_ble_eq_true rfl⟩ rfl rfl (List.perm_append_singleton _ _).symm 0 hG rfl rfl (Nat.le_of_ble_eq_true rfl) ⟨Nat.le_of_ble_eq_true rfl, Nat.le_of_ble_eq_true rfl⟩ dL_layersByFollowing_4 (fun Ex hpx => ?_) (fun r w1 hpo => ?_)
  · obtain ⟨hcc, rfl⟩ | ⟨hcc, rfl⟩ | ⟨hcc, rfl⟩ := hpx
    · refine z_catch C hE hT (name := "java/lang/IndexOutOfBoundsException") [] ⟨0, 9, 12, 13⟩ [] rfl (fun z hz => absurd hz List.not_mem_nil) (by decide) (by decide) (by decide +kernel) (by decide +kernel) (fun q => ?_)
      refine z_astore_n (i := 3) (lv' := [some (.ref h), some (.int x1), some (.ref o), some (.ref q)]) C dL_layersByFollowing_12 rfl rfl rfl ?_
      refine z_iconst (v := iI 1) C dL_layersByFollowing_13 rfl ?_
      exact z_iret C hR dL_layersByFollowing_14 (Nat.le_of_ble_eq_true rfl) (Nat.le_of_ble_eq_true rfl) (Or.inr ⟨by rw [hcc], by omega, rfl⟩)
    · exact absurd hcc hc2
    · exact absurd hcc hc3
  · obtain ⟨x, rfl⟩ := hpost _ _ hpo
    refine z_perm (ws' := [(o, lr cL 1 f)] ++ w1) (List.perm_append_singleton _ _) ?_
    refine (show zG E Q (0 + 2) (0 + 12) ([(o, lr cL 1 f)] ++ w1) [some (.ref h), some (.int x1), some (.ref o), none] 7 [.int x, .int (iI 0), .ref o] from ?_)
    refine z_i2l C dL_layersByFollowing_7 rfl ?_
    refine z_lastore (ws' := ([(o, lr cL 1 (zup f 0 (x.toInt64)))] ++ w1)) C 0 rfl (zT_of hE (t0 := 3) rfl) (by omega) (by omega) (by decide) rfl dL_layersByFollowing_8 ?_
    refine z_goto (tgt := 15) C dL_layersByFollowing_9 (by decide) ?_
    refine z_iconst (v := iI 0) C dL_layersByFollowing_15 rfl ?_
    exact z_iret C hR dL_layersByFollowing_16 (Nat.le_of_ble_eq_true rfl) (Nat.le_of_ble_eq_true rfl) (Or.inl ⟨x, w1, rfl, rfl, hpo⟩)
set_option maxHeartbeats 1000000 in
set_option maxRecDepth 100000 in
theorem h_bears (l : Launch) (D : va_G) (cI cZ cM cL : ClassId) (h o : Nat) (G : va_W) (fs : List Value) (hG : G[0]? = some (h, .inr (4, fs))) (f : Int → Int64) (code : Int) (hc3 : ¬ code = 3) (x1 x2 : Int32) (postG : Option Value → va_W → Prop) (hpost : ∀ r w, postG r w → ∃ x : Int32, r = some (.int x)) (hM : zNX l yX4_bears wsX4_bears { frames := 8, cells := 3, slots := 18, locals := 133 } D (zTy cI cZ cM cL) [.ref h, .int x1, .int x2] G postG (pX code "java/lang/IndexOutOfBoundsException" "java/lang/IllegalArgumentException" "java/lang/IndexOutOfBoundsException") 3 18) : zN l yL_bears wsL_bears { frames := 9, cells := 3, slots := 18, locals := 157 } D (zTy cI cZ cM cL) [.ref h, .int x1, .int x2, .ref o] ([(o, lr cL 1 f)] ++ G) (fun r w => (∃ (x : Int32) (G1 : va_W), r = some (.int (iI 0)) ∧ w = [(o, lr cL 1 (zup f 0 (LZ true x)))] ++ G1 ∧ postG (some (.int x)) G1) ∨ (r = some (.int (iI code)) ∧ ¬ code = 0 ∧ w = [(o, lr cL 1 f)] ++ G)) 3 18 := by
  refine zNH_of (cc := cL_bears) (maxL := 5) (hh := [(0, 17, 20, 13), (0, 17, 24, 15)]) (lv0 := [some (.ref h), some (.int x1), some (.int x2), some (.ref o), none]) (by decide) rfl rfl (Nat.le_of_ble_eq_true rfl) rfl ?_
  intro E Q C hE hR hT
  refine z_aload_n (i := 3) C dL_bears_0 rfl rfl ?_
  refine z_iconst (v := iI 0) C dL_bears_1 rfl ?_
  refine z_aload_n (i := 0) C dL_bears_2 rfl rfl ?_
  refine z_iload_n (i := 1) C dL_bears_3 rfl rfl ?_
  refine z_iload_n (i := 2) C dL_bears_4 rfl rfl ?_
  refine z_callVx (n := 2) (As := [.int x1, .int x2]) (st := [.int (iI 0), .ref o]) (fr := [(o, lr cL 1 f)]) C hE hM gL_bears_X4_bears rfl ⟨rfl, rfl⟩ (by decide +kernel) ⟨Nat.le_of_ble_eq_true rfl, Nat.le_of_ble_eq_true rfl⟩ rfl rfl (List.perm_append_singleton _ _).symm 0 hG rfl rfl (Nat.le_of_ble_eq_true rfl) ⟨Nat.le_of_ble_eq_true rfl, Nat.le_of_ble_eq_true rfl⟩ dL_bears_5 (fun Ex hpx => ?_) (fun r w1 hpo => ?_)
  · obtain ⟨hcc, rfl⟩ | ⟨hcc, rfl⟩ | ⟨hcc, rfl⟩ := hpx
    · refine z_catch C hE hT (name := "java/lang/IndexOutOfBoundsException") [] ⟨0, 17, 20, 13⟩ [⟨0, 17, 24, 15⟩] rfl (fun z hz => absurd hz List.not_mem_nil) (by decide) (by decide) (by decide +kernel) (by decide +kernel) (fun q => ?_)
      refine z_astore (lv' := [some (.ref h), some (.int x1), some (.int x2), some (.ref o), some (.ref q)]) C dL_bears_20 rfl rfl ?_
      refine z_iconst (v := iI 1) C dL_bears_22 rfl ?_
      exact z_iret C hR dL_bears_23 (Nat.le_of_ble_eq_true rfl) (Nat.le_of_ble_eq_true rfl) (Or.inr ⟨by rw [hcc], by omega, rfl⟩)
    · refine z_catch C hE hT (name := "java/lang/IllegalArgumentException") [⟨0, 17, 20, 13⟩] ⟨0, 17, 24, 15⟩ [] rfl (fun z hz => by rw [List.mem_singleton] at hz; subst hz; exact Or.inr ⟨by decide, "java/lang/IndexOutOfBoundsException", by decide +kernel, by decide +kernel⟩) (by decide) (by decide) (by decide +kernel) (by decide +kernel) (fun q => ?_)
      refine z_astore (lv' := [some (.ref h), some (.int x1), some (.int x2), some (.ref o), some (.ref q)]) C dL_bears_24 rfl rfl ?_
      refine z_iconst (v := iI 2) C dL_bears_26 rfl ?_
      exact z_iret C hR dL_bears_27 (Nat.le_of_ble_eq_true rfl) (Nat.le_of_ble_eq_true rfl) (Or.inr ⟨by rw [hcc], by omega, rfl⟩)
    · exact absurd hcc hc3
  · obtain ⟨x, rfl⟩ := hpost _ _ hpo
    refine z_perm (ws' := [(o, lr cL 1 f)] ++ w1) (List.perm_append_singleton _ _) ?_
    refine (show zG E Q (0 + 3) (0 + 18) ([(o, lr cL 1 f)] ++ w1) [some (.ref h), some (.int x1), some (.int x2), some (.ref o), none] 8 [.int x, .int (iI 0), .ref o] from ?_)
    refine z_if_eq (tgt := 15) C dL_bears_8 (by decide) (fun hv => ?_) (fun hv => ?_)
    · refine z_lconst (v := 0) C dL_bears_15 (by decide) ?_
      refine z_lastore (ws' := ([(o, lr cL 1 (zup f 0 (0)))] ++ w1)) C 0 rfl (zT_of hE (t0 := 3) rfl) (by omega) (by omega) (by decide) rfl dL_bears_16 ?_
      refine z_goto (tgt := 28) C dL_bears_17 (by decide) ?_
      refine z_iconst (v := iI 0) C dL_bears_28 rfl ?_
      exact z_iret C hR dL_bears_29 (Nat.le_of_ble_eq_true rfl) (Nat.le_of_ble_eq_true rfl) (Or.inl ⟨x, w1, rfl, by rw [show LZ true x = 0 by unfold LZ; rw [if_pos rfl, if_pos hv]], hpo⟩)
    · refine z_lconst (v := 1) C dL_bears_11 (by decide) ?_
      refine z_goto (tgt := 16) C dL_bears_12 (by decide) ?_
      refine z_lastore (ws' := ([(o, lr cL 1 (zup f 0 (1)))] ++ w1)) C 0 rfl (zT_of hE (t0 := 3) rfl) (by omega) (by omega) (by decide) rfl dL_bears_16 ?_
      refine z_goto (tgt := 28) C dL_bears_17 (by decide) ?_
      refine z_iconst (v := iI 0) C dL_bears_28 rfl ?_
      exact z_iret C hR dL_bears_29 (Nat.le_of_ble_eq_true rfl) (Nat.le_of_ble_eq_true rfl) (Or.inl ⟨x, w1, rfl, by rw [show LZ true x = 1 by unfold LZ; rw [if_pos rfl, if_neg hv]], hpo⟩)
set_option maxHeartbeats 1000000 in
set_option maxRecDepth 100000 in
theorem h_kindsOf (l : Launch) (D : va_G) (cI cZ cM cL : ClassId) (h o : Nat) (G : va_W) (fs : List Value) (hG : G[0]? = some (h, .inr (4, fs))) (f : Int → Int64) (code : Int) (hc2 : ¬ code = 2) (hc3 : ¬ code = 3) (x1 : Int32) (postG : Option Value → va_W → Prop) (hpost : ∀ r w, postG r w → ∃ x : Int32, r = some (.int x)) (hM : zNX l yX4_kindsOf wsX4_kindsOf { frames := 9, cells := 17, slots := 102, locals := 157 } D (zTy cI cZ cM cL) [.ref h, .int x1] G postG (pX code "java/lang/IndexOutOfBoundsException" "java/lang/IndexOutOfBoundsException" "java/lang/IndexOutOfBoundsException") 17 102) : zN l yL_kindsOf wsL_kindsOf { frames := 10, cells := 17, slots := 102, locals := 178 } D (zTy cI cZ cM cL) [.ref h, .int x1, .ref o] ([(o, lr cL 1 f)] ++ G) (fun r w => (∃ (x : Int32) (G1 : va_W), r = some (.int (iI 0)) ∧ w = [(o, lr cL 1 (zup f 0 (LZ false x)))] ++ G1 ∧ postG (some (.int x)) G1) ∨ (r = some (.int (iI code)) ∧ ¬ code = 0 ∧ w = [(o, lr cL 1 f)] ++ G)) 17 102 := by
  refine zNH_of (cc := cL_kindsOf) (maxL := 4) (hh := [(0, 9, 12, 13)]) (lv0 := [some (.ref h), some (.int x1), some (.ref o), none]) (by decide) rfl rfl (Nat.le_of_ble_eq_true rfl) rfl ?_
  intro E Q C hE hR hT
  refine z_aload_n (i := 2) C dL_kindsOf_0 rfl rfl ?_
  refine z_iconst (v := iI 0) C dL_kindsOf_1 rfl ?_
  refine z_aload_n (i := 0) C dL_kindsOf_2 rfl rfl ?_
  refine z_iload_n (i := 1) C dL_kindsOf_3 rfl rfl ?_
  refine z_callVx (n := 1) (As := [.int x1]) (st := [.int (iI 0), .ref o]) (fr := [(o, lr cL 1 f)]) C hE hM gL_kindsOf_X4_kindsOf rfl ⟨rfl, rfl⟩ (by decide +kernel) ⟨Nat.le_of_ble_eq_true rfl, Nat.le_of_ble_eq_true rfl⟩ rfl rfl (List.perm_append_singleton _ _).symm 0 hG rfl rfl (Nat.le_of_ble_eq_true rfl) ⟨Nat.le_of_ble_eq_true rfl, Nat.le_of_ble_eq_true rfl⟩ dL_kindsOf_4 (fun Ex hpx => ?_) (fun r w1 hpo => ?_)
  · obtain ⟨hcc, rfl⟩ | ⟨hcc, rfl⟩ | ⟨hcc, rfl⟩ := hpx
    · refine z_catch C hE hT (name := "java/lang/IndexOutOfBoundsException") [] ⟨0, 9, 12, 13⟩ [] rfl (fun z hz => absurd hz List.not_mem_nil) (by decide) (by decide) (by decide +kernel) (by decide +kernel) (fun q => ?_)
      refine z_astore_n (i := 3) (lv' := [some (.ref h), some (.int x1), some (.ref o), some (.ref q)]) C dL_kindsOf_12 rfl rfl rfl ?_
      refine z_iconst (v := iI 1) C dL_kindsOf_13 rfl ?_
      exact z_iret C hR dL_kindsOf_14 (Nat.le_of_ble_eq_true rfl) (Nat.le_of_ble_eq_true rfl) (Or.inr ⟨by rw [hcc], by omega, rfl⟩)
    · exact absurd hcc hc2
    · exact absurd hcc hc3
  · obtain ⟨x, rfl⟩ := hpost _ _ hpo
    refine z_perm (ws' := [(o, lr cL 1 f)] ++ w1) (List.perm_append_singleton _ _) ?_
    refine (show zG E Q (0 + 17) (0 + 102) ([(o, lr cL 1 f)] ++ w1) [some (.ref h), some (.int x1), some (.ref o), none] 7 [.int x, .int (iI 0), .ref o] from ?_)
    refine z_i2l C dL_kindsOf_7 rfl ?_
    refine z_lastore (ws' := ([(o, lr cL 1 (zup f 0 (x.toInt64)))] ++ w1)) C 0 rfl (zT_of hE (t0 := 3) rfl) (by omega) (by omega) (by decide) rfl dL_kindsOf_8 ?_
    refine z_goto (tgt := 15) C dL_kindsOf_9 (by decide) ?_
    refine z_iconst (v := iI 0) C dL_kindsOf_15 rfl ?_
    exact z_iret C hR dL_kindsOf_16 (Nat.le_of_ble_eq_true rfl) (Nat.le_of_ble_eq_true rfl) (Or.inl ⟨x, w1, rfl, rfl, hpo⟩)
set_option maxHeartbeats 1000000 in
set_option maxRecDepth 100000 in
theorem h_mayFold (l : Launch) (D : va_G) (cI cZ cM cL : ClassId) (h o : Nat) (G : va_W) (fs : List Value) (hG : G[0]? = some (h, .inr (4, fs))) (f : Int → Int64) (code : Int) (hc2 : ¬ code = 2) (hc3 : ¬ code = 3) (x1 x2 : Int32) (postG : Option Value → va_W → Prop) (hpost : ∀ r w, postG r w → ∃ x : Int32, r = some (.int x)) (hM : zNX l yX4_mayFold wsX4_mayFold { frames := 9, cells := 18, slots := 108, locals := 157 } D (zTy cI cZ cM cL) [.ref h, .int x1, .int x2] G postG (pX code "java/lang/IndexOutOfBoundsException" "java/lang/IndexOutOfBoundsException" "java/lang/IndexOutOfBoundsException") 18 108) : zN l yL_mayFold wsL_mayFold { frames := 10, cells := 18, slots := 108, locals := 179 } D (zTy cI cZ cM cL) [.ref h, .int x1, .int x2, .ref o] ([(o, lr cL 1 f)] ++ G) (fun r w => (∃ (x : Int32) (G1 : va_W), r = some (.int (iI 0)) ∧ w = [(o, lr cL 1 (zup f 0 (LZ true x)))] ++ G1 ∧ postG (some (.int x)) G1) ∨ (r = some (.int (iI code)) ∧ ¬ code = 0 ∧ w = [(o, lr cL 1 f)] ++ G)) 18 108 := by
  refine zNH_of (cc := cL_mayFold) (maxL := 5) (hh := [(0, 17, 20, 13)]) (lv0 := [some (.ref h), some (.int x1), some (.int x2), some (.ref o), none]) (by decide) rfl rfl (Nat.le_of_ble_eq_true rfl) rfl ?_
  intro E Q C hE hR hT
  refine z_aload_n (i := 3) C dL_mayFold_0 rfl rfl ?_
  refine z_iconst (v := iI 0) C dL_mayFold_1 rfl ?_
  refine z_aload_n (i := 0) C dL_mayFold_2 rfl rfl ?_
  refine z_iload_n (i := 1) C dL_mayFold_3 rfl rfl ?_
  refine z_iload_n (i := 2) C dL_mayFold_4 rfl rfl ?_
  refine z_callVx (n := 2) (As := [.int x1, .int x2]) (st := [.int (iI 0), .ref o]) (fr := [(o, lr cL 1 f)]) C hE hM gL_mayFold_X4_mayFold rfl ⟨rfl, rfl⟩ (by decide +kernel) ⟨Nat.le_of_ble_eq_true rfl, Nat.le_of_ble_eq_true rfl⟩ rfl rfl (List.perm_append_singleton _ _).symm 0 hG rfl rfl (Nat.le_of_ble_eq_true rfl) ⟨Nat.le_of_ble_eq_true rfl, Nat.le_of_ble_eq_true rfl⟩ dL_mayFold_5 (fun Ex hpx => ?_) (fun r w1 hpo => ?_)
  · obtain ⟨hcc, rfl⟩ | ⟨hcc, rfl⟩ | ⟨hcc, rfl⟩ := hpx
    · refine z_catch C hE hT (name := "java/lang/IndexOutOfBoundsException") [] ⟨0, 17, 20, 13⟩ [] rfl (fun z hz => absurd hz List.not_mem_nil) (by decide) (by decide) (by decide +kernel) (by decide +kernel) (fun q => ?_)
      refine z_astore (lv' := [some (.ref h), some (.int x1), some (.int x2), some (.ref o), some (.ref q)]) C dL_mayFold_20 rfl rfl ?_
      refine z_iconst (v := iI 1) C dL_mayFold_22 rfl ?_
      exact z_iret C hR dL_mayFold_23 (Nat.le_of_ble_eq_true rfl) (Nat.le_of_ble_eq_true rfl) (Or.inr ⟨by rw [hcc], by omega, rfl⟩)
    · exact absurd hcc hc2
    · exact absurd hcc hc3
  · obtain ⟨x, rfl⟩ := hpost _ _ hpo
    refine z_perm (ws' := [(o, lr cL 1 f)] ++ w1) (List.perm_append_singleton _ _) ?_
    refine (show zG E Q (0 + 18) (0 + 108) ([(o, lr cL 1 f)] ++ w1) [some (.ref h), some (.int x1), some (.int x2), some (.ref o), none] 8 [.int x, .int (iI 0), .ref o] from ?_)
    refine z_if_eq (tgt := 15) C dL_mayFold_8 (by decide) (fun hv => ?_) (fun hv => ?_)
    · refine z_lconst (v := 0) C dL_mayFold_15 (by decide) ?_
      refine z_lastore (ws' := ([(o, lr cL 1 (zup f 0 (0)))] ++ w1)) C 0 rfl (zT_of hE (t0 := 3) rfl) (by omega) (by omega) (by decide) rfl dL_mayFold_16 ?_
      refine z_goto (tgt := 24) C dL_mayFold_17 (by decide) ?_
      refine z_iconst (v := iI 0) C dL_mayFold_24 rfl ?_
      exact z_iret C hR dL_mayFold_25 (Nat.le_of_ble_eq_true rfl) (Nat.le_of_ble_eq_true rfl) (Or.inl ⟨x, w1, rfl, by rw [show LZ true x = 0 by unfold LZ; rw [if_pos rfl, if_pos hv]], hpo⟩)
    · refine z_lconst (v := 1) C dL_mayFold_11 (by decide) ?_
      refine z_goto (tgt := 16) C dL_mayFold_12 (by decide) ?_
      refine z_lastore (ws' := ([(o, lr cL 1 (zup f 0 (1)))] ++ w1)) C 0 rfl (zT_of hE (t0 := 3) rfl) (by omega) (by omega) (by decide) rfl dL_mayFold_16 ?_
      refine z_goto (tgt := 24) C dL_mayFold_17 (by decide) ?_
      refine z_iconst (v := iI 0) C dL_mayFold_24 rfl ?_
      exact z_iret C hR dL_mayFold_25 (Nat.le_of_ble_eq_true rfl) (Nat.le_of_ble_eq_true rfl) (Or.inl ⟨x, w1, rfl, by rw [show LZ true x = 1 by unfold LZ; rw [if_pos rfl, if_neg hv]], hpo⟩)
set_option maxHeartbeats 1000000 in
set_option maxRecDepth 100000 in
theorem h_lessons (l : Launch) (D : va_G) (cI cZ cM cL : ClassId) (h o : Nat) (G : va_W) (fs : List Value) (hG : G[0]? = some (h, .inr (4, fs))) (f : Int → Int64) (code : Int) (hc2 : ¬ code = 2) (hc3 : ¬ code = 3) (x1 x2 : Int32) (postG : Option Value → va_W → Prop) (hpost : ∀ r w, postG r w → ∃ x : Int32, r = some (.int x)) (hM : zNX l yX4_lessons wsX4_lessons { frames := 9, cells := 18, slots := 108, locals := 157 } D (zTy cI cZ cM cL) [.ref h, .int x1, .int x2] G postG (pX code "java/lang/IndexOutOfBoundsException" "java/lang/IndexOutOfBoundsException" "java/lang/IndexOutOfBoundsException") 18 108) : zN l yL_lessons wsL_lessons { frames := 10, cells := 18, slots := 108, locals := 180 } D (zTy cI cZ cM cL) [.ref h, .int x1, .int x2, .ref o] ([(o, lr cL 1 f)] ++ G) (fun r w => (∃ (x : Int32) (G1 : va_W), r = some (.int (iI 0)) ∧ w = [(o, lr cL 1 (zup f 0 (LZ false x)))] ++ G1 ∧ postG (some (.int x)) G1) ∨ (r = some (.int (iI code)) ∧ ¬ code = 0 ∧ w = [(o, lr cL 1 f)] ++ G)) 18 108 := by
  refine zNH_of (cc := cL_lessons) (maxL := 5) (hh := [(0, 10, 13, 13)]) (lv0 := [some (.ref h), some (.int x1), some (.int x2), some (.ref o), none]) (by decide) rfl rfl (Nat.le_of_ble_eq_true rfl) rfl ?_
  intro E Q C hE hR hT
  refine z_aload_n (i := 3) C dL_lessons_0 rfl rfl ?_
  refine z_iconst (v := iI 0) C dL_lessons_1 rfl ?_
  refine z_aload_n (i := 0) C dL_lessons_2 rfl rfl ?_
  refine z_iload_n (i := 1) C dL_lessons_3 rfl rfl ?_
  refine z_iload_n (i := 2) C dL_lessons_4 rfl rfl ?_
  refine z_callVx (n := 2) (As := [.int x1, .int x2]) (st := [.int (iI 0), .ref o]) (fr := [(o, lr cL 1 f)]) C hE hM gL_lessons_X4_lessons rfl ⟨rfl, rfl⟩ (by decide +kernel) ⟨Nat.le_of_ble_eq_true rfl, Nat.le_of_ble_eq_true rfl⟩ rfl rfl (List.perm_append_singleton _ _).symm 0 hG rfl rfl (Nat.le_of_ble_eq_true rfl) ⟨Nat.le_of_ble_eq_true rfl, Nat.le_of_ble_eq_true rfl⟩ dL_lessons_5 (fun Ex hpx => ?_) (fun r w1 hpo => ?_)
  · obtain ⟨hcc, rfl⟩ | ⟨hcc, rfl⟩ | ⟨hcc, rfl⟩ := hpx
    · refine z_catch C hE hT (name := "java/lang/IndexOutOfBoundsException") [] ⟨0, 10, 13, 13⟩ [] rfl (fun z hz => absurd hz List.not_mem_nil) (by decide) (by decide) (by decide +kernel) (by decide +kernel) (fun q => ?_)
      refine z_astore (lv' := [some (.ref h), some (.int x1), some (.int x2), some (.ref o), some (.ref q)]) C dL_lessons_13 rfl rfl ?_
      refine z_iconst (v := iI 1) C dL_lessons_15 rfl ?_
      exact z_iret C hR dL_lessons_16 (Nat.le_of_ble_eq_true rfl) (Nat.le_of_ble_eq_true rfl) (Or.inr ⟨by rw [hcc], by omega, rfl⟩)
    · exact absurd hcc hc2
    · exact absurd hcc hc3
  · obtain ⟨x, rfl⟩ := hpost _ _ hpo
    refine z_perm (ws' := [(o, lr cL 1 f)] ++ w1) (List.perm_append_singleton _ _) ?_
    refine (show zG E Q (0 + 18) (0 + 108) ([(o, lr cL 1 f)] ++ w1) [some (.ref h), some (.int x1), some (.int x2), some (.ref o), none] 8 [.int x, .int (iI 0), .ref o] from ?_)
    refine z_i2l C dL_lessons_8 rfl ?_
    refine z_lastore (ws' := ([(o, lr cL 1 (zup f 0 (x.toInt64)))] ++ w1)) C 0 rfl (zT_of hE (t0 := 3) rfl) (by omega) (by omega) (by decide) rfl dL_lessons_9 ?_
    refine z_goto (tgt := 17) C dL_lessons_10 (by decide) ?_
    refine z_iconst (v := iI 0) C dL_lessons_17 rfl ?_
    exact z_iret C hR dL_lessons_18 (Nat.le_of_ble_eq_true rfl) (Nat.le_of_ble_eq_true rfl) (Or.inl ⟨x, w1, rfl, rfl, hpo⟩)
set_option maxHeartbeats 1000000 in
set_option maxRecDepth 100000 in
theorem h_credit (l : Launch) (D : va_G) (cI cZ cM cL : ClassId) (h o : Nat) (G : va_W) (fs : List Value) (hG : G[0]? = some (h, .inr (4, fs))) (f : Int → Int64) (code : Int) (hc2 : ¬ code = 2) (hc3 : ¬ code = 3) (x1 : Int32) (postG : Option Value → va_W → Prop) (hpost : ∀ r w, postG r w → ∃ x : Int32, r = some (.int x)) (hM : zNX l yX4_credit wsX4_credit { frames := 9, cells := 17, slots := 102, locals := 156 } D (zTy cI cZ cM cL) [.ref h, .int x1] G postG (pX code "java/lang/IndexOutOfBoundsException" "java/lang/IndexOutOfBoundsException" "java/lang/IndexOutOfBoundsException") 17 102) : zN l yL_credit wsL_credit { frames := 10, cells := 17, slots := 102, locals := 180 } D (zTy cI cZ cM cL) [.ref h, .int x1, .ref o] ([(o, lr cL 1 f)] ++ G) (fun r w => (∃ (x : Int32) (G1 : va_W), r = some (.int (iI 0)) ∧ w = [(o, lr cL 1 (zup f 0 (LZ false x)))] ++ G1 ∧ postG (some (.int x)) G1) ∨ (r = some (.int (iI code)) ∧ ¬ code = 0 ∧ w = [(o, lr cL 1 f)] ++ G)) 17 102 := by
  refine zNH_of (cc := cL_credit) (maxL := 4) (hh := [(0, 9, 12, 13)]) (lv0 := [some (.ref h), some (.int x1), some (.ref o), none]) (by decide) rfl rfl (Nat.le_of_ble_eq_true rfl) rfl ?_
  intro E Q C hE hR hT
  refine z_aload_n (i := 2) C dL_credit_0 rfl rfl ?_
  refine z_iconst (v := iI 0) C dL_credit_1 rfl ?_
  refine z_aload_n (i := 0) C dL_credit_2 rfl rfl ?_
  refine z_iload_n (i := 1) C dL_credit_3 rfl rfl ?_
  refine z_callVx (n := 1) (As := [.int x1]) (st := [.int (iI 0), .ref o]) (fr := [(o, lr cL 1 f)]) C hE hM gL_credit_X4_credit rfl ⟨rfl, rfl⟩ (by decide +kernel) ⟨Nat.le_of_ble_eq_true rfl, Nat.le_of_ble_eq_true rfl⟩ rfl rfl (List.perm_append_singleton _ _).symm 0 hG rfl rfl (Nat.le_of_ble_eq_true rfl) ⟨Nat.le_of_ble_eq_true rfl, Nat.le_of_ble_eq_true rfl⟩ dL_credit_4 (fun Ex hpx => ?_) (fun r w1 hpo => ?_)
  · obtain ⟨hcc, rfl⟩ | ⟨hcc, rfl⟩ | ⟨hcc, rfl⟩ := hpx
    · refine z_catch C hE hT (name := "java/lang/IndexOutOfBoundsException") [] ⟨0, 9, 12, 13⟩ [] rfl (fun z hz => absurd hz List.not_mem_nil) (by decide) (by decide) (by decide +kernel) (by decide +kernel) (fun q => ?_)
      refine z_astore_n (i := 3) (lv' := [some (.ref h), some (.int x1), some (.ref o), some (.ref q)]) C dL_credit_12 rfl rfl rfl ?_
      refine z_iconst (v := iI 1) C dL_credit_13 rfl ?_
      exact z_iret C hR dL_credit_14 (Nat.le_of_ble_eq_true rfl) (Nat.le_of_ble_eq_true rfl) (Or.inr ⟨by rw [hcc], by omega, rfl⟩)
    · exact absurd hcc hc2
    · exact absurd hcc hc3
  · obtain ⟨x, rfl⟩ := hpost _ _ hpo
    refine z_perm (ws' := [(o, lr cL 1 f)] ++ w1) (List.perm_append_singleton _ _) ?_
    refine (show zG E Q (0 + 17) (0 + 102) ([(o, lr cL 1 f)] ++ w1) [some (.ref h), some (.int x1), some (.ref o), none] 7 [.int x, .int (iI 0), .ref o] from ?_)
    refine z_i2l C dL_credit_7 rfl ?_
    refine z_lastore (ws' := ([(o, lr cL 1 (zup f 0 (x.toInt64)))] ++ w1)) C 0 rfl (zT_of hE (t0 := 3) rfl) (by omega) (by omega) (by decide) rfl dL_credit_8 ?_
    refine z_goto (tgt := 15) C dL_credit_9 (by decide) ?_
    refine z_iconst (v := iI 0) C dL_credit_15 rfl ?_
    exact z_iret C hR dL_credit_16 (Nat.le_of_ble_eq_true rfl) (Nat.le_of_ble_eq_true rfl) (Or.inl ⟨x, w1, rfl, rfl, hpo⟩)
