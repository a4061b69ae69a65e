/-! THE STACKS, further walks. -/
theorem hi_X3_copyUpwards_X3 : ∀ w ∈ wsX30, w ∈ wsX3_copyUpwards := by decide +kernel
set_option maxHeartbeats 1000000 in
set_option maxRecDepth 100000 in
theorem k_copyUp (l : Launch) (D : va_G) (cI cZ cM cL : ClassId) (a c s nc ns : Nat) (CC SS NC NS : Int → Int) (fl sp : Int) (p : Int) (hp : -1000 ≤ p ∧ p ≤ 1000) (hW : stW sp SS) (hf : 0 ≤ fl ∧ fl + hgt sp SS p ≤ 32) : zN l yX3_copyUpwards wsX3_copyUpwards { frames := 4, cells := 0, slots := 0, locals := 86 } D (zTy cI cZ cM cL) [.ref a, .int (iI p)] (skW cI a c s nc ns CC SS NC NS fl sp) (fun r w => r = none ∧ w = (skW cI a c s nc ns CC SS (cpU NC fl (hgt sp SS p) (fun i => CC (SS p + i))) NS (fl + (hgt sp SS p)) sp)) 0 0 := by
  refine zN_of (cc := cX3_copyUpwards) (maxL := 3) (lv0 := [some (.ref a), some (.int (iI p)), none]) (by decide) rfl rfl (Nat.le_of_ble_eq_true rfl) rfl ?_
  intro E Q C hE hR hI0
  have hg0 := hW.hgt0 p
  have hg1 := hW.hgt32 p
  have hsp0 := hW.1
  have hsp1 := hW.2.1
  have hbR : 0 ≤ b2 (0 ≤ p ∧ p < sp) ∧ b2 (0 ≤ p ∧ p < sp) ≤ 1 := by unfold b2; split <;> omega
  refine (show zG E Q 0 0 [(a, .inr (3, [.ref c, .ref s, .ref nc, .ref ns, .int (iI fl), .int (iI sp)])), (c, ai cI 32 CC), (s, ai cI 33 SS), (nc, ai cI 32 NC), (ns, ai cI 33 NS)] [some (.ref a), some (.int (iI p)), none] 0 [] from ?_)
  have lp : ∀ (n : Nat) (k : Int), (0 ≤ p ∧ p < sp) → 0 ≤ k → k ≤ (hgt sp SS p) → (hgt sp SS p) - k < n → zG E Q (0) (0) [(a, .inr (3, [.ref c, .ref s, .ref nc, .ref ns, .int (iI (fl + k)), .int (iI sp)])), (c, ai cI 32 CC), (s, ai cI 33 SS), (nc, ai cI 32 (cpU NC fl k (fun i => CC (SS p + i)))), (ns, ai cI 33 NS)] [some (.ref a), some (.int (iI p)), some (.int (iI (SS p + k)))] 15 [] := by
    intro n
    induction n with
    | zero => intro k hin hk0 hk1 hkn; omega
    | succ n ih =>
      intro k hin hk0 hk1 hkn
      have hs0 := hW.1
      have hs1 := hW.2.1
      have h1 := hW.2.2.2.1 p (by omega) (by omega)
      have h2 := hW.2.2.2.1 (p + 1) (by omega) (by omega)
      have hh : hgt sp SS p = SS (p + 1) - SS p := by unfold hgt; rw [if_pos hin]
      refine z_iload_n (i := 2) C dX3_copyUpwards_15 rfl rfl ?_
      refine z_aload_n (i := 0) C dX3_copyUpwards_16 rfl rfl ?_
      refine z_get (ci := 3) C (hi_X3_copyUpwards_X3) 0 rfl rfl 1 (by decide) (by decide +kernel) rfl dX3_copyUpwards_17 ?_
      refine z_iload_n (i := 1) C dX3_copyUpwards_20 rfl rfl ?_
      refine z_iconst (v := iI 1) C dX3_copyUpwards_21 rfl ?_
      refine z_iaddI (v := p + 1) C dX3_copyUpwards_22 (by omega) ?_
      refine z_ialoadI 2 (he := rfl) C (zT_of hE (t0 := 0) rfl) (by omega) (by omega) (by decide) dX3_copyUpwards_23 ?_
      refine z_icmp_geI (tgt := 38) C dX3_copyUpwards_24 (by decide) ⟨by omega, by omega⟩ ⟨by omega, by omega⟩ (fun hk => ?_) (fun hk => ?_)
      · exact z_vret C hR dX3_copyUpwards_38 (Nat.le_of_ble_eq_true rfl) (Nat.le_of_ble_eq_true rfl) (⟨rfl, by rw [show k = hgt sp SS p by omega]⟩)
      · refine z_aload_n (i := 0) C dX3_copyUpwards_27 rfl rfl ?_
        refine z_iload_n (i := 2) C dX3_copyUpwards_28 rfl rfl ?_
        refine z_callV (n := 1) (As := [.int (iI (SS p + k))]) (st := []) (fr := []) C hE (k_copyCell l D cI cZ cM cL a c s nc ns CC SS (cpU NC fl k (fun i => CC (SS p + i))) NS (fl + k) sp (SS p + k) ⟨by omega, by omega⟩ ⟨by omega, by omega⟩) gX3_copyUpwards_X3_copyCell rfl ⟨rfl, rfl⟩ (by decide +kernel) ⟨Nat.le_of_ble_eq_true rfl, Nat.le_of_ble_eq_true rfl⟩ rfl rfl (List.Perm.refl _) 0 rfl rfl rfl (Nat.le_of_ble_eq_true rfl) ⟨Nat.le_of_ble_eq_true rfl, Nat.le_of_ble_eq_true rfl⟩ dX3_copyUpwards_29 (fun r w1 hpo => ?_)
        obtain ⟨rfl, rfl⟩ := hpo
        refine (show zG E Q (0) (0) [(a, .inr (3, [.ref c, .ref s, .ref nc, .ref ns, .int (iI (fl + k + 1)), .int (iI sp)])), (c, ai cI 32 CC), (s, ai cI 33 SS), (nc, ai cI 32 (zup (cpU NC fl k (fun i => CC (SS p + i))) (fl + k) (CC (SS p + k)))), (ns, ai cI 33 NS)] [some (.ref a), some (.int (iI p)), some (.int (iI (SS p + k)))] 32 [] from ?_)
        refine z_iincI (v := SS p + (k + 1)) (lv' := [some (.ref a), some (.int (iI p)), some (.int (iI (SS p + (k + 1))))]) C dX3_copyUpwards_32 rfl (by omega) rfl ?_
        refine z_goto (tgt := 15) C dX3_copyUpwards_35 (by decide) ?_
        have e1 : zup (cpU NC fl k (fun i => CC (SS p + i))) (fl + k) (CC (SS p + k)) = cpU NC fl (k + 1) (fun i => CC (SS p + i)) := cpU_s NC fl k _ (by omega) _ rfl
        rw [e1, show fl + k + 1 = fl + (k + 1) by omega]
        exact ih (k + 1) hin (by omega) (by omega) (by omega)
  refine z_aload_n (i := 0) C dX3_copyUpwards_0 rfl rfl ?_
  refine z_iload_n (i := 1) C dX3_copyUpwards_1 rfl rfl ?_
  refine z_callV (n := 1) (As := [.int (iI p)]) (st := []) (fr := []) C hE (k_isPlace l D cI cZ cM cL a c s nc ns CC SS NC NS fl sp p ⟨by omega, by omega⟩ ⟨by omega, by omega⟩) gX3_copyUpwards_X3_isPlace rfl ⟨rfl, rfl⟩ (by decide +kernel) ⟨Nat.le_of_ble_eq_true rfl, Nat.le_of_ble_eq_true rfl⟩ rfl rfl (List.Perm.refl _) 0 rfl rfl rfl (Nat.le_of_ble_eq_true rfl) ⟨Nat.le_of_ble_eq_true rfl, Nat.le_of_ble_eq_true rfl⟩ dX3_copyUpwards_2 (fun r w1 hpo => ?_)
  obtain ⟨rfl, rfl⟩ := hpo
  refine (show zG E Q (0) (0) [(a, .inr (3, [.ref c, .ref s, .ref nc, .ref ns, .int (iI fl), .int (iI sp)])), (c, ai cI 32 CC), (s, ai cI 33 SS), (nc, ai cI 32 NC), (ns, ai cI 33 NS)] [some (.ref a), some (.int (iI p)), none] 5 [.int (iI (b2 (0 ≤ p ∧ p < sp)))] from ?_)
  refine z_if_eqI (tgt := 38) C dX3_copyUpwards_5 (by decide) ⟨by omega, by omega⟩ (fun hb => ?_) (fun hb => ?_)
  · exact z_vret C hR dX3_copyUpwards_38 (Nat.le_of_ble_eq_true rfl) (Nat.le_of_ble_eq_true rfl) (⟨rfl, by have hz : hgt sp SS p = 0 := by { unfold hgt; rw [if_neg (by unfold b2 at hb; split at hb <;> omega)] }; rw [hz, cpU_0, Int.add_zero]⟩)
  · have hin : 0 ≤ p ∧ p < sp := by unfold b2 at hb; split at hb <;> omega
    have hs0 := hW.1
    have hs1 := hW.2.1
    have h1 := hW.2.2.2.1 p (by omega) (by omega)
    have h2 := hW.2.2.2.1 (p + 1) (by omega) (by omega)
    have hh : hgt sp SS p = SS (p + 1) - SS p := by unfold hgt; rw [if_pos hin]
    refine z_aload_n (i := 0) C dX3_copyUpwards_8 rfl rfl ?_
    refine z_get (ci := 3) C (hi_X3_copyUpwards_X3) 0 rfl rfl 1 (by decide) (by decide +kernel) rfl dX3_copyUpwards_9 ?_
    refine z_iload_n (i := 1) C dX3_copyUpwards_12 rfl rfl ?_
    refine z_ialoadI 2 (he := rfl) C (zT_of hE (t0 := 0) rfl) (by omega) (by omega) (by decide) dX3_copyUpwards_13 ?_
    refine z_istore_n (i := 2) (lv' := [some (.ref a), some (.int (iI p)), some (.int (iI (SS p)))]) C dX3_copyUpwards_14 rfl rfl rfl ?_
    have h0 := lp ((hgt sp SS p).toNat + 1) 0 hin (by omega) (by omega) (by omega)
    rw [cpU_0, show fl + 0 = fl by omega, show SS p + 0 = SS p by omega] at h0
    exact h0
theorem hi_X3_copyDownwards_X3 : ∀ w ∈ wsX30, w ∈ wsX3_copyDownwards := by decide +kernel
set_option maxHeartbeats 1000000 in
set_option maxRecDepth 100000 in
theorem k_copyDown (l : Launch) (D : va_G) (cI cZ cM cL : ClassId) (a c s nc ns : Nat) (CC SS NC NS : Int → Int) (fl sp : Int) (p : Int) (hp : -1000 ≤ p ∧ p ≤ 1000) (hW : stW sp SS) (hf : 0 ≤ fl ∧ fl + hgt sp SS p ≤ 32) : zN l yX3_copyDownwards wsX3_copyDownwards { frames := 4, cells := 0, slots := 0, locals := 86 } D (zTy cI cZ cM cL) [.ref a, .int (iI p)] (skW cI a c s nc ns CC SS NC NS fl sp) (fun r w => r = none ∧ w = (skW cI a c s nc ns CC SS (cpU NC fl (hgt sp SS p) (fun i => CC (SS p + (hgt sp SS p - 1 - i)))) NS (fl + (hgt sp SS p)) sp)) 0 0 := by
  refine zN_of (cc := cX3_copyDownwards) (maxL := 3) (lv0 := [some (.ref a), some (.int (iI p)), none]) (by decide) rfl rfl (Nat.le_of_ble_eq_true rfl) rfl ?_
  intro E Q C hE hR hI0
  have hg0 := hW.hgt0 p
  have hg1 := hW.hgt32 p
  have hsp0 := hW.1
  have hsp1 := hW.2.1
  have hbR : 0 ≤ b2 (0 ≤ p ∧ p < sp) ∧ b2 (0 ≤ p ∧ p < sp) ≤ 1 := by unfold b2; split <;> omega
  refine (show zG E Q 0 0 [(a, .inr (3, [.ref c, .ref s, .ref nc, .ref ns, .int (iI fl), .int (iI sp)])), (c, ai cI 32 CC), (s, ai cI 33 SS), (nc, ai cI 32 NC), (ns, ai cI 33 NS)] [some (.ref a), some (.int (iI p)), none] 0 [] from ?_)
  have lp : ∀ (n : Nat) (k z : Int), (0 ≤ p ∧ p < sp) → z = SS p + ((hgt sp SS p) - 1 - k) → 0 ≤ k → k ≤ (hgt sp SS p) → (hgt sp SS p) - k < n → zG E Q (0) (0) [(a, .inr (3, [.ref c, .ref s, .ref nc, .ref ns, .int (iI (fl + k)), .int (iI sp)])), (c, ai cI 32 CC), (s, ai cI 33 SS), (nc, ai cI 32 (cpU NC fl k (fun i => CC (SS p + (hgt sp SS p - 1 - i))))), (ns, ai cI 33 NS)] [some (.ref a), some (.int (iI p)), some (.int (iI z))] 19 [] := by
    intro n
    induction n with
    | zero => intro k z hin hz hk0 hk1 hkn; omega
    | succ n ih =>
      intro k z hin hz hk0 hk1 hkn
      have hs0 := hW.1
      have hs1 := hW.2.1
      have h1 := hW.2.2.2.1 p (by omega) (by omega)
      have h2 := hW.2.2.2.1 (p + 1) (by omega) (by omega)
      have hh : hgt sp SS p = SS (p + 1) - SS p := by unfold hgt; rw [if_pos hin]
      refine z_iload_n (i := 2) C dX3_copyDownwards_19 rfl rfl ?_
      refine z_aload_n (i := 0) C dX3_copyDownwards_20 rfl rfl ?_
      refine z_get (ci := 3) C (hi_X3_copyDownwards_X3) 0 rfl rfl 1 (by decide) (by decide +kernel) rfl dX3_copyDownwards_21 ?_
      refine z_iload_n (i := 1) C dX3_copyDownwards_24 rfl rfl ?_
      refine z_ialoadI 2 (he := rfl) C (zT_of hE (t0 := 0) rfl) (by omega) (by omega) (by decide) dX3_copyDownwards_25 ?_
      refine z_icmp_ltI (tgt := 40) C dX3_copyDownwards_26 (by decide) ⟨by omega, by omega⟩ ⟨by omega, by omega⟩ (fun hk => ?_) (fun hk => ?_)
      · exact z_vret C hR dX3_copyDownwards_40 (Nat.le_of_ble_eq_true rfl) (Nat.le_of_ble_eq_true rfl) (⟨rfl, by rw [show k = hgt sp SS p by omega]⟩)
      · refine z_aload_n (i := 0) C dX3_copyDownwards_29 rfl rfl ?_
        refine z_iload_n (i := 2) C dX3_copyDownwards_30 rfl rfl ?_
        refine z_callV (n := 1) (As := [.int (iI z)]) (st := []) (fr := []) C hE (k_copyCell l D cI cZ cM cL a c s nc ns CC SS (cpU NC fl k (fun i => CC (SS p + (hgt sp SS p - 1 - i)))) NS (fl + k) sp z ⟨by omega, by omega⟩ ⟨by omega, by omega⟩) gX3_copyDownwards_X3_copyCell rfl ⟨rfl, rfl⟩ (by decide +kernel) ⟨Nat.le_of_ble_eq_true rfl, Nat.le_of_ble_eq_true rfl⟩ rfl rfl (List.Perm.refl _) 0 rfl rfl rfl (Nat.le_of_ble_eq_true rfl) ⟨Nat.le_of_ble_eq_true rfl, Nat.le_of_ble_eq_true rfl⟩ dX3_copyDownwards_31 (fun r w1 hpo => ?_)
        obtain ⟨rfl, rfl⟩ := hpo
        refine (show zG E Q (0) (0) [(a, .inr (3, [.ref c, .ref s, .ref nc, .ref ns, .int (iI (fl + k + 1)), .int (iI sp)])), (c, ai cI 32 CC), (s, ai cI 33 SS), (nc, ai cI 32 (zup (cpU NC fl k (fun i => CC (SS p + (hgt sp SS p - 1 - i)))) (fl + k) (CC z))), (ns, ai cI 33 NS)] [some (.ref a), some (.int (iI p)), some (.int (iI z))] 34 [] from ?_)
        refine z_iincI (v := z - 1) (lv' := [some (.ref a), some (.int (iI p)), some (.int (iI (z - 1)))]) C dX3_copyDownwards_34 rfl (by omega) rfl ?_
        refine z_goto (tgt := 19) C dX3_copyDownwards_37 (by decide) ?_
        have e1 : zup (cpU NC fl k (fun i => CC (SS p + (hgt sp SS p - 1 - i)))) (fl + k) (CC z) = cpU NC fl (k + 1) (fun i => CC (SS p + (hgt sp SS p - 1 - i))) := cpU_s NC fl k _ (by omega) _ (by rw [hz])
        rw [e1, show fl + k + 1 = fl + (k + 1) by omega]
        exact ih (k + 1) (z - 1) hin (by omega) (by omega) (by omega) (by omega)
  refine z_aload_n (i := 0) C dX3_copyDownwards_0 rfl rfl ?_
  refine z_iload_n (i := 1) C dX3_copyDownwards_1 rfl rfl ?_
  refine z_callV (n := 1) (As := [.int (iI p)]) (st := []) (fr := []) C hE (k_isPlace l D cI cZ cM cL a c s nc ns CC SS NC NS fl sp p ⟨by omega, by omega⟩ ⟨by omega, by omega⟩) gX3_copyDownwards_X3_isPlace rfl ⟨rfl, rfl⟩ (by decide +kernel) ⟨Nat.le_of_ble_eq_true rfl, Nat.le_of_ble_eq_true rfl⟩ rfl rfl (List.Perm.refl _) 0 rfl rfl rfl (Nat.le_of_ble_eq_true rfl) ⟨Nat.le_of_ble_eq_true rfl, Nat.le_of_ble_eq_true rfl⟩ dX3_copyDownwards_2 (fun r w1 hpo => ?_)
  obtain ⟨rfl, rfl⟩ := hpo
  refine (show zG E Q (0) (0) [(a, .inr (3, [.ref c, .ref s, .ref nc, .ref ns, .int (iI fl), .int (iI sp)])), (c, ai cI 32 CC), (s, ai cI 33 SS), (nc, ai cI 32 NC), (ns, ai cI 33 NS)] [some (.ref a), some (.int (iI p)), none] 5 [.int (iI (b2 (0 ≤ p ∧ p < sp)))] from ?_)
  refine z_if_eqI (tgt := 40) C dX3_copyDownwards_5 (by decide) ⟨by omega, by omega⟩ (fun hb => ?_) (fun hb => ?_)
  · exact z_vret C hR dX3_copyDownwards_40 (Nat.le_of_ble_eq_true rfl) (Nat.le_of_ble_eq_true rfl) (⟨rfl, by have hz : hgt sp SS p = 0 := by { unfold hgt; rw [if_neg (by unfold b2 at hb; split at hb <;> omega)] }; rw [hz, cpU_0, Int.add_zero]⟩)
  · have hin : 0 ≤ p ∧ p < sp := by unfold b2 at hb; split at hb <;> omega
    have hs0 := hW.1
    have hs1 := hW.2.1
    have h1 := hW.2.2.2.1 p (by omega) (by omega)
    have h2 := hW.2.2.2.1 (p + 1) (by omega) (by omega)
    have hh : hgt sp SS p = SS (p + 1) - SS p := by unfold hgt; rw [if_pos hin]
    refine z_aload_n (i := 0) C dX3_copyDownwards_8 rfl rfl ?_
    refine z_get (ci := 3) C (hi_X3_copyDownwards_X3) 0 rfl rfl 1 (by decide) (by decide +kernel) rfl dX3_copyDownwards_9 ?_
    refine z_iload_n (i := 1) C dX3_copyDownwards_12 rfl rfl ?_
    refine z_iconst (v := iI 1) C dX3_copyDownwards_13 rfl ?_
    refine z_iaddI (v := p + 1) C dX3_copyDownwards_14 (by omega) ?_
    refine z_ialoadI 2 (he := rfl) C (zT_of hE (t0 := 0) rfl) (by omega) (by omega) (by decide) dX3_copyDownwards_15 ?_
    refine z_iconst (v := iI 1) C dX3_copyDownwards_16 rfl ?_
    refine z_isubI (v := (SS (p + 1)) - 1) C dX3_copyDownwards_17 (by omega) ?_
    refine z_istore_n (i := 2) (lv' := [some (.ref a), some (.int (iI p)), some (.int (iI ((SS (p + 1)) - 1)))]) C dX3_copyDownwards_18 rfl rfl rfl ?_
    have h0 := lp ((hgt sp SS p).toNat + 1) 0 (SS (p + 1) - 1) hin (by omega) (by omega) (by omega) (by omega)
    rw [cpU_0, show fl + 0 = fl by omega] at h0
    exact h0
theorem hi_X3_swapRows_X3 : ∀ w ∈ wsX30, w ∈ wsX3_swapRows := by decide +kernel
set_option maxHeartbeats 1000000 in
set_option maxRecDepth 100000 in
theorem k_swapRows (l : Launch) (D : va_G) (cI cZ cM cL : ClassId) (a c s nc ns : Nat) (CC SS NC NS : Int → Int) (fl sp : Int) : zN l yX3_swapRows wsX3_swapRows { frames := 0, cells := 0, slots := 0, locals := 0 } D (zTy cI cZ cM cL) [.ref a] (skW cI a c s nc ns CC SS NC NS fl sp) (fun r w => r = none ∧ w = [(a, .inr (3, [.ref nc, .ref ns, .ref c, .ref s, .int (iI fl), .int (iI sp)])), (c, ai cI 32 CC), (s, ai cI 33 SS), (nc, ai cI 32 NC), (ns, ai cI 33 NS)]) 0 0 := by
  refine zN_of (cc := cX3_swapRows) (maxL := 3) (lv0 := [some (.ref a), none, none]) (by decide) rfl rfl (Nat.le_of_ble_eq_true rfl) rfl ?_
  intro E Q C hE hR hI0
  refine (show zG E Q 0 0 [(a, .inr (3, [.ref c, .ref s, .ref nc, .ref ns, .int (iI fl), .int (iI sp)])), (c, ai cI 32 CC), (s, ai cI 33 SS), (nc, ai cI 32 NC), (ns, ai cI 33 NS)] [some (.ref a), none, none] 0 [] from ?_)
  refine z_aload_n (i := 0) C dX3_swapRows_0 rfl rfl ?_
  refine z_get (ci := 3) C (hi_X3_swapRows_X3) 0 rfl rfl 0 (by decide) (by decide +kernel) rfl dX3_swapRows_1 ?_
  refine z_astore_n (i := 1) (lv' := [some (.ref a), some (.ref c), none]) C dX3_swapRows_4 rfl rfl rfl ?_
  refine z_aload_n (i := 0) C dX3_swapRows_5 rfl rfl ?_
  refine z_get (ci := 3) C (hi_X3_swapRows_X3) 0 rfl rfl 1 (by decide) (by decide +kernel) rfl dX3_swapRows_6 ?_
  refine z_astore_n (i := 2) (lv' := [some (.ref a), some (.ref c), some (.ref s)]) C dX3_swapRows_9 rfl rfl rfl ?_
  refine z_aload_n (i := 0) C dX3_swapRows_10 rfl rfl ?_
  refine z_aload_n (i := 0) C dX3_swapRows_11 rfl rfl ?_
  refine z_get (ci := 3) C (hi_X3_swapRows_X3) 0 rfl rfl 2 (by decide) (by decide +kernel) rfl dX3_swapRows_12 ?_
  refine z_put (ci := 3) (ws' := [(a, .inr (3, [.ref nc, .ref s, .ref nc, .ref ns, .int (iI fl), .int (iI sp)])), (c, ai cI 32 CC), (s, ai cI 33 SS), (nc, ai cI 32 NC), (ns, ai cI 33 NS)]) C (hi_X3_swapRows_X3) tyX3_ok nmX3 0 rfl rfl 0 (by decide) (by decide +kernel) rfl (tyX3_ok 0 (by decide)) rfl rfl (Nat.le_of_ble_eq_true rfl) rfl dX3_swapRows_15 ?_
  refine z_aload_n (i := 0) C dX3_swapRows_18 rfl rfl ?_
  refine z_aload_n (i := 0) C dX3_swapRows_19 rfl rfl ?_
  refine z_get (ci := 3) C (hi_X3_swapRows_X3) 0 rfl rfl 3 (by decide) (by decide +kernel) rfl dX3_swapRows_20 ?_
  refine z_put (ci := 3) (ws' := [(a, .inr (3, [.ref nc, .ref ns, .ref nc, .ref ns, .int (iI fl), .int (iI sp)])), (c, ai cI 32 CC), (s, ai cI 33 SS), (nc, ai cI 32 NC), (ns, ai cI 33 NS)]) C (hi_X3_swapRows_X3) tyX3_ok nmX3 0 rfl rfl 1 (by decide) (by decide +kernel) rfl (tyX3_ok 1 (by decide)) rfl rfl (Nat.le_of_ble_eq_true rfl) rfl dX3_swapRows_23 ?_
  refine z_aload_n (i := 0) C dX3_swapRows_26 rfl rfl ?_
  refine z_aload_n (i := 1) C dX3_swapRows_27 rfl rfl ?_
  refine z_put (ci := 3) (ws' := [(a, .inr (3, [.ref nc, .ref ns, .ref c, .ref ns, .int (iI fl), .int (iI sp)])), (c, ai cI 32 CC), (s, ai cI 33 SS), (nc, ai cI 32 NC), (ns, ai cI 33 NS)]) C (hi_X3_swapRows_X3) tyX3_ok nmX3 0 rfl rfl 2 (by decide) (by decide +kernel) rfl (tyX3_ok 2 (by decide)) rfl rfl (Nat.le_of_ble_eq_true rfl) rfl dX3_swapRows_28 ?_
  refine z_aload_n (i := 0) C dX3_swapRows_31 rfl rfl ?_
  refine z_aload_n (i := 2) C dX3_swapRows_32 rfl rfl ?_
  refine z_put (ci := 3) (ws' := [(a, .inr (3, [.ref nc, .ref ns, .ref c, .ref s, .int (iI fl), .int (iI sp)])), (c, ai cI 32 CC), (s, ai cI 33 SS), (nc, ai cI 32 NC), (ns, ai cI 33 NS)]) C (hi_X3_swapRows_X3) tyX3_ok nmX3 0 rfl rfl 3 (by decide) (by decide +kernel) rfl (tyX3_ok 3 (by decide)) rfl rfl (Nat.le_of_ble_eq_true rfl) rfl dX3_swapRows_33 ?_
  exact z_vret C hR dX3_swapRows_36 (Nat.le_of_ble_eq_true rfl) (Nat.le_of_ble_eq_true rfl) (⟨rfl, rfl⟩)
theorem hi_X3_greatestHeight_X3 : ∀ w ∈ wsX30, w ∈ wsX3_greatestHeight := by decide +kernel
set_option maxHeartbeats 1000000 in
set_option maxRecDepth 100000 in
theorem k_greatest (l : Launch) (D : va_G) (cI cZ cM cL : ClassId) (a c s nc ns : Nat) (CC SS NC NS : Int → Int) (fl sp : Int) (hW : stW sp SS) : zN l yX3_greatestHeight wsX3_greatestHeight { frames := 2, cells := 0, slots := 0, locals := 42 } D (zTy cI cZ cM cL) [.ref a] (skW cI a c s nc ns CC SS NC NS fl sp) (fun r w => r = some (.int (iI (mxH sp SS sp.toNat))) ∧ w = (skW cI a c s nc ns CC SS NC NS fl sp)) 0 0 := by
  refine zN_of (cc := cX3_greatestHeight) (maxL := 3) (lv0 := [some (.ref a), none, none]) (by decide) rfl rfl (Nat.le_of_ble_eq_true rfl) rfl ?_
  intro E Q C hE hR hI0
  obtain ⟨hs0, hs1, -, -, -⟩ := id hW
  refine (show zG E Q 0 0 [(a, .inr (3, [.ref c, .ref s, .ref nc, .ref ns, .int (iI fl), .int (iI sp)])), (c, ai cI 32 CC), (s, ai cI 33 SS), (nc, ai cI 32 NC), (ns, ai cI 33 NS)] [some (.ref a), none, none] 0 [] from ?_)
  have lp : ∀ (n : Nat) (j : Nat), j ≤ sp.toNat → sp.toNat - j < n → zG E Q (0) (0) [(a, .inr (3, [.ref c, .ref s, .ref nc, .ref ns, .int (iI fl), .int (iI sp)])), (c, ai cI 32 CC), (s, ai cI 33 SS), (nc, ai cI 32 NC), (ns, ai cI 33 NS)] [some (.ref a), some (.int (iI (mxH sp SS j))), some (.int (iI ↑j))] 4 [] := by
    intro n
    induction n with
    | zero => intro j hj hjn; omega
    | succ n ih =>
      intro j hj hjn
      have hm := hW.mx j
      have hg0 := hW.hgt0 j
      have hg1 := hW.hgt32 j
      refine z_iload_n (i := 2) C dX3_greatestHeight_4 rfl rfl ?_
      refine z_aload_n (i := 0) C dX3_greatestHeight_5 rfl rfl ?_
      refine z_get (ci := 3) C (hi_X3_greatestHeight_X3) 0 rfl rfl 5 (by decide) (by decide +kernel) rfl dX3_greatestHeight_6 ?_
      refine z_icmp_geI (tgt := 28) C dX3_greatestHeight_9 (by decide) ⟨by omega, by omega⟩ ⟨by omega, by omega⟩ (fun hk => ?_) (fun hk => ?_)
      · refine z_iload_n (i := 1) C dX3_greatestHeight_28 rfl rfl ?_
        exact z_iret C hR dX3_greatestHeight_29 (Nat.le_of_ble_eq_true rfl) (Nat.le_of_ble_eq_true rfl) (⟨by rw [show j = sp.toNat by omega], rfl⟩)
      · refine z_iload_n (i := 1) C dX3_greatestHeight_12 rfl rfl ?_
        refine z_aload_n (i := 0) C dX3_greatestHeight_13 rfl rfl ?_
        refine z_iload_n (i := 2) C dX3_greatestHeight_14 rfl rfl ?_
        refine z_callV (n := 1) (As := [.int (iI ↑j)]) (st := [.int (iI (mxH sp SS j))]) (fr := []) C hE (k_heightAt l D cI cZ cM cL a c s nc ns CC SS NC NS fl sp j ⟨by omega, by omega⟩ hW) gX3_greatestHeight_X3_heightAt rfl ⟨rfl, rfl⟩ (by decide +kernel) ⟨Nat.le_of_ble_eq_true rfl, Nat.le_of_ble_eq_true rfl⟩ rfl rfl (List.Perm.refl _) 0 rfl rfl rfl (Nat.le_of_ble_eq_true rfl) ⟨Nat.le_of_ble_eq_true rfl, Nat.le_of_ble_eq_true rfl⟩ dX3_greatestHeight_15 (fun r w1 hpo => ?_)
        obtain ⟨rfl, rfl⟩ := hpo
        refine (show zG E Q (0) (0) [(a, .inr (3, [.ref c, .ref s, .ref nc, .ref ns, .int (iI fl), .int (iI sp)])), (c, ai cI 32 CC), (s, ai cI 33 SS), (nc, ai cI 32 NC), (ns, ai cI 33 NS)] [some (.ref a), some (.int (iI (mxH sp SS j))), some (.int (iI ↑j))] 18 [.int (iI (hgt sp SS j)), .int (iI (mxH sp SS j))] from ?_)
        refine z_maxI C (by decide +kernel) (by decide +kernel) (by decide +kernel) (by decide +kernel) (Nat.le_of_ble_eq_true rfl) ⟨Nat.le_of_ble_eq_true rfl, Nat.le_of_ble_eq_true rfl⟩ ⟨Nat.le_of_ble_eq_true rfl, Nat.le_of_ble_eq_true rfl⟩ dX3_greatestHeight_18 ⟨by omega, by omega⟩ ⟨by omega, by omega⟩ ?_
        refine z_istore_n (i := 1) (lv' := [some (.ref a), some (.int (iI (max (mxH sp SS j) (hgt sp SS j)))), some (.int (iI ↑j))]) C dX3_greatestHeight_21 rfl rfl rfl ?_
        refine z_iincI (v := ↑(j + 1)) (lv' := [some (.ref a), some (.int (iI (max (mxH sp SS j) (hgt sp SS j)))), some (.int (iI (↑(j + 1))))]) C dX3_greatestHeight_22 rfl (by omega) rfl ?_
        refine z_goto (tgt := 4) C dX3_greatestHeight_25 (by decide) ?_
        exact ih (j + 1) (by omega) (by omega)
  refine z_iconst (v := iI 0) C dX3_greatestHeight_0 rfl ?_
  refine z_istore_n (i := 1) (lv' := [some (.ref a), some (.int (iI 0)), none]) C dX3_greatestHeight_1 rfl rfl rfl ?_
  refine z_iconst (v := iI 0) C dX3_greatestHeight_2 rfl ?_
  refine z_istore_n (i := 2) (lv' := [some (.ref a), some (.int (iI 0)), some (.int (iI 0))]) C dX3_greatestHeight_3 rfl rfl rfl ?_
  exact lp (sp.toNat + 1) 0 (by omega) (by omega)
theorem hi_X3_layFlat_X3 : ∀ w ∈ wsX30, w ∈ wsX3_layFlat := by decide +kernel
set_option maxHeartbeats 1000000 in
set_option maxRecDepth 100000 in
theorem k_layFlat (l : Launch) (D : va_G) (cI cZ cM cL : ClassId) (a c s nc ns : Nat) (CC SS NC NS : Int → Int) (fl sp : Int) (n0 : Int) (hn : 0 ≤ n0 ∧ n0 ≤ 32) : zN l yX3_layFlat wsX3_layFlat { frames := 1, cells := 0, slots := 0, locals := 21 } D (zTy cI cZ cM cL) [.ref a, .int (iI n0)] (skW cI a c s nc ns CC SS NC NS fl sp) (fun r w => r = none ∧ ∃ C1 S1 : Int → Int, w = (skW cI a c s nc ns C1 S1 NC NS fl n0) ∧ (∀ j, 0 ≤ j → j < n0 → C1 j = j) ∧ (∀ j, 0 ≤ j → j ≤ n0 → S1 j = j)) 0 0 := by
  refine zN_of (cc := cX3_layFlat) (maxL := 3) (lv0 := [some (.ref a), some (.int (iI n0)), none]) (by decide) rfl rfl (Nat.le_of_ble_eq_true rfl) rfl ?_
  intro E Q C hE hR hI0
  refine (show zG E Q 0 0 [(a, .inr (3, [.ref c, .ref s, .ref nc, .ref ns, .int (iI fl), .int (iI sp)])), (c, ai cI 32 CC), (s, ai cI 33 SS), (nc, ai cI 32 NC), (ns, ai cI 33 NS)] [some (.ref a), some (.int (iI n0)), none] 0 [] from ?_)
  have lp : ∀ (n : Nat) (k : Int) (C1 S1 : Int → Int), 0 ≤ k → k ≤ n0 → n0 - k < n → (∀ j, 0 ≤ j → j < k → C1 j = j) → (∀ j, 0 ≤ j → j < k → S1 j = j) → zG E Q (0) (0) [(a, .inr (3, [.ref c, .ref s, .ref nc, .ref ns, .int (iI fl), .int (iI n0)])), (c, ai cI 32 C1), (s, ai cI 33 S1), (nc, ai cI 32 NC), (ns, ai cI 33 NS)] [some (.ref a), some (.int (iI n0)), some (.int (iI k))] 16 [] := by
    intro n
    induction n with
    | zero => intro k C1 S1 hk0 hk1 hkn hc hs; omega
    | succ n ih =>
      intro k C1 S1 hk0 hk1 hkn hc hs
      refine z_iload_n (i := 2) C dX3_layFlat_16 rfl rfl ?_
      refine z_aload_n (i := 0) C dX3_layFlat_17 rfl rfl ?_
      refine z_get (ci := 3) C (hi_X3_layFlat_X3) 0 rfl rfl 5 (by decide) (by decide +kernel) rfl dX3_layFlat_18 ?_
      refine z_icmp_geI (tgt := 44) C dX3_layFlat_21 (by decide) ⟨by omega, by omega⟩ ⟨by omega, by omega⟩ (fun hk => ?_) (fun hk => ?_)
      · refine z_aload_n (i := 0) C dX3_layFlat_44 rfl rfl ?_
        refine z_get (ci := 3) C (hi_X3_layFlat_X3) 0 rfl rfl 1 (by decide) (by decide +kernel) rfl dX3_layFlat_45 ?_
        refine z_aload_n (i := 0) C dX3_layFlat_48 rfl rfl ?_
        refine z_get (ci := 3) C (hi_X3_layFlat_X3) 0 rfl rfl 5 (by decide) (by decide +kernel) rfl dX3_layFlat_49 ?_
        refine z_aload_n (i := 0) C dX3_layFlat_52 rfl rfl ?_
        refine z_get (ci := 3) C (hi_X3_layFlat_X3) 0 rfl rfl 5 (by decide) (by decide +kernel) rfl dX3_layFlat_53 ?_
        refine z_iastoreI 2 (he := rfl) (ws' := [(a, .inr (3, [.ref c, .ref s, .ref nc, .ref ns, .int (iI fl), .int (iI n0)])), (c, ai cI 32 C1), (s, ai cI 33 (zup S1 n0 n0)), (nc, ai cI 32 NC), (ns, ai cI 33 NS)]) C (zT_of hE (t0 := 0) rfl) (by omega) (by omega) (by decide) rfl dX3_layFlat_56 ?_
        exact z_vret C hR dX3_layFlat_57 (Nat.le_of_ble_eq_true rfl) (Nat.le_of_ble_eq_true rfl) (⟨rfl, C1, zup S1 n0 n0, rfl, fun j h1 h2 => hc j h1 (by omega), fun j h1 h2 => by unfold zup; split <;> first | omega | exact hs j h1 (by omega)⟩)
      · refine z_aload_n (i := 0) C dX3_layFlat_24 rfl rfl ?_
        refine z_get (ci := 3) C (hi_X3_layFlat_X3) 0 rfl rfl 0 (by decide) (by decide +kernel) rfl dX3_layFlat_25 ?_
        refine z_iload_n (i := 2) C dX3_layFlat_28 rfl rfl ?_
        refine z_iload_n (i := 2) C dX3_layFlat_29 rfl rfl ?_
        refine z_iastoreI 1 (he := rfl) (ws' := [(a, .inr (3, [.ref c, .ref s, .ref nc, .ref ns, .int (iI fl), .int (iI n0)])), (c, ai cI 32 (zup C1 k k)), (s, ai cI 33 S1), (nc, ai cI 32 NC), (ns, ai cI 33 NS)]) C (zT_of hE (t0 := 0) rfl) (by omega) (by omega) (by decide) rfl dX3_layFlat_30 ?_
        refine z_aload_n (i := 0) C dX3_layFlat_31 rfl rfl ?_
        refine z_get (ci := 3) C (hi_X3_layFlat_X3) 0 rfl rfl 1 (by decide) (by decide +kernel) rfl dX3_layFlat_32 ?_
        refine z_iload_n (i := 2) C dX3_layFlat_35 rfl rfl ?_
        refine z_iload_n (i := 2) C dX3_layFlat_36 rfl rfl ?_
        refine z_iastoreI 2 (he := rfl) (ws' := [(a, .inr (3, [.ref c, .ref s, .ref nc, .ref ns, .int (iI fl), .int (iI n0)])), (c, ai cI 32 (zup C1 k k)), (s, ai cI 33 (zup S1 k k)), (nc, ai cI 32 NC), (ns, ai cI 33 NS)]) C (zT_of hE (t0 := 0) rfl) (by omega) (by omega) (by decide) rfl dX3_layFlat_37 ?_
        refine z_iincI (v := k + 1) (lv' := [some (.ref a), some (.int (iI n0)), some (.int (iI (k + 1)))]) C dX3_layFlat_38 rfl (by omega) rfl ?_
        refine z_goto (tgt := 16) C dX3_layFlat_41 (by decide) ?_
        refine ih (k + 1) _ _ (by omega) (by omega) (by omega) (fun j h1 h2 => ?_) (fun j h1 h2 => ?_)
        · unfold zup; split
          · omega
          · exact hc j h1 (by omega)
        · unfold zup; split
          · omega
          · exact hs j h1 (by omega)
  refine z_aload_n (i := 0) C dX3_layFlat_0 rfl rfl ?_
  refine z_iconst (v := iI 0) C dX3_layFlat_1 rfl ?_
  refine z_iload_n (i := 1) C dX3_layFlat_2 rfl rfl ?_
  refine z_bipush (v := iI 32) C dX3_layFlat_3 (by decide) ?_
  refine z_minI C (by decide +kernel) (by decide +kernel) (by decide +kernel) (by decide +kernel) (Nat.le_of_ble_eq_true rfl) ⟨Nat.le_of_ble_eq_true rfl, Nat.le_of_ble_eq_true rfl⟩ ⟨Nat.le_of_ble_eq_true rfl, Nat.le_of_ble_eq_true rfl⟩ dX3_layFlat_5 ⟨by omega, by omega⟩ ⟨by omega, by omega⟩ ?_
  refine z_maxI C (by decide +kernel) (by decide +kernel) (by decide +kernel) (by decide +kernel) (Nat.le_of_ble_eq_true rfl) ⟨Nat.le_of_ble_eq_true rfl, Nat.le_of_ble_eq_true rfl⟩ ⟨Nat.le_of_ble_eq_true rfl, Nat.le_of_ble_eq_true rfl⟩ dX3_layFlat_8 ⟨by omega, by omega⟩ ⟨by omega, by omega⟩ ?_
  refine z_top (y := iI n0) (by rw [show max 0 (min n0 32) = n0 by omega]) ?_
  refine z_put (ci := 3) (ws' := [(a, .inr (3, [.ref c, .ref s, .ref nc, .ref ns, .int (iI fl), .int (iI n0)])), (c, ai cI 32 CC), (s, ai cI 33 SS), (nc, ai cI 32 NC), (ns, ai cI 33 NS)]) C (hi_X3_layFlat_X3) tyX3_ok nmX3 0 rfl rfl 5 (by decide) (by decide +kernel) rfl (tyX3_ok 5 (by decide)) rfl rfl (Nat.le_of_ble_eq_true rfl) rfl dX3_layFlat_11 ?_
  refine z_iconst (v := iI 0) C dX3_layFlat_14 rfl ?_
  refine z_istore_n (i := 2) (lv' := [some (.ref a), some (.int (iI n0)), some (.int (iI 0))]) C dX3_layFlat_15 rfl rfl rfl ?_
  exact lp (n0.toNat + 1) 0 CC SS (by omega) (by omega) (by omega) (fun j h1 h2 => by omega) (fun j h1 h2 => by omega)
theorem hi_X3_init_X3 : ∀ w ∈ wsX30, w ∈ wsX3_init := by decide +kernel
set_option maxHeartbeats 1000000 in
set_option maxRecDepth 100000 in
theorem k_StacksInit (l : Launch) (D : va_G) (cI cZ cM cL : ClassId) (a : Nat) : zN l yX3_init wsX3_init { frames := 1, cells := 4, slots := 130, locals := 20 } D (zTy cI cZ cM cL) [.ref a] [(a, .inr (3, [.null, .null, .null, .null, .int (iI 0), .int (iI 0)]))] (fun r w => r = none ∧ ∃ c s nc ns : Nat, w = skW cI a c s nc ns (fun _ => 0) (fun _ => 0) (fun _ => 0) (fun _ => 0) 0 0) 4 130 := by
  refine zN_of (cc := cX3_init) (maxL := 1) (lv0 := [some (.ref a)]) (by decide) rfl rfl (Nat.le_of_ble_eq_true rfl) rfl ?_
  intro E Q C hE hR hI0
  have hI := hI0 rfl
  refine z_aload_n (i := 0) C dX3_init_0 rfl rfl ?_
  refine z_objInit C (by decide +kernel) (by decide +kernel) (by decide +kernel) (Nat.le_of_ble_eq_true rfl) ⟨Nat.le_of_ble_eq_true rfl, Nat.le_of_ble_eq_true rfl⟩ dX3_init_1 ?_
  refine z_aload_n (i := 0) C dX3_init_4 rfl rfl ?_
  refine z_bipush (v := iI 32) C dX3_init_5 (by decide) ?_
  refine z_newint C 0 32 (by decide +kernel) (zT_of hE rfl) rfl (Nat.le_of_ble_eq_true rfl) (Nat.le_of_ble_eq_true rfl) (Nat.le_of_ble_eq_true rfl) dX3_init_7 (fun c => ?_)
  refine (show zG E Q (0 + 1) (0 + 32) [(a, .inr (3, [.null, .null, .null, .null, .int (iI 0), .int (iI 0)])), (c, ai cI 32 (fun _ => 0))] [some (.ref a)] 9 [.ref c, .ref a] from ?_)
  refine z_put (ci := 3) (ws' := [(a, .inr (3, [.ref c, .null, .null, .null, .int (iI 0), .int (iI 0)])), (c, ai cI 32 (fun _ => 0))]) C (hi_X3_init_X3) tyX3_ok nmX3 0 rfl rfl 0 (by decide) (by decide +kernel) rfl (tyX3_ok 0 (by decide)) rfl rfl (Nat.le_of_ble_eq_true rfl) rfl dX3_init_9 ?_
  refine z_aload_n (i := 0) C dX3_init_12 rfl rfl ?_
  refine z_bipush (v := iI 33) C dX3_init_13 (by decide) ?_
  refine z_newint C 0 33 (by decide +kernel) (zT_of hE rfl) rfl (Nat.le_of_ble_eq_true rfl) (Nat.le_of_ble_eq_true rfl) (Nat.le_of_ble_eq_true rfl) dX3_init_15 (fun s => ?_)
  refine (show zG E Q (0 + 1 + 1) (0 + 32 + 33) [(a, .inr (3, [.ref c, .null, .null, .null, .int (iI 0), .int (iI 0)])), (c, ai cI 32 (fun _ => 0)), (s, ai cI 33 (fun _ => 0))] [some (.ref a)] 17 [.ref s, .ref a] from ?_)
  refine z_put (ci := 3) (ws' := [(a, .inr (3, [.ref c, .ref s, .null, .null, .int (iI 0), .int (iI 0)])), (c, ai cI 32 (fun _ => 0)), (s, ai cI 33 (fun _ => 0))]) C (hi_X3_init_X3) tyX3_ok nmX3 0 rfl rfl 1 (by decide) (by decide +kernel) rfl (tyX3_ok 1 (by decide)) rfl rfl (Nat.le_of_ble_eq_true rfl) rfl dX3_init_17 ?_
  refine z_aload_n (i := 0) C dX3_init_20 rfl rfl ?_
  refine z_bipush (v := iI 32) C dX3_init_21 (by decide) ?_
  refine z_newint C 0 32 (by decide +kernel) (zT_of hE rfl) rfl (Nat.le_of_ble_eq_true rfl) (Nat.le_of_ble_eq_true rfl) (Nat.le_of_ble_eq_true rfl) dX3_init_23 (fun nc => ?_)
  refine (show zG E Q (0 + 1 + 1 + 1) (0 + 32 + 33 + 32) [(a, .inr (3, [.ref c, .ref s, .null, .null, .int (iI 0), .int (iI 0)])), (c, ai cI 32 (fun _ => 0)), (s, ai cI 33 (fun _ => 0)), (nc, ai cI 32 (fun _ => 0))] [some (.ref a)] 25 [.ref nc, .ref a] from ?_)
  refine z_put (ci := 3) (ws' := [(a, .inr (3, [.ref c, .ref s, .ref nc, .null, .int (iI 0), .int (iI 0)])), (c, ai cI 32 (fun _ => 0)), (s, ai cI 33 (fun _ => 0)), (nc, ai cI 32 (fun _ => 0))]) C (hi_X3_init_X3) tyX3_ok nmX3 0 rfl rfl 2 (by decide) (by decide +kernel) rfl (tyX3_ok 2 (by decide)) rfl rfl (Nat.le_of_ble_eq_true rfl) rfl dX3_init_25 ?_
  refine z_aload_n (i := 0) C dX3_init_28 rfl rfl ?_
  refine z_bipush (v := iI 33) C dX3_init_29 (by decide) ?_
  refine z_newint C 0 33 (by decide +kernel) (zT_of hE rfl) rfl (Nat.le_of_ble_eq_true rfl) (Nat.le_of_ble_eq_true rfl) (Nat.le_of_ble_eq_true rfl) dX3_init_31 (fun ns => ?_)
  refine (show zG E Q (0 + 1 + 1 + 1 + 1) (0 + 32 + 33 + 32 + 33) [(a, .inr (3, [.ref c, .ref s, .ref nc, .null, .int (iI 0), .int (iI 0)])), (c, ai cI 32 (fun _ => 0)), (s, ai cI 33 (fun _ => 0)), (nc, ai cI 32 (fun _ => 0)), (ns, ai cI 33 (fun _ => 0))] [some (.ref a)] 33 [.ref ns, .ref a] from ?_)
  refine z_put (ci := 3) (ws' := [(a, .inr (3, [.ref c, .ref s, .ref nc, .ref ns, .int (iI 0), .int (iI 0)])), (c, ai cI 32 (fun _ => 0)), (s, ai cI 33 (fun _ => 0)), (nc, ai cI 32 (fun _ => 0)), (ns, ai cI 33 (fun _ => 0))]) C (hi_X3_init_X3) tyX3_ok nmX3 0 rfl rfl 3 (by decide) (by decide +kernel) rfl (tyX3_ok 3 (by decide)) rfl rfl (Nat.le_of_ble_eq_true rfl) rfl dX3_init_33 ?_
  refine z_aload_n (i := 0) C dX3_init_36 rfl rfl ?_
  refine z_iconst (v := iI 0) C dX3_init_37 rfl ?_
  refine z_put (ci := 3) (ws' := [(a, .inr (3, [.ref c, .ref s, .ref nc, .ref ns, .int (iI 0), .int (iI 0)])), (c, ai cI 32 (fun _ => 0)), (s, ai cI 33 (fun _ => 0)), (nc, ai cI 32 (fun _ => 0)), (ns, ai cI 33 (fun _ => 0))]) C (hi_X3_init_X3) tyX3_ok nmX3 0 rfl rfl 4 (by decide) (by decide +kernel) rfl (tyX3_ok 4 (by decide)) rfl rfl (Nat.le_of_ble_eq_true rfl) rfl dX3_init_38 ?_
  refine z_aload_n (i := 0) C dX3_init_41 rfl rfl ?_
  refine z_iconst (v := iI 0) C dX3_init_42 rfl ?_
  refine z_put (ci := 3) (ws' := [(a, .inr (3, [.ref c, .ref s, .ref nc, .ref ns, .int (iI 0), .int (iI 0)])), (c, ai cI 32 (fun _ => 0)), (s, ai cI 33 (fun _ => 0)), (nc, ai cI 32 (fun _ => 0)), (ns, ai cI 33 (fun _ => 0))]) C (hi_X3_init_X3) tyX3_ok nmX3 0 rfl rfl 5 (by decide) (by decide +kernel) rfl (tyX3_ok 5 (by decide)) rfl rfl (Nat.le_of_ble_eq_true rfl) rfl dX3_init_43 ?_
  exact z_vret C hR dX3_init_46 (Nat.le_of_ble_eq_true rfl) (Nat.le_of_ble_eq_true rfl) (⟨rfl, c, s, nc, ns, rfl⟩)
