/-! THE STACKS, first walks. -/
theorem hi_X3_isPlace_X3 : ∀ w ∈ wsX30, w ∈ wsX3_isPlace := by decide +kernel
set_option maxHeartbeats 1000000 in
set_option maxRecDepth 100000 in
theorem k_isPlace (l : Launch) (D : va_G) (cI cZ cM cL : ClassId) (a c s nc ns : Nat) (CC SS NC NS : Int → Int) (fl sp : Int) (p : Int) (hp : iR p) (hsp : iR sp) : zN l yX3_isPlace wsX3_isPlace { frames := 0, cells := 0, slots := 0, locals := 0 } D (zTy cI cZ cM cL) [.ref a, .int (iI p)] (skW cI a c s nc ns CC SS NC NS fl sp) (fun r w => r = some (.int (iI (b2 (0 ≤ p ∧ p < sp)))) ∧ w = (skW cI a c s nc ns CC SS NC NS fl sp)) 0 0 := by
  refine zN_of (cc := cX3_isPlace) (maxL := 2) (lv0 := [some (.ref a), some (.int (iI p))]) (by decide) rfl rfl (Nat.le_of_ble_eq_true rfl) rfl ?_
  intro E Q C hE hR hI0
  refine (show zG E Q 0 0 [(a, .inr (3, [.ref c, .ref s, .ref nc, .ref ns, .int (iI fl), .int (iI sp)])), (c, ai cI 32 CC), (s, ai cI 33 SS), (nc, ai cI 32 NC), (ns, ai cI 33 NS)] [some (.ref a), some (.int (iI p))] 0 [] from ?_)
  refine z_iload_n (i := 1) C dX3_isPlace_0 rfl rfl ?_
  refine z_if_ltI (tgt := 16) C dX3_isPlace_1 (by decide) ⟨by omega, by omega⟩ (fun h_1 => ?_) (fun h_1 => ?_)
  · refine z_iconst (v := iI 0) C dX3_isPlace_16 rfl ?_
    exact z_zret C hR (by decide) dX3_isPlace_17 (Nat.le_of_ble_eq_true rfl) (Nat.le_of_ble_eq_true rfl) (⟨by unfold b2; first | rw [if_pos (by omega)] | rw [if_neg (by omega)], rfl⟩)
  · refine z_iload_n (i := 1) C dX3_isPlace_4 rfl rfl ?_
    refine z_aload_n (i := 0) C dX3_isPlace_5 rfl rfl ?_
    refine z_get (ci := 3) C (hi_X3_isPlace_X3) 0 rfl rfl 5 (by decide) (by decide +kernel) rfl dX3_isPlace_6 ?_
    refine z_icmp_geI (tgt := 16) C dX3_isPlace_9 (by decide) ⟨by omega, by omega⟩ ⟨by omega, by omega⟩ (fun h_2 => ?_) (fun h_2 => ?_)
    · refine z_iconst (v := iI 0) C dX3_isPlace_16 rfl ?_
      exact z_zret C hR (by decide) dX3_isPlace_17 (Nat.le_of_ble_eq_true rfl) (Nat.le_of_ble_eq_true rfl) (⟨by unfold b2; first | rw [if_pos (by omega)] | rw [if_neg (by omega)], rfl⟩)
    · refine z_iconst (v := iI 1) C dX3_isPlace_12 rfl ?_
      refine z_goto (tgt := 17) C dX3_isPlace_13 (by decide) ?_
      exact z_zret C hR (by decide) dX3_isPlace_17 (Nat.le_of_ble_eq_true rfl) (Nat.le_of_ble_eq_true rfl) (⟨by unfold b2; first | rw [if_pos (by omega)] | rw [if_neg (by omega)], rfl⟩)
theorem hi_X3_heightAt_X3 : ∀ w ∈ wsX30, w ∈ wsX3_heightAt := by decide +kernel
set_option maxHeartbeats 1000000 in
set_option maxRecDepth 100000 in
theorem k_heightAt (l : Launch) (D : va_G) (cI cZ cM cL : ClassId) (a c s nc ns : Nat) (CC SS NC NS : Int → Int) (fl sp : Int) (p : Int) (hp : -1000 ≤ p ∧ p ≤ 1000) (hW : stW sp SS) : zN l yX3_heightAt wsX3_heightAt { frames := 1, cells := 0, slots := 0, locals := 21 } D (zTy cI cZ cM cL) [.ref a, .int (iI p)] (skW cI a c s nc ns CC SS NC NS fl sp) (fun r w => r = some (.int (iI (hgt sp SS p))) ∧ w = (skW cI a c s nc ns CC SS NC NS fl sp)) 0 0 := by
  refine zN_of (cc := cX3_heightAt) (maxL := 2) (lv0 := [some (.ref a), some (.int (iI p))]) (by decide) rfl rfl (Nat.le_of_ble_eq_true rfl) rfl ?_
  intro E Q C hE hR hI0
  obtain ⟨hs0, hs1, -, -, -⟩ := id hW
  have hbR : 0 ≤ b2 (0 ≤ p ∧ p < sp) ∧ b2 (0 ≤ p ∧ p < sp) ≤ 1 := by unfold b2; split <;> omega
  refine (show zG E Q 0 0 [(a, .inr (3, [.ref c, .ref s, .ref nc, .ref ns, .int (iI fl), .int (iI sp)])), (c, ai cI 32 CC), (s, ai cI 33 SS), (nc, ai cI 32 NC), (ns, ai cI 33 NS)] [some (.ref a), some (.int (iI p))] 0 [] from ?_)
  refine z_aload_n (i := 0) C dX3_heightAt_0 rfl rfl ?_
  refine z_iload_n (i := 1) C dX3_heightAt_1 rfl rfl ?_
  refine z_callV (n := 1) (As := [.int (iI p)]) (st := []) (fr := []) C hE (k_isPlace l D cI cZ cM cL a c s nc ns CC SS NC NS fl sp p ⟨by omega, by omega⟩ ⟨by omega, by omega⟩) gX3_heightAt_X3_isPlace rfl ⟨rfl, rfl⟩ (by decide +kernel) ⟨Nat.le_of_ble_eq_true rfl, Nat.le_of_ble_eq_true rfl⟩ rfl rfl (List.Perm.refl _) 0 rfl rfl rfl (Nat.le_of_ble_eq_true rfl) ⟨Nat.le_of_ble_eq_true rfl, Nat.le_of_ble_eq_true rfl⟩ dX3_heightAt_2 (fun r w1 hpo => ?_)
  obtain ⟨rfl, rfl⟩ := hpo
  refine (show zG E Q (0) (0) [(a, .inr (3, [.ref c, .ref s, .ref nc, .ref ns, .int (iI fl), .int (iI sp)])), (c, ai cI 32 CC), (s, ai cI 33 SS), (nc, ai cI 32 NC), (ns, ai cI 33 NS)] [some (.ref a), some (.int (iI p))] 5 [.int (iI (b2 (0 ≤ p ∧ p < sp)))] from ?_)
  refine z_if_eqI (tgt := 26) C dX3_heightAt_5 (by decide) ⟨by omega, by omega⟩ (fun hb => ?_) (fun hb => ?_)
  · have hin : ¬ (0 ≤ p ∧ p < sp) := by unfold b2 at hb; split at hb <;> omega
    refine z_iconst (v := iI 0) C dX3_heightAt_26 rfl ?_
    exact z_iret C hR dX3_heightAt_27 (Nat.le_of_ble_eq_true rfl) (Nat.le_of_ble_eq_true rfl) (⟨by unfold hgt; first | rw [if_pos hin] | rw [if_neg hin], rfl⟩)
  · have hin : 0 ≤ p ∧ p < sp := by unfold b2 at hb; split at hb <;> omega
    have h1 := hW.2.2.2.1 p (by omega) (by omega)
    have h2 := hW.2.2.2.1 (p + 1) (by omega) (by omega)
    refine z_aload_n (i := 0) C dX3_heightAt_8 rfl rfl ?_
    refine z_get (ci := 3) C (hi_X3_heightAt_X3) 0 rfl rfl 1 (by decide) (by decide +kernel) rfl dX3_heightAt_9 ?_
    refine z_iload_n (i := 1) C dX3_heightAt_12 rfl rfl ?_
    refine z_iconst (v := iI 1) C dX3_heightAt_13 rfl ?_
    refine z_iaddI (v := p + 1) C dX3_heightAt_14 (by omega) ?_
    refine z_ialoadI 2 (he := rfl) C (zT_of hE (t0 := 0) rfl) (by omega) (by omega) (by decide) dX3_heightAt_15 ?_
    refine z_aload_n (i := 0) C dX3_heightAt_16 rfl rfl ?_
    refine z_get (ci := 3) C (hi_X3_heightAt_X3) 0 rfl rfl 1 (by decide) (by decide +kernel) rfl dX3_heightAt_17 ?_
    refine z_iload_n (i := 1) C dX3_heightAt_20 rfl rfl ?_
    refine z_ialoadI 2 (he := rfl) C (zT_of hE (t0 := 0) rfl) (by omega) (by omega) (by decide) dX3_heightAt_21 ?_
    refine z_isubI (v := (SS (p + 1)) - (SS p)) C dX3_heightAt_22 (by omega) ?_
    refine z_goto (tgt := 27) C dX3_heightAt_23 (by decide) ?_
    exact z_iret C hR dX3_heightAt_27 (Nat.le_of_ble_eq_true rfl) (Nat.le_of_ble_eq_true rfl) (⟨by unfold hgt; first | rw [if_pos hin] | rw [if_neg hin], rfl⟩)
theorem hi_X3_cellIn_X3 : ∀ w ∈ wsX30, w ∈ wsX3_cellIn := by decide +kernel
set_option maxHeartbeats 1000000 in
set_option maxRecDepth 100000 in
theorem k_cellIn (l : Launch) (D : va_G) (cI cZ cM cL : ClassId) (a c s nc ns : Nat) (CC SS NC NS : Int → Int) (fl sp : Int) (p h : Int) (hp : -1000 ≤ p ∧ p ≤ 1000) (hh : iR h) (hW : stW sp SS) : zN l yX3_cellIn wsX3_cellIn { frames := 2, cells := 0, slots := 0, locals := 42 } D (zTy cI cZ cM cL) [.ref a, .int (iI p), .int (iI h)] (skW cI a c s nc ns CC SS NC NS fl sp) (fun r w => r = some (.int (iI (cin sp SS CC p h))) ∧ w = (skW cI a c s nc ns CC SS NC NS fl sp)) 0 0 := by
  refine zN_of (cc := cX3_cellIn) (maxL := 3) (lv0 := [some (.ref a), some (.int (iI p)), some (.int (iI h))]) (by decide) rfl rfl (Nat.le_of_ble_eq_true rfl) rfl ?_
  intro E Q C hE hR hI0
  have hg0 := hW.hgt0 p
  have hg1 := hW.hgt32 p
  obtain ⟨hs0, hs1, -, -, -⟩ := id hW
  refine (show zG E Q 0 0 [(a, .inr (3, [.ref c, .ref s, .ref nc, .ref ns, .int (iI fl), .int (iI sp)])), (c, ai cI 32 CC), (s, ai cI 33 SS), (nc, ai cI 32 NC), (ns, ai cI 33 NS)] [some (.ref a), some (.int (iI p)), some (.int (iI h))] 0 [] from ?_)
  refine z_iload_n (i := 2) C dX3_cellIn_0 rfl rfl ?_
  refine z_if_ltI (tgt := 13) C dX3_cellIn_1 (by decide) ⟨by omega, by omega⟩ (fun h_1 => ?_) (fun h_1 => ?_)
  · refine z_iconst (v := iI (-1)) C dX3_cellIn_13 rfl ?_
    exact z_iret C hR dX3_cellIn_14 (Nat.le_of_ble_eq_true rfl) (Nat.le_of_ble_eq_true rfl) (⟨by unfold cin; rw [if_pos (by omega)], rfl⟩)
  · refine z_iload_n (i := 2) C dX3_cellIn_4 rfl rfl ?_
    refine z_aload_n (i := 0) C dX3_cellIn_5 rfl rfl ?_
    refine z_iload_n (i := 1) C dX3_cellIn_6 rfl rfl ?_
    refine z_callV (n := 1) (As := [.int (iI p)]) (st := [.int (iI h)]) (fr := []) C hE (k_heightAt l D cI cZ cM cL a c s nc ns CC SS NC NS fl sp p hp hW) gX3_cellIn_X3_heightAt rfl ⟨rfl, rfl⟩ (by decide +kernel) ⟨Nat.le_of_ble_eq_true rfl, Nat.le_of_ble_eq_true rfl⟩ rfl rfl (List.Perm.refl _) 0 rfl rfl rfl (Nat.le_of_ble_eq_true rfl) ⟨Nat.le_of_ble_eq_true rfl, Nat.le_of_ble_eq_true rfl⟩ dX3_cellIn_7 (fun r w1 hpo => ?_)
    obtain ⟨rfl, rfl⟩ := hpo
    refine (show zG E Q (0) (0) [(a, .inr (3, [.ref c, .ref s, .ref nc, .ref ns, .int (iI fl), .int (iI sp)])), (c, ai cI 32 CC), (s, ai cI 33 SS), (nc, ai cI 32 NC), (ns, ai cI 33 NS)] [some (.ref a), some (.int (iI p)), some (.int (iI h))] 10 [.int (iI (hgt sp SS p)), .int (iI h)] from ?_)
    refine z_icmp_ltI (tgt := 15) C dX3_cellIn_10 (by decide) ⟨by omega, by omega⟩ ⟨by omega, by omega⟩ (fun h_2 => ?_) (fun h_2 => ?_)
    · have hin : 0 ≤ p ∧ p < sp := by have := h_2; unfold hgt at this; split at this <;> omega
      have h1 := hW.2.2.2.1 p (by omega) (by omega)
      have h2 := hW.2.2.2.1 (p + 1) (by omega) (by omega)
      have h3 : h < SS (p + 1) - SS p := by have := h_2; unfold hgt at this; rw [if_pos hin] at this; exact this
      refine z_aload_n (i := 0) C dX3_cellIn_15 rfl rfl ?_
      refine z_get (ci := 3) C (hi_X3_cellIn_X3) 0 rfl rfl 0 (by decide) (by decide +kernel) rfl dX3_cellIn_16 ?_
      refine z_aload_n (i := 0) C dX3_cellIn_19 rfl rfl ?_
      refine z_get (ci := 3) C (hi_X3_cellIn_X3) 0 rfl rfl 1 (by decide) (by decide +kernel) rfl dX3_cellIn_20 ?_
      refine z_iload_n (i := 1) C dX3_cellIn_23 rfl rfl ?_
      refine z_ialoadI 2 (he := rfl) C (zT_of hE (t0 := 0) rfl) (by omega) (by omega) (by decide) dX3_cellIn_24 ?_
      refine z_iload_n (i := 2) C dX3_cellIn_25 rfl rfl ?_
      refine z_iaddI (v := (SS p) + h) C dX3_cellIn_26 (by omega) ?_
      refine z_ialoadI 1 (he := rfl) C (zT_of hE (t0 := 0) rfl) (by omega) (by omega) (by decide) dX3_cellIn_27 ?_
      exact z_iret C hR dX3_cellIn_28 (Nat.le_of_ble_eq_true rfl) (Nat.le_of_ble_eq_true rfl) (⟨by unfold cin; rw [if_neg (by omega)], rfl⟩)
    · refine z_iconst (v := iI (-1)) C dX3_cellIn_13 rfl ?_
      exact z_iret C hR dX3_cellIn_14 (Nat.le_of_ble_eq_true rfl) (Nat.le_of_ble_eq_true rfl) (⟨by unfold cin; rw [if_pos (by omega)], rfl⟩)
theorem hi_X3_copyCell_X3 : ∀ w ∈ wsX30, w ∈ wsX3_copyCell := by decide +kernel
set_option maxHeartbeats 1000000 in
set_option maxRecDepth 100000 in
theorem k_copyCell (l : Launch) (D : va_G) (cI cZ cM cL : ClassId) (a c s nc ns : Nat) (CC SS NC NS : Int → Int) (fl sp : Int) (q : Int) (hq : 0 ≤ q ∧ q < 32) (hf : 0 ≤ fl ∧ fl < 32) : zN l yX3_copyCell wsX3_copyCell { frames := 0, cells := 0, slots := 0, locals := 0 } D (zTy cI cZ cM cL) [.ref a, .int (iI q)] (skW cI a c s nc ns CC SS NC NS fl sp) (fun r w => r = none ∧ w = (skW cI a c s nc ns CC SS (zup NC fl (CC q)) NS (fl + 1) sp)) 0 0 := by
  refine zN_of (cc := cX3_copyCell) (maxL := 2) (lv0 := [some (.ref a), some (.int (iI q))]) (by decide) rfl rfl (Nat.le_of_ble_eq_true rfl) rfl ?_
  intro E Q C hE hR hI0
  refine (show zG E Q 0 0 [(a, .inr (3, [.ref c, .ref s, .ref nc, .ref ns, .int (iI fl), .int (iI sp)])), (c, ai cI 32 CC), (s, ai cI 33 SS), (nc, ai cI 32 NC), (ns, ai cI 33 NS)] [some (.ref a), some (.int (iI q))] 0 [] from ?_)
  refine z_iload_n (i := 1) C dX3_copyCell_0 rfl rfl ?_
  refine z_if_ltI (tgt := 50) C dX3_copyCell_1 (by decide) ⟨by omega, by omega⟩ (fun h => by exfalso; omega) (fun _ => ?_)
  refine z_iload_n (i := 1) C dX3_copyCell_4 rfl rfl ?_
  refine z_aload_n (i := 0) C dX3_copyCell_5 rfl rfl ?_
  refine z_get (ci := 3) C (hi_X3_copyCell_X3) 0 rfl rfl 0 (by decide) (by decide +kernel) rfl dX3_copyCell_6 ?_
  refine z_alen (v := iI 32) C 1 rfl (zT_of hE (t0 := 0) rfl) rfl dX3_copyCell_9 ?_
  refine z_icmp_geI (tgt := 50) C dX3_copyCell_10 (by decide) ⟨by omega, by omega⟩ ⟨by omega, by omega⟩ (fun h => by exfalso; omega) (fun _ => ?_)
  refine z_aload_n (i := 0) C dX3_copyCell_13 rfl rfl ?_
  refine z_get (ci := 3) C (hi_X3_copyCell_X3) 0 rfl rfl 4 (by decide) (by decide +kernel) rfl dX3_copyCell_14 ?_
  refine z_aload_n (i := 0) C dX3_copyCell_17 rfl rfl ?_
  refine z_get (ci := 3) C (hi_X3_copyCell_X3) 0 rfl rfl 2 (by decide) (by decide +kernel) rfl dX3_copyCell_18 ?_
  refine z_alen (v := iI 32) C 3 rfl (zT_of hE (t0 := 0) rfl) rfl dX3_copyCell_21 ?_
  refine z_icmp_geI (tgt := 50) C dX3_copyCell_22 (by decide) ⟨by omega, by omega⟩ ⟨by omega, by omega⟩ (fun h => by exfalso; omega) (fun _ => ?_)
  refine z_aload_n (i := 0) C dX3_copyCell_25 rfl rfl ?_
  refine z_get (ci := 3) C (hi_X3_copyCell_X3) 0 rfl rfl 2 (by decide) (by decide +kernel) rfl dX3_copyCell_26 ?_
  refine z_aload_n (i := 0) C dX3_copyCell_29 rfl rfl ?_
  refine z_get (ci := 3) C (hi_X3_copyCell_X3) 0 rfl rfl 4 (by decide) (by decide +kernel) rfl dX3_copyCell_30 ?_
  refine z_aload_n (i := 0) C dX3_copyCell_33 rfl rfl ?_
  refine z_get (ci := 3) C (hi_X3_copyCell_X3) 0 rfl rfl 0 (by decide) (by decide +kernel) rfl dX3_copyCell_34 ?_
  refine z_iload_n (i := 1) C dX3_copyCell_37 rfl rfl ?_
  refine z_ialoadI 1 (he := rfl) C (zT_of hE (t0 := 0) rfl) (by omega) (by omega) (by decide) dX3_copyCell_38 ?_
  refine z_iastoreI 3 (he := rfl) (ws' := [(a, .inr (3, [.ref c, .ref s, .ref nc, .ref ns, .int (iI fl), .int (iI sp)])), (c, ai cI 32 CC), (s, ai cI 33 SS), (nc, ai cI 32 (zup NC fl (CC q))), (ns, ai cI 33 NS)]) C (zT_of hE (t0 := 0) rfl) (by omega) (by omega) (by decide) rfl dX3_copyCell_39 ?_
  refine z_aload_n (i := 0) C dX3_copyCell_40 rfl rfl ?_
  refine z_dup C dX3_copyCell_41 rfl ?_
  refine z_get (ci := 3) C (hi_X3_copyCell_X3) 0 rfl rfl 4 (by decide) (by decide +kernel) rfl dX3_copyCell_42 ?_
  refine z_iconst (v := iI 1) C dX3_copyCell_45 rfl ?_
  refine z_iaddI (v := fl + 1) C dX3_copyCell_46 (by omega) ?_
  refine z_put (ci := 3) (ws' := [(a, .inr (3, [.ref c, .ref s, .ref nc, .ref ns, .int (iI (fl + 1)), .int (iI sp)])), (c, ai cI 32 CC), (s, ai cI 33 SS), (nc, ai cI 32 (zup NC fl (CC q))), (ns, ai cI 33 NS)]) C (hi_X3_copyCell_X3) tyX3_ok nmX3 0 rfl rfl 4 (by decide) (by decide +kernel) rfl (tyX3_ok 4 (by decide)) rfl rfl (Nat.le_of_ble_eq_true rfl) rfl dX3_copyCell_47 ?_
  exact z_vret C hR dX3_copyCell_50 (Nat.le_of_ble_eq_true rfl) (Nat.le_of_ble_eq_true rfl) (⟨rfl, rfl⟩)
