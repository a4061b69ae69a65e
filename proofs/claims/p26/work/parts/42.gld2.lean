/-! THE GUILD: what goes over the models. -/
theorem hi_X4_modelsCountedFor_X4 : ∀ w ∈ wsX40, w ∈ wsX4_modelsCountedFor := by decide +kernel
set_option maxHeartbeats 1000000 in
set_option maxRecDepth 100000 in
theorem k_modelsCounted (l : Launch) (hl : l.stackTraces = false) (D : va_G) (cI cZ cM cL : ClassId) (h nd kn gm us fo fh mi : Nat) (n : Nat) (US : Int → Int32) (i0 : Int) : zN l yX4_modelsCountedFor wsX4_modelsCountedFor { frames := 2, cells := 0, slots := 0, locals := 46 } D (zTy cI cZ cM cL) [.ref h, .int (iI i0)] [(h, .inr (4, [.ref nd, .ref kn, .ref gm, .ref us, .int (iI (↑n)), .ref fo, .ref fh, .ref mi])), (us, ar cI 8 US)] (fun r w => r = some (.int (mcB US i0)) ∧ w = [(h, .inr (4, [.ref nd, .ref kn, .ref gm, .ref us, .int (iI (↑n)), .ref fo, .ref fh, .ref mi])), (us, ar cI 8 US)]) 0 0 := by
  refine zN_of (cc := cX4_modelsCountedFor) (maxL := 2) (lv0 := [some (.ref h), some (.int (iI i0))]) (by decide) rfl rfl (Nat.le_of_ble_eq_true rfl) rfl ?_
  intro E Q C hE hR hI0
  refine z_iconst (v := iI 1) C dX4_modelsCountedFor_0 rfl ?_
  refine z_iload_n (i := 1) C dX4_modelsCountedFor_1 rfl rfl ?_
  refine z_ishl C dX4_modelsCountedFor_2 ?_
  refine z_aload_n (i := 0) C dX4_modelsCountedFor_3 rfl rfl ?_
  refine z_get (ci := 4) C (hi_X4_modelsCountedFor_X4) 0 rfl rfl 3 (by decide) (by decide +kernel) rfl dX4_modelsCountedFor_4 ?_
  refine z_iconst (v := iI (-1)) C dX4_modelsCountedFor_7 rfl ?_
  refine z_callS (n := 3) (As := [.int ((iI 1) <<< ((iI i0) &&& 31)), .ref us, .int (iI (-1))]) (st := []) (fr := [(h, .inr (4, [.ref nd, .ref kn, .ref gm, .ref us, .int (iI (↑n)), .ref fo, .ref fh, .ref mi]))]) C hE (k_reached l D cI cZ cM cL us US ((iI 1) <<< ((iI i0) &&& 31)) (iI (-1))) gX4_modelsCountedFor_X4_reached rfl ⟨rfl, rfl⟩ (by decide +kernel) ⟨Nat.le_of_ble_eq_true rfl, Nat.le_of_ble_eq_true rfl⟩ rfl rfl (z_plN 2 [1, 0] rfl (by decide +kernel) rfl) (Nat.le_of_ble_eq_true rfl) ⟨Nat.le_of_ble_eq_true rfl, Nat.le_of_ble_eq_true rfl⟩ dX4_modelsCountedFor_8 (fun r w1 hpo => ?_)
  obtain ⟨rfl, rfl⟩ := hpo
  refine (show zG E Q (0) (0) [(us, ar cI 8 US), (h, .inr (4, [.ref nd, .ref kn, .ref gm, .ref us, .int (iI (↑n)), .ref fo, .ref fh, .ref mi]))] [some (.ref h), some (.int (iI i0))] 11 [.int (mcB US i0)] from ?_)
  refine z_perm (z_places (w := [(h, .inr (4, [.ref nd, .ref kn, .ref gm, .ref us, .int (iI (↑n)), .ref fo, .ref fh, .ref mi])), (us, ar cI 8 US)]) [1, 0] rfl rfl) ?_
  exact z_iret C hR dX4_modelsCountedFor_11 (Nat.le_of_ble_eq_true rfl) (Nat.le_of_ble_eq_true rfl) (⟨rfl, rfl⟩)
theorem hi_X4_modelsOf_X2 : ∀ w ∈ wsX20, w ∈ wsX4_modelsOf := by decide +kernel
theorem hi_X4_modelsOf_X4 : ∀ w ∈ wsX40, w ∈ wsX4_modelsOf := by decide +kernel
set_option maxHeartbeats 1000000 in
set_option maxRecDepth 100000 in
theorem k_modelsOf (l : Launch) (hl : l.stackTraces = false) (D : va_G) (cI cZ cM cL : ClassId) (h nd kn gm us fo fh mi fw wt : Nat) (n : Nat) (ND KN US : Int → Int32) (μ : Nat → zM) (x t s0 : Int) (FH : Int → Int) (L : Int) (d : Int32) (A B : Int → Int) (hg : gdO n μ L) (au0 : Int) (ha : 0 ≤ au0 ∧ au0 ≤ 9) : zN l yX4_modelsOf wsX4_modelsOf { frames := 8, cells := 16, slots := 96, locals := 133 } D (zTy cI cZ cM cL) [.ref h, .int (iI au0)] (gdW cI cZ cM h nd kn gm us fo fh mi fw wt n ND KN US (μ) x t s0 FH L d A B) (fun r w => r = some (.int (moB μ au0 n)) ∧ w = (gdW cI cZ cM h nd kn gm us fo fh mi fw wt n ND KN US (μ) x t s0 FH L d A B)) 16 96 := by
  refine zN_of (cc := cX4_modelsOf) (maxL := 4) (lv0 := [some (.ref h), some (.int (iI au0)), none, none]) (by decide) rfl rfl (Nat.le_of_ble_eq_true rfl) rfl ?_
  intro E Q C hE hR hI0
  refine (show zG E Q 0 0 ([(h, .inr (4, [.ref nd, .ref kn, .ref gm, .ref us, .int (iI (↑n)), .ref fo, .ref fh, .ref mi])), (nd, ar cI 8 ND), (kn, ar cI 6 KN), (gm, rr cM 8 (gmF μ n)), (us, ar cI 8 US), (fo, .inr (0, [.int (iI x), .int (iI t), .int (iI s0)])), (fh, ai cI 32 FH), (mi, .inr (1, [.int (iI L), .int d, .ref fw, .ref wt])), (fw, ai cI 201 A), (wt, ai cI 201 B)] ++ mW cI cZ μ n) [some (.ref h), some (.int (iI au0)), none, none] 0 [] from ?_)
  have lp : ∀ (z j : Nat), j ≤ n → n - j < z → zG E Q (2 * j) (12 * j) ([(h, .inr (4, [.ref nd, .ref kn, .ref gm, .ref us, .int (iI (↑n)), .ref fo, .ref fh, .ref mi])), (nd, ar cI 8 ND), (kn, ar cI 6 KN), (gm, rr cM 8 (gmF μ n)), (us, ar cI 8 US), (fo, .inr (0, [.int (iI x), .int (iI t), .int (iI s0)])), (fh, ai cI 32 FH), (mi, .inr (1, [.int (iI L), .int d, .ref fw, .ref wt])), (fw, ai cI 201 A), (wt, ai cI 201 B)] ++ mW cI cZ μ n) [some (.ref h), some (.int (iI au0)), some (.int (moB μ au0 j)), some (.int (iI ↑j))] 4 [] := by
    intro z
    induction z with
    | zero => intro j hj hjz; omega
    | succ z ih =>
      intro j hj hjz
      have hn8 := hg.1
      refine z_iload_n (i := 3) C dX4_modelsOf_4 rfl rfl ?_
      refine z_aload_n (i := 0) C dX4_modelsOf_5 rfl rfl ?_
      refine z_get (ci := 4) C (hi_X4_modelsOf_X4) 0 rfl rfl 4 (by decide) (by decide +kernel) rfl dX4_modelsOf_6 ?_
      refine z_icmp_geI (tgt := 36) C dX4_modelsOf_9 (by decide) ⟨by omega, by omega⟩ ⟨by omega, by omega⟩ (fun hk => ?_) (fun hk => ?_)
      · refine z_widen (k := 16) (n := 96) (by omega) (by omega) ?_
        refine z_iload_n (i := 2) C dX4_modelsOf_36 rfl rfl ?_
        exact z_iret C hR dX4_modelsOf_37 (Nat.le_of_ble_eq_true rfl) (Nat.le_of_ble_eq_true rfl) (⟨by rw [show j = n by omega], rfl⟩)
      · have hjn : j < n := by omega
        refine z_perm (ws' := [(h, .inr (4, [.ref nd, .ref kn, .ref gm, .ref us, .int (iI (↑n)), .ref fo, .ref fh, .ref mi])), (nd, ar cI 8 ND), (kn, ar cI 6 KN), (gm, rr cM 8 (gmF μ n)), (us, ar cI 8 US), (fo, .inr (0, [.int (iI x), .int (iI t), .int (iI s0)])), (fh, ai cI 32 FH), (mi, .inr (1, [.int (iI L), .int d, .ref fw, .ref wt])), (fw, ai cI 201 A), (wt, ai cI 201 B)] ++ (mdl cI cZ (μ j) ++ mR cI cZ μ n j)) (List.Perm.append_left _ (mW_open cI cZ μ hjn)) ?_
        have hO := hg.2.1 j hjn
        have hback := (mW_open cI cZ μ hjn).symm
        have hAt : gmF μ n ((j : Nat) : Int) = some (mdA (μ j)) := by unfold gmF; rw [if_pos (by omega), Int.toNat_natCast]
        generalize hu : μ j = u at *
        obtain ⟨m, ka, pa, la, a, c, s, nc, ns, au, len, sn, K, P, F, CC, SS, NC, NS, fl, sp⟩ := u
        obtain ⟨oau, olen, osn, ost, osp, ogeo, okd⟩ := id hO
        have osg := stV_gS ost (by omega) sn.toNat (by omega)
        refine (show zG E Q (2 * j) (12 * j) ([(h, .inr (4, [.ref nd, .ref kn, .ref gm, .ref us, .int (iI (↑n)), .ref fo, .ref fh, .ref mi])), (nd, ar cI 8 ND), (kn, ar cI 6 KN), (gm, rr cM 8 (gmF μ n)), (us, ar cI 8 US), (fo, .inr (0, [.int (iI x), .int (iI t), .int (iI s0)])), (fh, ai cI 32 FH), (mi, .inr (1, [.int (iI L), .int d, .ref fw, .ref wt])), (fw, ai cI 201 A), (wt, ai cI 201 B), (m, .inr (2, [.int (iI au), .int (iI len), .ref ka, .ref pa, .ref la, .int (iI sn), .ref a])), (ka, ai cI 10 K), (pa, ai cI 10 P), (la, ai cZ 10 F), (a, .inr (3, [.ref c, .ref s, .ref nc, .ref ns, .int (iI fl), .int (iI sp)])), (c, ai cI 32 CC), (s, ai cI 33 SS), (nc, ai cI 32 NC), (ns, ai cI 33 NS)] ++ mR cI cZ μ n j) [some (.ref h), some (.int (iI au0)), some (.int (moB μ au0 j)), some (.int (iI ↑j))] 12 [] from ?_)
        refine z_aload_n (i := 0) C dX4_modelsOf_12 rfl rfl ?_
        refine z_iload_n (i := 3) C dX4_modelsOf_13 rfl rfl ?_
        refine z_callVx (n := 1) (As := [.int (iI ↑j)]) (st := []) (fr := ([(nd, ar cI 8 ND), (kn, ar cI 6 KN), (us, ar cI 8 US), (fo, .inr (0, [.int (iI x), .int (iI t), .int (iI s0)])), (fh, ai cI 32 FH), (mi, .inr (1, [.int (iI L), .int d, .ref fw, .ref wt])), (fw, ai cI 201 A), (wt, ai cI 201 B), (m, .inr (2, [.int (iI au), .int (iI len), .ref ka, .ref pa, .ref la, .int (iI sn), .ref a])), (ka, ai cI 10 K), (pa, ai cI 10 P), (la, ai cZ 10 F), (a, .inr (3, [.ref c, .ref s, .ref nc, .ref ns, .int (iI fl), .int (iI sp)])), (c, ai cI 32 CC), (s, ai cI 33 SS), (nc, ai cI 32 NC), (ns, ai cI 33 NS)] ++ mR cI cZ μ n j)) C hE (k_modelAt l hl D cI cZ cM cL h nd kn gm us fo fh mi n (gmF μ n) (↑j) m ⟨by omega, by omega⟩ (by omega) (fun _ _ => hAt)) gX4_modelsOf_X4_modelAt rfl ⟨rfl, rfl⟩ (by decide +kernel) ⟨Nat.le_of_ble_eq_true rfl, Nat.le_of_ble_eq_true rfl⟩ rfl rfl (z_plT (w := [(h, .inr (4, [.ref nd, .ref kn, .ref gm, .ref us, .int (iI (↑n)), .ref fo, .ref fh, .ref mi])), (gm, rr cM 8 (gmF μ n)), (nd, ar cI 8 ND), (kn, ar cI 6 KN), (us, ar cI 8 US), (fo, .inr (0, [.int (iI x), .int (iI t), .int (iI s0)])), (fh, ai cI 32 FH), (mi, .inr (1, [.int (iI L), .int d, .ref fw, .ref wt])), (fw, ai cI 201 A), (wt, ai cI 201 B), (m, .inr (2, [.int (iI au), .int (iI len), .ref ka, .ref pa, .ref la, .int (iI sn), .ref a])), (ka, ai cI 10 K), (pa, ai cI 10 P), (la, ai cZ 10 F), (a, .inr (3, [.ref c, .ref s, .ref nc, .ref ns, .int (iI fl), .int (iI sp)])), (c, ai cI 32 CC), (s, ai cI 33 SS), (nc, ai cI 32 NC), (ns, ai cI 33 NS)]) 19 [0, 3, 1, 2, 4, 5, 6, 7, 8, 9, 10, 11, 12, 13, 14, 15, 16, 17, 18] rfl (by decide +kernel) rfl) 0 rfl rfl rfl (Nat.le_of_ble_eq_true rfl) ⟨by show 2 * j + 2 ≤ 16; omega, by show 12 * j + 12 ≤ 96; omega⟩ dX4_modelsOf_14 (fun Ex hpx => absurd (show 0 ≤ ((j : Nat) : Int) ∧ ((j : Nat) : Int) < n by omega) hpx.1) (fun r w1 hpo => ?_)
        obtain ⟨rfl, hin, rfl⟩ := hpo
        refine (show zG E Q (2 * j + 2) (12 * j + 12) ([(h, .inr (4, [.ref nd, .ref kn, .ref gm, .ref us, .int (iI (↑n)), .ref fo, .ref fh, .ref mi])), (gm, rr cM 8 (gmF μ n)), (nd, ar cI 8 ND), (kn, ar cI 6 KN), (us, ar cI 8 US), (fo, .inr (0, [.int (iI x), .int (iI t), .int (iI s0)])), (fh, ai cI 32 FH), (mi, .inr (1, [.int (iI L), .int d, .ref fw, .ref wt])), (fw, ai cI 201 A), (wt, ai cI 201 B), (m, .inr (2, [.int (iI au), .int (iI len), .ref ka, .ref pa, .ref la, .int (iI sn), .ref a])), (ka, ai cI 10 K), (pa, ai cI 10 P), (la, ai cZ 10 F), (a, .inr (3, [.ref c, .ref s, .ref nc, .ref ns, .int (iI fl), .int (iI sp)])), (c, ai cI 32 CC), (s, ai cI 33 SS), (nc, ai cI 32 NC), (ns, ai cI 33 NS)] ++ mR cI cZ μ n j) [some (.ref h), some (.int (iI au0)), some (.int (moB μ au0 j)), some (.int (iI ↑j))] 17 [.ref m] from ?_)
        refine z_get (ci := 2) C (hi_X4_modelsOf_X2) 10 rfl rfl 0 (by decide) (by decide +kernel) rfl dX4_modelsOf_17 ?_
        refine z_iload_n (i := 1) C dX4_modelsOf_20 rfl rfl ?_
        refine z_icmp_neI (tgt := 30) C dX4_modelsOf_21 (by decide) ⟨by omega, by omega⟩ ⟨by omega, by omega⟩ (fun hau => ?_) (fun hau => ?_)
        · refine z_iincI (v := ↑(j + 1)) (lv' := [some (.ref h), some (.int (iI au0)), some (.int (moB μ au0 j)), some (.int (iI (↑(j + 1))))]) C dX4_modelsOf_30 rfl (by omega) rfl ?_
          refine z_goto (tgt := 4) C dX4_modelsOf_33 (by decide) ?_
          have e1 : (moB μ au0 j) = moB μ au0 (j + 1) := by
            rw [show moB μ au0 (j + 1) = if mau (μ j) = au0 then moB μ au0 j ||| (iI 1 <<< (iI ↑j &&& 31)) else moB μ au0 j from rfl]
            first | rw [if_pos (by rw [hu]; exact hau)] | rw [if_neg (by rw [hu]; exact hau)]
          rw [e1]
          refine z_perm (z_plT (w := [(h, .inr (4, [.ref nd, .ref kn, .ref gm, .ref us, .int (iI (↑n)), .ref fo, .ref fh, .ref mi])), (nd, ar cI 8 ND), (kn, ar cI 6 KN), (gm, rr cM 8 (gmF μ n)), (us, ar cI 8 US), (fo, .inr (0, [.int (iI x), .int (iI t), .int (iI s0)])), (fh, ai cI 32 FH), (mi, .inr (1, [.int (iI L), .int d, .ref fw, .ref wt])), (fw, ai cI 201 A), (wt, ai cI 201 B), (m, .inr (2, [.int (iI au), .int (iI len), .ref ka, .ref pa, .ref la, .int (iI sn), .ref a])), (ka, ai cI 10 K), (pa, ai cI 10 P), (la, ai cZ 10 F), (a, .inr (3, [.ref c, .ref s, .ref nc, .ref ns, .int (iI fl), .int (iI sp)])), (c, ai cI 32 CC), (s, ai cI 33 SS), (nc, ai cI 32 NC), (ns, ai cI 33 NS)]) 19 [0, 2, 3, 1, 4, 5, 6, 7, 8, 9, 10, 11, 12, 13, 14, 15, 16, 17, 18] rfl (by decide +kernel) rfl) ?_
          refine z_perm (ws' := [(h, .inr (4, [.ref nd, .ref kn, .ref gm, .ref us, .int (iI (↑n)), .ref fo, .ref fh, .ref mi])), (nd, ar cI 8 ND), (kn, ar cI 6 KN), (gm, rr cM 8 (gmF μ n)), (us, ar cI 8 US), (fo, .inr (0, [.int (iI x), .int (iI t), .int (iI s0)])), (fh, ai cI 32 FH), (mi, .inr (1, [.int (iI L), .int d, .ref fw, .ref wt])), (fw, ai cI 201 A), (wt, ai cI 201 B)] ++ mW cI cZ μ n) (List.Perm.append_left [(h, .inr (4, [.ref nd, .ref kn, .ref gm, .ref us, .int (iI (↑n)), .ref fo, .ref fh, .ref mi])), (nd, ar cI 8 ND), (kn, ar cI 6 KN), (gm, rr cM 8 (gmF μ n)), (us, ar cI 8 US), (fo, .inr (0, [.int (iI x), .int (iI t), .int (iI s0)])), (fh, ai cI 32 FH), (mi, .inr (1, [.int (iI L), .int d, .ref fw, .ref wt])), (fw, ai cI 201 A), (wt, ai cI 201 B)] hback) ?_
          refine z_widen (k := 2 * (j + 1)) (n := 12 * (j + 1)) (by omega) (by omega) ?_
          exact ih (j + 1) (by omega) (by omega)
        · refine z_iload_n (i := 2) C dX4_modelsOf_24 rfl rfl ?_
          refine z_iconst (v := iI 1) C dX4_modelsOf_25 rfl ?_
          refine z_iload_n (i := 3) C dX4_modelsOf_26 rfl rfl ?_
          refine z_ishl C dX4_modelsOf_27 ?_
          refine z_ior C dX4_modelsOf_28 ?_
          refine z_istore_n (i := 2) (lv' := [some (.ref h), some (.int (iI au0)), some (.int ((moB μ au0 j) ||| ((iI 1) <<< ((iI ↑j) &&& 31)))), some (.int (iI ↑j))]) C dX4_modelsOf_29 rfl rfl rfl ?_
          refine z_iincI (v := ↑(j + 1)) (lv' := [some (.ref h), some (.int (iI au0)), some (.int ((moB μ au0 j) ||| ((iI 1) <<< ((iI ↑j) &&& 31)))), some (.int (iI (↑(j + 1))))]) C dX4_modelsOf_30 rfl (by omega) rfl ?_
          refine z_goto (tgt := 4) C dX4_modelsOf_33 (by decide) ?_
          have e1 : ((moB μ au0 j) ||| ((iI 1) <<< ((iI ↑j) &&& 31))) = moB μ au0 (j + 1) := by
            rw [show moB μ au0 (j + 1) = if mau (μ j) = au0 then moB μ au0 j ||| (iI 1 <<< (iI ↑j &&& 31)) else moB μ au0 j from rfl]
            first | rw [if_pos (by rw [hu]; exact hau)] | rw [if_neg (by rw [hu]; exact hau)]
          rw [e1]
          refine z_perm (z_plT (w := [(h, .inr (4, [.ref nd, .ref kn, .ref gm, .ref us, .int (iI (↑n)), .ref fo, .ref fh, .ref mi])), (nd, ar cI 8 ND), (kn, ar cI 6 KN), (gm, rr cM 8 (gmF μ n)), (us, ar cI 8 US), (fo, .inr (0, [.int (iI x), .int (iI t), .int (iI s0)])), (fh, ai cI 32 FH), (mi, .inr (1, [.int (iI L), .int d, .ref fw, .ref wt])), (fw, ai cI 201 A), (wt, ai cI 201 B), (m, .inr (2, [.int (iI au), .int (iI len), .ref ka, .ref pa, .ref la, .int (iI sn), .ref a])), (ka, ai cI 10 K), (pa, ai cI 10 P), (la, ai cZ 10 F), (a, .inr (3, [.ref c, .ref s, .ref nc, .ref ns, .int (iI fl), .int (iI sp)])), (c, ai cI 32 CC), (s, ai cI 33 SS), (nc, ai cI 32 NC), (ns, ai cI 33 NS)]) 19 [0, 2, 3, 1, 4, 5, 6, 7, 8, 9, 10, 11, 12, 13, 14, 15, 16, 17, 18] rfl (by decide +kernel) rfl) ?_
          refine z_perm (ws' := [(h, .inr (4, [.ref nd, .ref kn, .ref gm, .ref us, .int (iI (↑n)), .ref fo, .ref fh, .ref mi])), (nd, ar cI 8 ND), (kn, ar cI 6 KN), (gm, rr cM 8 (gmF μ n)), (us, ar cI 8 US), (fo, .inr (0, [.int (iI x), .int (iI t), .int (iI s0)])), (fh, ai cI 32 FH), (mi, .inr (1, [.int (iI L), .int d, .ref fw, .ref wt])), (fw, ai cI 201 A), (wt, ai cI 201 B)] ++ mW cI cZ μ n) (List.Perm.append_left [(h, .inr (4, [.ref nd, .ref kn, .ref gm, .ref us, .int (iI (↑n)), .ref fo, .ref fh, .ref mi])), (nd, ar cI 8 ND), (kn, ar cI 6 KN), (gm, rr cM 8 (gmF μ n)), (us, ar cI 8 US), (fo, .inr (0, [.int (iI x), .int (iI t), .int (iI s0)])), (fh, ai cI 32 FH), (mi, .inr (1, [.int (iI L), .int d, .ref fw, .ref wt])), (fw, ai cI 201 A), (wt, ai cI 201 B)] hback) ?_
          refine z_widen (k := 2 * (j + 1)) (n := 12 * (j + 1)) (by omega) (by omega) ?_
          exact ih (j + 1) (by omega) (by omega)
  refine z_iconst (v := iI 0) C dX4_modelsOf_0 rfl ?_
  refine z_istore_n (i := 2) (lv' := [some (.ref h), some (.int (iI au0)), some (.int (iI 0)), none]) C dX4_modelsOf_1 rfl rfl rfl ?_
  refine z_iconst (v := iI 0) C dX4_modelsOf_2 rfl ?_
  refine z_istore_n (i := 3) (lv' := [some (.ref h), some (.int (iI au0)), some (.int (iI 0)), some (.int (iI 0))]) C dX4_modelsOf_3 rfl rfl rfl ?_
  exact lp (n + 1) 0 (by omega) (by omega)
