/-! THE GUILD: layers by following. -/
theorem hi_X4_layersByFollowing_X0 : ∀ w ∈ wsX00, w ∈ wsX4_layersByFollowing := by decide +kernel
theorem hi_X4_layersByFollowing_X2 : ∀ w ∈ wsX20, w ∈ wsX4_layersByFollowing := by decide +kernel
theorem hi_X4_layersByFollowing_X4 : ∀ w ∈ wsX40, w ∈ wsX4_layersByFollowing := by decide +kernel
set_option maxHeartbeats 1000000 in
set_option maxRecDepth 100000 in
theorem k_layersByFollowing (l : Launch) (hl : l.stackTraces = false) (D : va_G) (cI cZ cM cL : ClassId) (h nd kn gm us fo fh mi fw wt : Nat) (n : Nat) (ND KN US : Int → Int32) (μ : Nat → zM) (x t s0 : Int) (FH : Int → Int) (L : Int) (d : Int32) (A B : Int → Int) (hg : gdO n μ L) (i0 : Int) (hi0 : iR i0) : zNX l yX4_layersByFollowing wsX4_layersByFollowing { frames := 8, cells := 2, slots := 12, locals := 133 } D (zTy cI cZ cM cL) [.ref h, .int (iI i0)] (gdW cI cZ cM h nd kn gm us fo fh mi fw wt n ND KN US (μ) x t s0 FH L d A B) (fun r w => cM1 n i0 = 0 ∧ r = some (.int (iI (mxR (mgP (μ i0.toNat)) (mle (μ i0.toNat)).toNat))) ∧ ∃ (x1 t1 s1 : Int) (FH1 : Int → Int), w = (gdW cI cZ cM h nd kn gm us fo fh mi fw wt n ND KN US (μ) x1 t1 s1 FH1 L d A B)) (pX (cM1 n i0) "java/lang/IndexOutOfBoundsException" "java/lang/IndexOutOfBoundsException" "java/lang/IndexOutOfBoundsException") 2 12 := by
  refine zNX_of (cc := cX4_layersByFollowing) (maxL := 6) (lv0 := [some (.ref h), some (.int (iI i0)), none, none, none, none]) hl (by decide) rfl rfl (Nat.le_of_ble_eq_true rfl) rfl ?_
  intro E Q C hE hR hT
  refine (show zG E Q 0 0 ([(h, .inr (4, [.ref nd, .ref kn, .ref gm, .ref us, .int (iI (↑n)), .ref fo, .ref fh, .ref mi])), (nd, ar cI 8 ND), (kn, ar cI 6 KN), (gm, rr cM 8 (gmF μ n)), (us, ar cI 8 US), (fo, .inr (0, [.int (iI x), .int (iI t), .int (iI s0)])), (fh, ai cI 32 FH), (mi, .inr (1, [.int (iI L), .int d, .ref fw, .ref wt])), (fw, ai cI 201 A), (wt, ai cI 201 B)] ++ mW cI cZ μ n) [some (.ref h), some (.int (iI i0)), none, none, none, none] 0 [] from ?_)
  by_cases hi : 0 ≤ i0 ∧ i0 < n
  · obtain ⟨k, rfl⟩ := Int.eq_ofNat_of_zero_le hi.1
    have hkn : k < n := by omega
    have hn8 := hg.1
    refine z_aload_n (i := 0) C dX4_layersByFollowing_0 rfl rfl ?_
    refine z_iload_n (i := 1) C dX4_layersByFollowing_1 rfl rfl ?_
    refine z_callVx (n := 1) (As := [.int (iI ↑k)]) (st := []) (fr := ([(nd, ar cI 8 ND), (kn, ar cI 6 KN), (us, ar cI 8 US), (fo, .inr (0, [.int (iI x), .int (iI t), .int (iI s0)])), (fh, ai cI 32 FH), (mi, .inr (1, [.int (iI L), .int d, .ref fw, .ref wt])), (fw, ai cI 201 A), (wt, ai cI 201 B)] ++ mW cI cZ μ n)) C hE (k_modelAt l hl D cI cZ cM cL h nd kn gm us fo fh mi n (gmF μ n) ↑k (mdA (μ k)) ⟨by omega, by omega⟩ hg.1 (fun _ _ => by unfold gmF; rw [if_pos (by omega), Int.toNat_natCast])) gX4_layersByFollowing_X4_modelAt rfl ⟨rfl, rfl⟩ (by decide +kernel) ⟨Nat.le_of_ble_eq_true rfl, Nat.le_of_ble_eq_true rfl⟩ rfl rfl (z_plT (w := [(h, .inr (4, [.ref nd, .ref kn, .ref gm, .ref us, .int (iI (↑n)), .ref fo, .ref fh, .ref mi])), (gm, rr cM 8 (gmF μ n)), (nd, ar cI 8 ND), (kn, ar cI 6 KN), (us, ar cI 8 US), (fo, .inr (0, [.int (iI x), .int (iI t), .int (iI s0)])), (fh, ai cI 32 FH), (mi, .inr (1, [.int (iI L), .int d, .ref fw, .ref wt])), (fw, ai cI 201 A), (wt, ai cI 201 B)]) 10 [0, 3, 1, 2, 4, 5, 6, 7, 8, 9] rfl (by decide +kernel) rfl) 0 rfl rfl rfl (Nat.le_of_ble_eq_true rfl) ⟨Nat.le_of_ble_eq_true rfl, Nat.le_of_ble_eq_true rfl⟩ dX4_layersByFollowing_2 (fun Ex hpx => absurd (show 0 ≤ ((k : Nat) : Int) ∧ ((k : Nat) : Int) < n by omega) hpx.1) (fun r w1 hpo => ?_)
    obtain ⟨rfl, -, rfl⟩ := hpo
    refine (show zG E Q (0 + 2) (0 + 12) ([(h, .inr (4, [.ref nd, .ref kn, .ref gm, .ref us, .int (iI (↑n)), .ref fo, .ref fh, .ref mi])), (gm, rr cM 8 (gmF μ n)), (nd, ar cI 8 ND), (kn, ar cI 6 KN), (us, ar cI 8 US), (fo, .inr (0, [.int (iI x), .int (iI t), .int (iI s0)])), (fh, ai cI 32 FH), (mi, .inr (1, [.int (iI L), .int d, .ref fw, .ref wt])), (fw, ai cI 201 A), (wt, ai cI 201 B)] ++ mW cI cZ μ n) [some (.ref h), some (.int (iI ↑k)), none, none, none, none] 5 [.ref (mdA (μ k))] from ?_)
    refine z_perm (z_plT (w := [(h, .inr (4, [.ref nd, .ref kn, .ref gm, .ref us, .int (iI (↑n)), .ref fo, .ref fh, .ref mi])), (nd, ar cI 8 ND), (kn, ar cI 6 KN), (gm, rr cM 8 (gmF μ n)), (us, ar cI 8 US), (fo, .inr (0, [.int (iI x), .int (iI t), .int (iI s0)])), (fh, ai cI 32 FH), (mi, .inr (1, [.int (iI L), .int d, .ref fw, .ref wt])), (fw, ai cI 201 A), (wt, ai cI 201 B)]) 10 [0, 2, 3, 1, 4, 5, 6, 7, 8, 9] rfl (by decide +kernel) rfl) ?_
    refine z_astore_n (i := 2) (lv' := [some (.ref h), some (.int (iI ↑k)), some (.ref (mdA (μ k))), none, none, none]) C dX4_layersByFollowing_5 rfl rfl rfl ?_
    refine z_perm (ws' := [(h, .inr (4, [.ref nd, .ref kn, .ref gm, .ref us, .int (iI (↑n)), .ref fo, .ref fh, .ref mi])), (nd, ar cI 8 ND), (kn, ar cI 6 KN), (gm, rr cM 8 (gmF μ n)), (us, ar cI 8 US), (fo, .inr (0, [.int (iI x), .int (iI t), .int (iI s0)])), (fh, ai cI 32 FH), (mi, .inr (1, [.int (iI L), .int d, .ref fw, .ref wt])), (fw, ai cI 201 A), (wt, ai cI 201 B)] ++ (mdl cI cZ (μ k) ++ mR cI cZ μ n k)) (List.Perm.append_left _ (mW_open cI cZ μ hkn)) ?_
    have hO := hg.2.1 k hkn
    have hback := (mW_open cI cZ μ hkn).symm
    have hAt : gmF μ n ((k : Nat) : Int) = some (mdA (μ k)) := by unfold gmF; rw [if_pos (by omega), Int.toNat_natCast]
    generalize hu : μ k = u at *
    obtain ⟨m, ka, pa, la, a, c, s, nc, ns, au, len, sn, K, P, F, CC, SS, NC, NS, fl, sp⟩ := u
    obtain ⟨oau, olen, osn, ost, osp, ogeo, okd⟩ := id hO
    have osg := stV_gS ost (by omega) sn.toNat (by omega)
    have hS9 : mgS (μ ((k : Nat) : Int).toNat) = sp := by rw [show μ ((k : Nat) : Int).toNat = _ from hu]; exact osp.symm
    have hN9 : msn (μ ((k : Nat) : Int).toNat) = sn := by rw [show μ ((k : Nat) : Int).toNat = _ from hu]; rfl
    have hL9 : mle (μ ((k : Nat) : Int).toNat) = len := by rw [show μ ((k : Nat) : Int).toNat = _ from hu]; rfl
    have hC9 : ∀ p9 : Int, mcn (μ ((k : Nat) : Int).toNat) p9 = hgt sp SS p9 := by intro p9; rw [show μ ((k : Nat) : Int).toNat = _ from hu]; exact (ogeo.2.2.2.2 p9).symm
    have lq : ∀ (z j : Nat) (x1 t1 s1 : Int) (FH1 : Int → Int), (j : Int) ≤ len → len - j < z → (∀ z9, 0 ≤ z9 → z9 < 32 → FH1 z9 = cnt (gP len P F sn.toNat) z9 j) → zG E Q (0 + 2) (0 + 12) ([(h, .inr (4, [.ref nd, .ref kn, .ref gm, .ref us, .int (iI (↑n)), .ref fo, .ref fh, .ref mi])), (nd, ar cI 8 ND), (kn, ar cI 6 KN), (gm, rr cM 8 (gmF μ n)), (us, ar cI 8 US), (fo, .inr (0, [.int (iI x1), .int (iI t1), .int (iI s1)])), (fh, ai cI 32 FH1), (mi, .inr (1, [.int (iI L), .int d, .ref fw, .ref wt])), (fw, ai cI 201 A), (wt, ai cI 201 B), (m, .inr (2, [.int (iI au), .int (iI len), .ref ka, .ref pa, .ref la, .int (iI sn), .ref a])), (ka, ai cI 10 K), (pa, ai cI 10 P), (la, ai cZ 10 F), (a, .inr (3, [.ref c, .ref s, .ref nc, .ref ns, .int (iI fl), .int (iI sp)])), (c, ai cI 32 CC), (s, ai cI 33 SS), (nc, ai cI 32 NC), (ns, ai cI 33 NS)] ++ mR cI cZ μ n k) [some (.ref h), some (.int (iI ↑k)), some (.ref m), some (.int (iI (mxR (gP len P F sn.toNat) j))), some (.int (iI ↑j)), none] 35 [] := by
      intro z
      induction z with
      | zero => intro j x1 t1 s1 FH1 hj hjz hF1; omega
      | succ z ih =>
        intro j x1 t1 s1 FH1 hj hjz hF1
        refine z_iload C dX4_layersByFollowing_35 rfl ?_
        refine z_aload_n (i := 2) C dX4_layersByFollowing_37 rfl rfl ?_
        refine z_get (ci := 2) C (hi_X4_layersByFollowing_X2) 10 rfl rfl 1 (by decide) (by decide +kernel) rfl dX4_layersByFollowing_38 ?_
        refine z_icmp_geI (tgt := 107) C dX4_layersByFollowing_41 (by decide) ⟨by omega, by omega⟩ ⟨by omega, by omega⟩ (fun hk => ?_) (fun hk => ?_)
        · refine z_iload_n (i := 3) C dX4_layersByFollowing_107 rfl rfl ?_
          refine z_perm (ws' := [(h, .inr (4, [.ref nd, .ref kn, .ref gm, .ref us, .int (iI (↑n)), .ref fo, .ref fh, .ref mi])), (nd, ar cI 8 ND), (kn, ar cI 6 KN), (gm, rr cM 8 (gmF μ n)), (us, ar cI 8 US), (fo, .inr (0, [.int (iI x1), .int (iI t1), .int (iI s1)])), (fh, ai cI 32 FH1), (mi, .inr (1, [.int (iI L), .int d, .ref fw, .ref wt])), (fw, ai cI 201 A), (wt, ai cI 201 B)] ++ mW cI cZ μ n) (List.Perm.append_left [(h, .inr (4, [.ref nd, .ref kn, .ref gm, .ref us, .int (iI (↑n)), .ref fo, .ref fh, .ref mi])), (nd, ar cI 8 ND), (kn, ar cI 6 KN), (gm, rr cM 8 (gmF μ n)), (us, ar cI 8 US), (fo, .inr (0, [.int (iI x1), .int (iI t1), .int (iI s1)])), (fh, ai cI 32 FH1), (mi, .inr (1, [.int (iI L), .int d, .ref fw, .ref wt])), (fw, ai cI 201 A), (wt, ai cI 201 B)] hback) ?_
          exact z_iret C hR dX4_layersByFollowing_108 (Nat.le_of_ble_eq_true rfl) (Nat.le_of_ble_eq_true rfl) (⟨by unfold cM1; rw [if_neg (by omega)], by rw [show μ ((k : Nat) : Int).toNat = _ from hu]; rw [show j = len.toNat by omega]; rfl, x1, t1, s1, FH1, rfl⟩)
        · refine z_aload_n (i := 0) C dX4_layersByFollowing_44 rfl rfl ?_
          refine z_get (ci := 4) C (hi_X4_layersByFollowing_X4) 0 rfl rfl 5 (by decide) (by decide +kernel) rfl dX4_layersByFollowing_45 ?_
          refine z_aload_n (i := 2) C dX4_layersByFollowing_48 rfl rfl ?_
          refine z_iload C dX4_layersByFollowing_49 rfl ?_
          refine z_callV (n := 2) (As := [.ref m, .int (iI ↑j)]) (st := []) (fr := ([(h, .inr (4, [.ref nd, .ref kn, .ref gm, .ref us, .int (iI (↑n)), .ref fo, .ref fh, .ref mi])), (nd, ar cI 8 ND), (kn, ar cI 6 KN), (gm, rr cM 8 (gmF μ n)), (us, ar cI 8 US), (fh, ai cI 32 FH1), (mi, .inr (1, [.int (iI L), .int d, .ref fw, .ref wt])), (fw, ai cI 201 A), (wt, ai cI 201 B), (ka, ai cI 10 K), (a, .inr (3, [.ref c, .ref s, .ref nc, .ref ns, .int (iI fl), .int (iI sp)])), (c, ai cI 32 CC), (s, ai cI 33 SS), (nc, ai cI 32 NC), (ns, ai cI 33 NS)] ++ mR cI cZ μ n k)) C hE (k_follow l D cI cZ cM cL fo m ka pa la a x1 t1 s1 au len sn ↑j P F osn olen ⟨by omega, by omega⟩ ost) gX4_layersByFollowing_X0_follow rfl ⟨rfl, rfl⟩ (by decide +kernel) ⟨Nat.le_of_ble_eq_true rfl, Nat.le_of_ble_eq_true rfl⟩ rfl rfl (z_plT (w := [(fo, .inr (0, [.int (iI x1), .int (iI t1), .int (iI s1)])), (m, .inr (2, [.int (iI au), .int (iI len), .ref ka, .ref pa, .ref la, .int (iI sn), .ref a])), (pa, ai cI 10 P), (la, ai cZ 10 F), (h, .inr (4, [.ref nd, .ref kn, .ref gm, .ref us, .int (iI (↑n)), .ref fo, .ref fh, .ref mi])), (nd, ar cI 8 ND), (kn, ar cI 6 KN), (gm, rr cM 8 (gmF μ n)), (us, ar cI 8 US), (fh, ai cI 32 FH1), (mi, .inr (1, [.int (iI L), .int d, .ref fw, .ref wt])), (fw, ai cI 201 A), (wt, ai cI 201 B), (ka, ai cI 10 K), (a, .inr (3, [.ref c, .ref s, .ref nc, .ref ns, .int (iI fl), .int (iI sp)])), (c, ai cI 32 CC), (s, ai cI 33 SS), (nc, ai cI 32 NC), (ns, ai cI 33 NS)]) 19 [5, 10, 12, 13, 0, 1, 2, 3, 4, 6, 7, 8, 9, 11, 14, 15, 16, 17, 18] rfl (by decide +kernel) rfl) 0 rfl rfl rfl (Nat.le_of_ble_eq_true rfl) ⟨Nat.le_of_ble_eq_true rfl, Nat.le_of_ble_eq_true rfl⟩ dX4_layersByFollowing_51 (fun r w1 hpo => ?_)
          obtain ⟨rfl, rfl⟩ := hpo
          have hpl := stV_gP ost (by omega) (show (0 : Int) ≤ (j : Int) by omega) (show (j : Int) < len by omega) sn.toNat (by omega)
          have hc1 := hF1 (gP len P F sn.toNat ↑j) hpl.1 (by omega)
          have hc2 := cnt_r (Pl := gP len P F sn.toNat) (k := gP len P F sn.toNat ↑j) j
          have hm2 := mxR_r (Pl := gP len P F sn.toNat) j
          refine (show zG E Q (0 + 2) (0 + 12) ([(fo, .inr (0, [.int (iI (gP len P F sn.toNat ↑j)), .int (iI (gT len P F sn.toNat ↑j)), .int (iI (gS len P sn.toNat))])), (m, .inr (2, [.int (iI au), .int (iI len), .ref ka, .ref pa, .ref la, .int (iI sn), .ref a])), (pa, ai cI 10 P), (la, ai cZ 10 F), (h, .inr (4, [.ref nd, .ref kn, .ref gm, .ref us, .int (iI (↑n)), .ref fo, .ref fh, .ref mi])), (nd, ar cI 8 ND), (kn, ar cI 6 KN), (gm, rr cM 8 (gmF μ n)), (us, ar cI 8 US), (fh, ai cI 32 FH1), (mi, .inr (1, [.int (iI L), .int d, .ref fw, .ref wt])), (fw, ai cI 201 A), (wt, ai cI 201 B), (ka, ai cI 10 K), (a, .inr (3, [.ref c, .ref s, .ref nc, .ref ns, .int (iI fl), .int (iI sp)])), (c, ai cI 32 CC), (s, ai cI 33 SS), (nc, ai cI 32 NC), (ns, ai cI 33 NS)] ++ mR cI cZ μ n k) [some (.ref h), some (.int (iI ↑k)), some (.ref m), some (.int (iI (mxR (gP len P F sn.toNat) j))), some (.int (iI ↑j)), none] 54 [] from ?_)
          refine z_perm (z_plT (w := [(h, .inr (4, [.ref nd, .ref kn, .ref gm, .ref us, .int (iI (↑n)), .ref fo, .ref fh, .ref mi])), (nd, ar cI 8 ND), (kn, ar cI 6 KN), (gm, rr cM 8 (gmF μ n)), (us, ar cI 8 US), (fo, .inr (0, [.int (iI (gP len P F sn.toNat ↑j)), .int (iI (gT len P F sn.toNat ↑j)), .int (iI (gS len P sn.toNat))])), (fh, ai cI 32 FH1), (mi, .inr (1, [.int (iI L), .int d, .ref fw, .ref wt])), (fw, ai cI 201 A), (wt, ai cI 201 B), (m, .inr (2, [.int (iI au), .int (iI len), .ref ka, .ref pa, .ref la, .int (iI sn), .ref a])), (ka, ai cI 10 K), (pa, ai cI 10 P), (la, ai cZ 10 F), (a, .inr (3, [.ref c, .ref s, .ref nc, .ref ns, .int (iI fl), .int (iI sp)])), (c, ai cI 32 CC), (s, ai cI 33 SS), (nc, ai cI 32 NC), (ns, ai cI 33 NS)]) 19 [4, 5, 6, 7, 8, 0, 9, 10, 11, 12, 1, 13, 2, 3, 14, 15, 16, 17, 18] rfl (by decide +kernel) rfl) ?_
          refine z_aload_n (i := 0) C dX4_layersByFollowing_54 rfl rfl ?_
          refine z_get (ci := 4) C (hi_X4_layersByFollowing_X4) 0 rfl rfl 5 (by decide) (by decide +kernel) rfl dX4_layersByFollowing_55 ?_
          refine z_get (ci := 0) C (hi_X4_layersByFollowing_X0) 5 rfl rfl 0 (by decide) (by decide +kernel) rfl dX4_layersByFollowing_58 ?_
          refine z_istore (lv' := [some (.ref h), some (.int (iI ↑k)), some (.ref m), some (.int (iI (mxR (gP len P F sn.toNat) j))), some (.int (iI ↑j)), some (.int (iI (gP len P F sn.toNat ↑j)))]) C dX4_layersByFollowing_61 rfl rfl ?_
          refine z_iload C dX4_layersByFollowing_63 rfl ?_
          refine z_if_ltI (tgt := 101) C dX4_layersByFollowing_65 (by decide) ⟨by omega, by omega⟩ (fun h => by exfalso; omega) (fun _ => ?_)
          refine z_iload C dX4_layersByFollowing_68 rfl ?_
          refine z_aload_n (i := 0) C dX4_layersByFollowing_70 rfl rfl ?_
          refine z_get (ci := 4) C (hi_X4_layersByFollowing_X4) 0 rfl rfl 6 (by decide) (by decide +kernel) rfl dX4_layersByFollowing_71 ?_
          refine z_alen (v := iI 32) C 6 rfl (zT_of hE (t0 := 0) rfl) rfl dX4_layersByFollowing_74 ?_
          refine z_icmp_geI (tgt := 101) C dX4_layersByFollowing_75 (by decide) ⟨by omega, by omega⟩ ⟨by omega, by omega⟩ (fun h => by exfalso; omega) (fun _ => ?_)
          refine z_aload_n (i := 0) C dX4_layersByFollowing_78 rfl rfl ?_
          refine z_get (ci := 4) C (hi_X4_layersByFollowing_X4) 0 rfl rfl 6 (by decide) (by decide +kernel) rfl dX4_layersByFollowing_79 ?_
          refine z_iload C dX4_layersByFollowing_82 rfl ?_
          refine z_dup2 C dX4_layersByFollowing_84 rfl rfl ?_
          refine z_ialoadI 6 (he := rfl) C (zT_of hE (t0 := 0) rfl) (by omega) (by omega) (by decide) dX4_layersByFollowing_85 ?_
          refine z_iconst (v := iI 1) C dX4_layersByFollowing_86 rfl ?_
          refine z_iaddI (v := (FH1 (gP len P F sn.toNat ↑j)) + 1) C dX4_layersByFollowing_87 (by omega) ?_
          refine z_iastoreI 6 (he := rfl) (ws' := ([(h, .inr (4, [.ref nd, .ref kn, .ref gm, .ref us, .int (iI (↑n)), .ref fo, .ref fh, .ref mi])), (nd, ar cI 8 ND), (kn, ar cI 6 KN), (gm, rr cM 8 (gmF μ n)), (us, ar cI 8 US), (fo, .inr (0, [.int (iI (gP len P F sn.toNat ↑j)), .int (iI (gT len P F sn.toNat ↑j)), .int (iI (gS len P sn.toNat))])), (fh, ai cI 32 (zup FH1 (gP len P F sn.toNat ↑j) ((FH1 (gP len P F sn.toNat ↑j)) + 1))), (mi, .inr (1, [.int (iI L), .int d, .ref fw, .ref wt])), (fw, ai cI 201 A), (wt, ai cI 201 B), (m, .inr (2, [.int (iI au), .int (iI len), .ref ka, .ref pa, .ref la, .int (iI sn), .ref a])), (ka, ai cI 10 K), (pa, ai cI 10 P), (la, ai cZ 10 F), (a, .inr (3, [.ref c, .ref s, .ref nc, .ref ns, .int (iI fl), .int (iI sp)])), (c, ai cI 32 CC), (s, ai cI 33 SS), (nc, ai cI 32 NC), (ns, ai cI 33 NS)] ++ mR cI cZ μ n k)) C (zT_of hE (t0 := 0) rfl) (by omega) (by omega) (by decide) rfl dX4_layersByFollowing_88 ?_
          refine z_iload_n (i := 3) C dX4_layersByFollowing_89 rfl rfl ?_
          refine z_aload_n (i := 0) C dX4_layersByFollowing_90 rfl rfl ?_
          refine z_get (ci := 4) C (hi_X4_layersByFollowing_X4) 0 rfl rfl 6 (by decide) (by decide +kernel) rfl dX4_layersByFollowing_91 ?_
          refine z_iload C dX4_layersByFollowing_94 rfl ?_
          refine z_ialoadI 6 (he := rfl) C (zT_of hE (t0 := 0) rfl) (by omega) (by omega) (by decide) dX4_layersByFollowing_96 ?_
          refine z_top (y := iI (FH1 (gP len P F sn.toNat ↑j) + 1)) (by rw [zup_self]) ?_
          refine z_maxI C (by decide +kernel) (by decide +kernel) (by decide +kernel) (by decide +kernel) (Nat.le_of_ble_eq_true rfl) ⟨Nat.le_of_ble_eq_true rfl, Nat.le_of_ble_eq_true rfl⟩ ⟨Nat.le_of_ble_eq_true rfl, Nat.le_of_ble_eq_true rfl⟩ dX4_layersByFollowing_97 ⟨by omega, by omega⟩ ⟨by omega, by omega⟩ ?_
          refine z_istore_n (i := 3) (lv' := [some (.ref h), some (.int (iI ↑k)), some (.ref m), some (.int (iI (max (mxR (gP len P F sn.toNat) j) (FH1 (gP len P F sn.toNat ↑j) + 1)))), some (.int (iI ↑j)), some (.int (iI (gP len P F sn.toNat ↑j)))]) C dX4_layersByFollowing_100 rfl rfl rfl ?_
          refine z_iincI (v := ↑(j + 1)) (lv' := [some (.ref h), some (.int (iI ↑k)), some (.ref m), some (.int (iI (max (mxR (gP len P F sn.toNat) j) (FH1 (gP len P F sn.toNat ↑j) + 1)))), some (.int (iI (↑(j + 1)))), some (.int (iI (gP len P F sn.toNat ↑j)))]) C dX4_layersByFollowing_101 rfl (by omega) rfl ?_
          refine z_goto (tgt := 35) C dX4_layersByFollowing_104 (by decide) ?_
          have e1 : max (mxR (gP len P F sn.toNat) j) (FH1 (gP len P F sn.toNat ↑j) + 1) = mxR (gP len P F sn.toNat) (j + 1) := by
            rw [show mxR (gP len P F sn.toNat) (j + 1) = max (mxR (gP len P F sn.toNat) j) (cnt (gP len P F sn.toNat) (gP len P F sn.toNat ↑j) j + (if gP len P F sn.toNat ↑j = gP len P F sn.toNat ↑j then 1 else 0)) from rfl, if_pos rfl, hc1]
          rw [e1]
          refine z_le (r := [some (.ref h), some (.int (iI ↑k)), some (.ref m), some (.int (iI (mxR (gP len P F sn.toNat) (j + 1)))), some (.int (iI ↑(j + 1))), none]) ⟨Or.inr rfl, Or.inr rfl, Or.inr rfl, Or.inr rfl, Or.inr rfl, Or.inl rfl, trivial⟩ ?_
          refine ih (j + 1) _ _ _ _ (by omega) (by omega) (fun z9 a9 b9 => ?_)
          rw [show cnt (gP len P F sn.toNat) z9 (j + 1) = cnt (gP len P F sn.toNat) z9 j + (if gP len P F sn.toNat ↑j = z9 then 1 else 0) from rfl]
          unfold zup
          by_cases hz9 : z9 = gP len P F sn.toNat ↑j
          · rw [if_pos hz9, if_pos hz9.symm, hz9, hc1]
          · rw [if_neg hz9, if_neg (fun q => hz9 q.symm), hF1 z9 a9 b9]; omega
    have lp : ∀ (z y : Nat) (FH1 : Int → Int), y ≤ 32 → 32 - y < z → (∀ z9, 0 ≤ z9 → z9 < (y : Int) → FH1 z9 = 0) → zG E Q (0 + 2) (0 + 12) ([(h, .inr (4, [.ref nd, .ref kn, .ref gm, .ref us, .int (iI (↑n)), .ref fo, .ref fh, .ref mi])), (nd, ar cI 8 ND), (kn, ar cI 6 KN), (gm, rr cM 8 (gmF μ n)), (us, ar cI 8 US), (fo, .inr (0, [.int (iI x), .int (iI t), .int (iI s0)])), (fh, ai cI 32 FH1), (mi, .inr (1, [.int (iI L), .int d, .ref fw, .ref wt])), (fw, ai cI 201 A), (wt, ai cI 201 B), (m, .inr (2, [.int (iI au), .int (iI len), .ref ka, .ref pa, .ref la, .int (iI sn), .ref a])), (ka, ai cI 10 K), (pa, ai cI 10 P), (la, ai cZ 10 F), (a, .inr (3, [.ref c, .ref s, .ref nc, .ref ns, .int (iI fl), .int (iI sp)])), (c, ai cI 32 CC), (s, ai cI 33 SS), (nc, ai cI 32 NC), (ns, ai cI 33 NS)] ++ mR cI cZ μ n k) [some (.ref h), some (.int (iI ↑k)), some (.ref m), some (.int (iI ↑y)), none, none] 8 [] := by
      intro z
      induction z with
      | zero => intro y FH1 hy hyz hF1; omega
      | succ z ih =>
        intro y FH1 hy hyz hF1
        refine z_iload_n (i := 3) C dX4_layersByFollowing_8 rfl rfl ?_
        refine z_aload_n (i := 0) C dX4_layersByFollowing_9 rfl rfl ?_
        refine z_get (ci := 4) C (hi_X4_layersByFollowing_X4) 0 rfl rfl 6 (by decide) (by decide +kernel) rfl dX4_layersByFollowing_10 ?_
        refine z_alen (v := iI 32) C 6 rfl (zT_of hE (t0 := 0) rfl) rfl dX4_layersByFollowing_13 ?_
        refine z_icmp_geI (tgt := 30) C dX4_layersByFollowing_14 (by decide) ⟨by omega, by omega⟩ ⟨by omega, by omega⟩ (fun hk => ?_) (fun hk => ?_)
        · refine z_iconst (v := iI 0) C dX4_layersByFollowing_30 rfl ?_
          refine z_istore_n (i := 3) (lv' := [some (.ref h), some (.int (iI ↑k)), some (.ref m), some (.int (iI 0)), none, none]) C dX4_layersByFollowing_31 rfl rfl rfl ?_
          refine z_iconst (v := iI 0) C dX4_layersByFollowing_32 rfl ?_
          refine z_istore (lv' := [some (.ref h), some (.int (iI ↑k)), some (.ref m), some (.int (iI 0)), some (.int (iI 0)), none]) C dX4_layersByFollowing_33 rfl rfl ?_
          refine (show zG E Q (0 + 2) (0 + 12) ([(h, .inr (4, [.ref nd, .ref kn, .ref gm, .ref us, .int (iI (↑n)), .ref fo, .ref fh, .ref mi])), (nd, ar cI 8 ND), (kn, ar cI 6 KN), (gm, rr cM 8 (gmF μ n)), (us, ar cI 8 US), (fo, .inr (0, [.int (iI x), .int (iI t), .int (iI s0)])), (fh, ai cI 32 FH1), (mi, .inr (1, [.int (iI L), .int d, .ref fw, .ref wt])), (fw, ai cI 201 A), (wt, ai cI 201 B), (m, .inr (2, [.int (iI au), .int (iI len), .ref ka, .ref pa, .ref la, .int (iI sn), .ref a])), (ka, ai cI 10 K), (pa, ai cI 10 P), (la, ai cZ 10 F), (a, .inr (3, [.ref c, .ref s, .ref nc, .ref ns, .int (iI fl), .int (iI sp)])), (c, ai cI 32 CC), (s, ai cI 33 SS), (nc, ai cI 32 NC), (ns, ai cI 33 NS)] ++ mR cI cZ μ n k) [some (.ref h), some (.int (iI ↑k)), some (.ref m), some (.int (iI (mxR (gP len P F sn.toNat) 0))), some (.int (iI ↑(0 : Nat))), none] 35 [] from ?_)
          exact lq (len.toNat + 1) 0 x t s0 FH1 (by omega) (by omega) (fun z9 a9 b9 => hF1 z9 a9 (by omega))
        · refine z_aload_n (i := 0) C dX4_layersByFollowing_17 rfl rfl ?_
          refine z_get (ci := 4) C (hi_X4_layersByFollowing_X4) 0 rfl rfl 6 (by decide) (by decide +kernel) rfl dX4_layersByFollowing_18 ?_
          refine z_iload_n (i := 3) C dX4_layersByFollowing_21 rfl rfl ?_
          refine z_iconst (v := iI 0) C dX4_layersByFollowing_22 rfl ?_
          refine z_iastoreI 6 (he := rfl) (ws' := ([(h, .inr (4, [.ref nd, .ref kn, .ref gm, .ref us, .int (iI (↑n)), .ref fo, .ref fh, .ref mi])), (nd, ar cI 8 ND), (kn, ar cI 6 KN), (gm, rr cM 8 (gmF μ n)), (us, ar cI 8 US), (fo, .inr (0, [.int (iI x), .int (iI t), .int (iI s0)])), (fh, ai cI 32 (zup FH1 (↑y) 0)), (mi, .inr (1, [.int (iI L), .int d, .ref fw, .ref wt])), (fw, ai cI 201 A), (wt, ai cI 201 B), (m, .inr (2, [.int (iI au), .int (iI len), .ref ka, .ref pa, .ref la, .int (iI sn), .ref a])), (ka, ai cI 10 K), (pa, ai cI 10 P), (la, ai cZ 10 F), (a, .inr (3, [.ref c, .ref s, .ref nc, .ref ns, .int (iI fl), .int (iI sp)])), (c, ai cI 32 CC), (s, ai cI 33 SS), (nc, ai cI 32 NC), (ns, ai cI 33 NS)] ++ mR cI cZ μ n k)) C (zT_of hE (t0 := 0) rfl) (by omega) (by omega) (by decide) rfl dX4_layersByFollowing_23 ?_
          refine z_iincI (v := ↑(y + 1)) (lv' := [some (.ref h), some (.int (iI ↑k)), some (.ref m), some (.int (iI (↑(y + 1)))), none, none]) C dX4_layersByFollowing_24 rfl (by omega) rfl ?_
          refine z_goto (tgt := 8) C dX4_layersByFollowing_27 (by decide) ?_
          refine ih (y + 1) _ (by omega) (by omega) (fun z9 a9 b9 => ?_)
          unfold zup
          split
          · rfl
          · exact hF1 z9 a9 (by omega)
    refine (show zG E Q (0 + 2) (0 + 12) ([(h, .inr (4, [.ref nd, .ref kn, .ref gm, .ref us, .int (iI (↑n)), .ref fo, .ref fh, .ref mi])), (nd, ar cI 8 ND), (kn, ar cI 6 KN), (gm, rr cM 8 (gmF μ n)), (us, ar cI 8 US), (fo, .inr (0, [.int (iI x), .int (iI t), .int (iI s0)])), (fh, ai cI 32 FH), (mi, .inr (1, [.int (iI L), .int d, .ref fw, .ref wt])), (fw, ai cI 201 A), (wt, ai cI 201 B), (m, .inr (2, [.int (iI au), .int (iI len), .ref ka, .ref pa, .ref la, .int (iI sn), .ref a])), (ka, ai cI 10 K), (pa, ai cI 10 P), (la, ai cZ 10 F), (a, .inr (3, [.ref c, .ref s, .ref nc, .ref ns, .int (iI fl), .int (iI sp)])), (c, ai cI 32 CC), (s, ai cI 33 SS), (nc, ai cI 32 NC), (ns, ai cI 33 NS)] ++ mR cI cZ μ n k) [some (.ref h), some (.int (iI ↑k)), some (.ref m), none, none, none] 6 [] from ?_)
    refine z_iconst (v := iI 0) C dX4_layersByFollowing_6 rfl ?_
    refine z_istore_n (i := 3) (lv' := [some (.ref h), some (.int (iI ↑k)), some (.ref m), some (.int (iI 0)), none, none]) C dX4_layersByFollowing_7 rfl rfl rfl ?_
    refine (show zG E Q (0 + 2) (0 + 12) ([(h, .inr (4, [.ref nd, .ref kn, .ref gm, .ref us, .int (iI (↑n)), .ref fo, .ref fh, .ref mi])), (nd, ar cI 8 ND), (kn, ar cI 6 KN), (gm, rr cM 8 (gmF μ n)), (us, ar cI 8 US), (fo, .inr (0, [.int (iI x), .int (iI t), .int (iI s0)])), (fh, ai cI 32 FH), (mi, .inr (1, [.int (iI L), .int d, .ref fw, .ref wt])), (fw, ai cI 201 A), (wt, ai cI 201 B), (m, .inr (2, [.int (iI au), .int (iI len), .ref ka, .ref pa, .ref la, .int (iI sn), .ref a])), (ka, ai cI 10 K), (pa, ai cI 10 P), (la, ai cZ 10 F), (a, .inr (3, [.ref c, .ref s, .ref nc, .ref ns, .int (iI fl), .int (iI sp)])), (c, ai cI 32 CC), (s, ai cI 33 SS), (nc, ai cI 32 NC), (ns, ai cI 33 NS)] ++ mR cI cZ μ n k) [some (.ref h), some (.int (iI ↑k)), some (.ref m), some (.int (iI ↑(0 : Nat))), none, none] 8 [] from ?_)
    exact lp 33 0 FH (by omega) (by omega) (fun z9 a9 b9 => by omega)
  · refine z_aload_n (i := 0) C dX4_layersByFollowing_0 rfl rfl ?_
    refine z_iload_n (i := 1) C dX4_layersByFollowing_1 rfl rfl ?_
    refine z_callVx (n := 1) (As := [.int (iI i0)]) (st := []) (fr := ([(nd, ar cI 8 ND), (kn, ar cI 6 KN), (us, ar cI 8 US), (fo, .inr (0, [.int (iI x), .int (iI t), .int (iI s0)])), (fh, ai cI 32 FH), (mi, .inr (1, [.int (iI L), .int d, .ref fw, .ref wt])), (fw, ai cI 201 A), (wt, ai cI 201 B)] ++ mW cI cZ μ n)) C hE (k_modelAt l hl D cI cZ cM cL h nd kn gm us fo fh mi n (gmF μ n) i0 0 hi0 hg.1 (fun a b => absurd ⟨a, b⟩ hi)) gX4_layersByFollowing_X4_modelAt rfl ⟨rfl, rfl⟩ (by decide +kernel) ⟨Nat.le_of_ble_eq_true rfl, Nat.le_of_ble_eq_true rfl⟩ rfl rfl (z_plT (w := [(h, .inr (4, [.ref nd, .ref kn, .ref gm, .ref us, .int (iI (↑n)), .ref fo, .ref fh, .ref mi])), (gm, rr cM 8 (gmF μ n)), (nd, ar cI 8 ND), (kn, ar cI 6 KN), (us, ar cI 8 US), (fo, .inr (0, [.int (iI x), .int (iI t), .int (iI s0)])), (fh, ai cI 32 FH), (mi, .inr (1, [.int (iI L), .int d, .ref fw, .ref wt])), (fw, ai cI 201 A), (wt, ai cI 201 B)]) 10 [0, 3, 1, 2, 4, 5, 6, 7, 8, 9] rfl (by decide +kernel) rfl) 0 rfl rfl rfl (Nat.le_of_ble_eq_true rfl) ⟨Nat.le_of_ble_eq_true rfl, Nat.le_of_ble_eq_true rfl⟩ dX4_layersByFollowing_2 (fun Ex hpx => z_out C hT rfl (by obtain ⟨-, rfl⟩ := hpx; exact pX1 (by unfold cM1; rw [if_pos hi])) ⟨Nat.le_of_ble_eq_true rfl, Nat.le_of_ble_eq_true rfl⟩) (fun r w1 hpo => ?_)
    obtain ⟨rfl, hin, rfl⟩ := hpo
    refine (show zG E Q (0 + 2) (0 + 12) ([(h, .inr (4, [.ref nd, .ref kn, .ref gm, .ref us, .int (iI (↑n)), .ref fo, .ref fh, .ref mi])), (gm, rr cM 8 (gmF μ n)), (nd, ar cI 8 ND), (kn, ar cI 6 KN), (us, ar cI 8 US), (fo, .inr (0, [.int (iI x), .int (iI t), .int (iI s0)])), (fh, ai cI 32 FH), (mi, .inr (1, [.int (iI L), .int d, .ref fw, .ref wt])), (fw, ai cI 201 A), (wt, ai cI 201 B)] ++ mW cI cZ μ n) [some (.ref h), some (.int (iI i0)), none, none, none, none] 5 [.ref 0] from ?_)
    refine z_perm (z_plT (w := [(h, .inr (4, [.ref nd, .ref kn, .ref gm, .ref us, .int (iI (↑n)), .ref fo, .ref fh, .ref mi])), (nd, ar cI 8 ND), (kn, ar cI 6 KN), (gm, rr cM 8 (gmF μ n)), (us, ar cI 8 US), (fo, .inr (0, [.int (iI x), .int (iI t), .int (iI s0)])), (fh, ai cI 32 FH), (mi, .inr (1, [.int (iI L), .int d, .ref fw, .ref wt])), (fw, ai cI 201 A), (wt, ai cI 201 B)]) 10 [0, 2, 3, 1, 4, 5, 6, 7, 8, 9] rfl (by decide +kernel) rfl) ?_
    exact absurd hin hi
