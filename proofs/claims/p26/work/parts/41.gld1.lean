/-! THE GUILD: what looks at an index. -/
set_option maxHeartbeats 1000000 in
set_option maxRecDepth 100000 in
theorem k_checkKind (l : Launch) (hl : l.stackTraces = false) (D : va_G) (cI cZ cM cL : ClassId) (h nd kn gm us fo fh mi : Nat) (n : Nat) (z : Int) (hz : iR z) : zNX l yX4_checkKind wsX4_checkKind { frames := 6, cells := 1, slots := 6, locals := 90 } D (zTy cI cZ cM cL) [.ref h, .int (iI z)] [(h, .inr (4, [.ref nd, .ref kn, .ref gm, .ref us, .int (iI (↑n)), .ref fo, .ref fh, .ref mi]))] (fun r w => r = none ∧ (0 ≤ z ∧ z < 8) ∧ w = [(h, .inr (4, [.ref nd, .ref kn, .ref gm, .ref us, .int (iI (↑n)), .ref fo, .ref fh, .ref mi]))]) (fun Ex => ¬ (0 ≤ z ∧ z < 8) ∧ Ex = "java/lang/IndexOutOfBoundsException") 1 6 := by
  refine zNX_of (cc := cX4_checkKind) (maxL := 2) (lv0 := [some (.ref h), some (.int (iI z))]) hl (by decide) rfl rfl (Nat.le_of_ble_eq_true rfl) rfl ?_
  intro E Q C hE hR hT
  refine z_iload_n (i := 1) C dX4_checkKind_0 rfl rfl ?_
  refine z_if_ltI (tgt := 10) C dX4_checkKind_1 (by decide) ⟨by omega, by omega⟩ (fun h1 => ?_) (fun h1 => ?_)
  · exact z_throw C hE hT rfl (ik := 149) (is := 202) (ic := 153) (text := "no such kind") (cls := "java/lang/IndexOutOfBoundsException") rfl (⟨by omega, rfl⟩) (by decide +kernel) (by decide +kernel) (by decide +kernel) (by decide +kernel) (by decide +kernel) (by decide +kernel) (by decide +kernel) dX4_checkKind_10 dX4_checkKind_13 dX4_checkKind_14 dX4_checkKind_16 dX4_checkKind_19 (Nat.le_of_ble_eq_true rfl) ⟨Nat.le_of_ble_eq_true rfl, Nat.le_of_ble_eq_true rfl⟩ ⟨Nat.le_of_ble_eq_true rfl, Nat.le_of_ble_eq_true rfl⟩ ⟨Nat.le_of_ble_eq_true rfl, Nat.le_of_ble_eq_true rfl⟩
  · refine z_iload_n (i := 1) C dX4_checkKind_4 rfl rfl ?_
    refine z_bipush (v := iI 8) C dX4_checkKind_5 (by decide) ?_
    refine z_icmp_ltI (tgt := 20) C dX4_checkKind_7 (by decide) ⟨by omega, by omega⟩ ⟨by omega, by omega⟩ (fun h2 => ?_) (fun h2 => ?_)
    · exact z_vret C hR dX4_checkKind_20 (Nat.le_of_ble_eq_true rfl) (Nat.le_of_ble_eq_true rfl) (⟨rfl, ⟨by omega, by omega⟩, rfl⟩)
    · exact z_throw C hE hT rfl (ik := 149) (is := 202) (ic := 153) (text := "no such kind") (cls := "java/lang/IndexOutOfBoundsException") rfl (⟨by omega, rfl⟩) (by decide +kernel) (by decide +kernel) (by decide +kernel) (by decide +kernel) (by decide +kernel) (by decide +kernel) (by decide +kernel) dX4_checkKind_10 dX4_checkKind_13 dX4_checkKind_14 dX4_checkKind_16 dX4_checkKind_19 (Nat.le_of_ble_eq_true rfl) ⟨Nat.le_of_ble_eq_true rfl, Nat.le_of_ble_eq_true rfl⟩ ⟨Nat.le_of_ble_eq_true rfl, Nat.le_of_ble_eq_true rfl⟩ ⟨Nat.le_of_ble_eq_true rfl, Nat.le_of_ble_eq_true rfl⟩
set_option maxHeartbeats 1000000 in
set_option maxRecDepth 100000 in
theorem k_checkAuthor (l : Launch) (hl : l.stackTraces = false) (D : va_G) (cI cZ cM cL : ClassId) (h nd kn gm us fo fh mi : Nat) (n : Nat) (z : Int) (hz : iR z) : zNX l yX4_checkAuthor wsX4_checkAuthor { frames := 6, cells := 1, slots := 6, locals := 90 } D (zTy cI cZ cM cL) [.ref h, .int (iI z)] [(h, .inr (4, [.ref nd, .ref kn, .ref gm, .ref us, .int (iI (↑n)), .ref fo, .ref fh, .ref mi]))] (fun r w => r = none ∧ (0 ≤ z ∧ z < 10) ∧ w = [(h, .inr (4, [.ref nd, .ref kn, .ref gm, .ref us, .int (iI (↑n)), .ref fo, .ref fh, .ref mi]))]) (fun Ex => ¬ (0 ≤ z ∧ z < 10) ∧ Ex = "java/lang/IndexOutOfBoundsException") 1 6 := by
  refine zNX_of (cc := cX4_checkAuthor) (maxL := 2) (lv0 := [some (.ref h), some (.int (iI z))]) hl (by decide) rfl rfl (Nat.le_of_ble_eq_true rfl) rfl ?_
  intro E Q C hE hR hT
  refine z_iload_n (i := 1) C dX4_checkAuthor_0 rfl rfl ?_
  refine z_if_ltI (tgt := 10) C dX4_checkAuthor_1 (by decide) ⟨by omega, by omega⟩ (fun h1 => ?_) (fun h1 => ?_)
  · exact z_throw C hE hT rfl (ik := 149) (is := 204) (ic := 153) (text := "no such author") (cls := "java/lang/IndexOutOfBoundsException") rfl (⟨by omega, rfl⟩) (by decide +kernel) (by decide +kernel) (by decide +kernel) (by decide +kernel) (by decide +kernel) (by decide +kernel) (by decide +kernel) dX4_checkAuthor_10 dX4_checkAuthor_13 dX4_checkAuthor_14 dX4_checkAuthor_16 dX4_checkAuthor_19 (Nat.le_of_ble_eq_true rfl) ⟨Nat.le_of_ble_eq_true rfl, Nat.le_of_ble_eq_true rfl⟩ ⟨Nat.le_of_ble_eq_true rfl, Nat.le_of_ble_eq_true rfl⟩ ⟨Nat.le_of_ble_eq_true rfl, Nat.le_of_ble_eq_true rfl⟩
  · refine z_iload_n (i := 1) C dX4_checkAuthor_4 rfl rfl ?_
    refine z_bipush (v := iI 10) C dX4_checkAuthor_5 (by decide) ?_
    refine z_icmp_ltI (tgt := 20) C dX4_checkAuthor_7 (by decide) ⟨by omega, by omega⟩ ⟨by omega, by omega⟩ (fun h2 => ?_) (fun h2 => ?_)
    · exact z_vret C hR dX4_checkAuthor_20 (Nat.le_of_ble_eq_true rfl) (Nat.le_of_ble_eq_true rfl) (⟨rfl, ⟨by omega, by omega⟩, rfl⟩)
    · exact z_throw C hE hT rfl (ik := 149) (is := 204) (ic := 153) (text := "no such author") (cls := "java/lang/IndexOutOfBoundsException") rfl (⟨by omega, rfl⟩) (by decide +kernel) (by decide +kernel) (by decide +kernel) (by decide +kernel) (by decide +kernel) (by decide +kernel) (by decide +kernel) dX4_checkAuthor_10 dX4_checkAuthor_13 dX4_checkAuthor_14 dX4_checkAuthor_16 dX4_checkAuthor_19 (Nat.le_of_ble_eq_true rfl) ⟨Nat.le_of_ble_eq_true rfl, Nat.le_of_ble_eq_true rfl⟩ ⟨Nat.le_of_ble_eq_true rfl, Nat.le_of_ble_eq_true rfl⟩ ⟨Nat.le_of_ble_eq_true rfl, Nat.le_of_ble_eq_true rfl⟩
set_option maxHeartbeats 1000000 in
set_option maxRecDepth 100000 in
theorem k_checkPupil (l : Launch) (hl : l.stackTraces = false) (D : va_G) (cI cZ cM cL : ClassId) (h nd kn gm us fo fh mi : Nat) (n : Nat) (z : Int) (hz : iR z) : zNX l yX4_checkPupil wsX4_checkPupil { frames := 6, cells := 1, slots := 6, locals := 90 } D (zTy cI cZ cM cL) [.ref h, .int (iI z)] [(h, .inr (4, [.ref nd, .ref kn, .ref gm, .ref us, .int (iI (↑n)), .ref fo, .ref fh, .ref mi]))] (fun r w => r = none ∧ (0 ≤ z ∧ z < 6) ∧ w = [(h, .inr (4, [.ref nd, .ref kn, .ref gm, .ref us, .int (iI (↑n)), .ref fo, .ref fh, .ref mi]))]) (fun Ex => ¬ (0 ≤ z ∧ z < 6) ∧ Ex = "java/lang/IndexOutOfBoundsException") 1 6 := by
  refine zNX_of (cc := cX4_checkPupil) (maxL := 2) (lv0 := [some (.ref h), some (.int (iI z))]) hl (by decide) rfl rfl (Nat.le_of_ble_eq_true rfl) rfl ?_
  intro E Q C hE hR hT
  refine z_iload_n (i := 1) C dX4_checkPupil_0 rfl rfl ?_
  refine z_if_ltI (tgt := 10) C dX4_checkPupil_1 (by decide) ⟨by omega, by omega⟩ (fun h1 => ?_) (fun h1 => ?_)
  · exact z_throw C hE hT rfl (ik := 149) (is := 206) (ic := 153) (text := "no such pupil") (cls := "java/lang/IndexOutOfBoundsException") rfl (⟨by omega, rfl⟩) (by decide +kernel) (by decide +kernel) (by decide +kernel) (by decide +kernel) (by decide +kernel) (by decide +kernel) (by decide +kernel) dX4_checkPupil_10 dX4_checkPupil_13 dX4_checkPupil_14 dX4_checkPupil_16 dX4_checkPupil_19 (Nat.le_of_ble_eq_true rfl) ⟨Nat.le_of_ble_eq_true rfl, Nat.le_of_ble_eq_true rfl⟩ ⟨Nat.le_of_ble_eq_true rfl, Nat.le_of_ble_eq_true rfl⟩ ⟨Nat.le_of_ble_eq_true rfl, Nat.le_of_ble_eq_true rfl⟩
  · refine z_iload_n (i := 1) C dX4_checkPupil_4 rfl rfl ?_
    refine z_bipush (v := iI 6) C dX4_checkPupil_5 (by decide) ?_
    refine z_icmp_ltI (tgt := 20) C dX4_checkPupil_7 (by decide) ⟨by omega, by omega⟩ ⟨by omega, by omega⟩ (fun h2 => ?_) (fun h2 => ?_)
    · exact z_vret C hR dX4_checkPupil_20 (Nat.le_of_ble_eq_true rfl) (Nat.le_of_ble_eq_true rfl) (⟨rfl, ⟨by omega, by omega⟩, rfl⟩)
    · exact z_throw C hE hT rfl (ik := 149) (is := 206) (ic := 153) (text := "no such pupil") (cls := "java/lang/IndexOutOfBoundsException") rfl (⟨by omega, rfl⟩) (by decide +kernel) (by decide +kernel) (by decide +kernel) (by decide +kernel) (by decide +kernel) (by decide +kernel) (by decide +kernel) dX4_checkPupil_10 dX4_checkPupil_13 dX4_checkPupil_14 dX4_checkPupil_16 dX4_checkPupil_19 (Nat.le_of_ble_eq_true rfl) ⟨Nat.le_of_ble_eq_true rfl, Nat.le_of_ble_eq_true rfl⟩ ⟨Nat.le_of_ble_eq_true rfl, Nat.le_of_ble_eq_true rfl⟩ ⟨Nat.le_of_ble_eq_true rfl, Nat.le_of_ble_eq_true rfl⟩
theorem hi_X4_checkModel_X4 : ∀ w ∈ wsX40, w ∈ wsX4_checkModel := by decide +kernel
set_option maxHeartbeats 1000000 in
set_option maxRecDepth 100000 in
theorem k_checkModel (l : Launch) (hl : l.stackTraces = false) (D : va_G) (cI cZ cM cL : ClassId) (h nd kn gm us fo fh mi : Nat) (n : Nat) (z : Int) (hz : iR z) (hn : n ≤ 8) : zNX l yX4_checkModel wsX4_checkModel { frames := 6, cells := 1, slots := 6, locals := 90 } D (zTy cI cZ cM cL) [.ref h, .int (iI z)] [(h, .inr (4, [.ref nd, .ref kn, .ref gm, .ref us, .int (iI (↑n)), .ref fo, .ref fh, .ref mi]))] (fun r w => r = none ∧ (0 ≤ z ∧ z < n) ∧ w = [(h, .inr (4, [.ref nd, .ref kn, .ref gm, .ref us, .int (iI (↑n)), .ref fo, .ref fh, .ref mi]))]) (fun Ex => ¬ (0 ≤ z ∧ z < n) ∧ Ex = "java/lang/IndexOutOfBoundsException") 1 6 := by
  refine zNX_of (cc := cX4_checkModel) (maxL := 2) (lv0 := [some (.ref h), some (.int (iI z))]) hl (by decide) rfl rfl (Nat.le_of_ble_eq_true rfl) rfl ?_
  intro E Q C hE hR hT
  refine z_iload_n (i := 1) C dX4_checkModel_0 rfl rfl ?_
  refine z_if_ltI (tgt := 12) C dX4_checkModel_1 (by decide) ⟨by omega, by omega⟩ (fun h1 => ?_) (fun h1 => ?_)
  · exact z_throw C hE hT rfl (ik := 149) (is := 208) (ic := 153) (text := "no such model") (cls := "java/lang/IndexOutOfBoundsException") rfl (⟨by omega, rfl⟩) (by decide +kernel) (by decide +kernel) (by decide +kernel) (by decide +kernel) (by decide +kernel) (by decide +kernel) (by decide +kernel) dX4_checkModel_12 dX4_checkModel_15 dX4_checkModel_16 dX4_checkModel_18 dX4_checkModel_21 (Nat.le_of_ble_eq_true rfl) ⟨Nat.le_of_ble_eq_true rfl, Nat.le_of_ble_eq_true rfl⟩ ⟨Nat.le_of_ble_eq_true rfl, Nat.le_of_ble_eq_true rfl⟩ ⟨Nat.le_of_ble_eq_true rfl, Nat.le_of_ble_eq_true rfl⟩
  · refine z_iload_n (i := 1) C dX4_checkModel_4 rfl rfl ?_
    refine z_aload_n (i := 0) C dX4_checkModel_5 rfl rfl ?_
    refine z_get (ci := 4) C (hi_X4_checkModel_X4) 0 rfl rfl 4 (by decide) (by decide +kernel) rfl dX4_checkModel_6 ?_
    refine z_icmp_ltI (tgt := 22) C dX4_checkModel_9 (by decide) ⟨by omega, by omega⟩ ⟨by omega, by omega⟩ (fun h2 => ?_) (fun h2 => ?_)
    · exact z_vret C hR dX4_checkModel_22 (Nat.le_of_ble_eq_true rfl) (Nat.le_of_ble_eq_true rfl) (⟨rfl, ⟨by omega, by omega⟩, rfl⟩)
    · exact z_throw C hE hT rfl (ik := 149) (is := 208) (ic := 153) (text := "no such model") (cls := "java/lang/IndexOutOfBoundsException") rfl (⟨by omega, rfl⟩) (by decide +kernel) (by decide +kernel) (by decide +kernel) (by decide +kernel) (by decide +kernel) (by decide +kernel) (by decide +kernel) dX4_checkModel_12 dX4_checkModel_15 dX4_checkModel_16 dX4_checkModel_18 dX4_checkModel_21 (Nat.le_of_ble_eq_true rfl) ⟨Nat.le_of_ble_eq_true rfl, Nat.le_of_ble_eq_true rfl⟩ ⟨Nat.le_of_ble_eq_true rfl, Nat.le_of_ble_eq_true rfl⟩ ⟨Nat.le_of_ble_eq_true rfl, Nat.le_of_ble_eq_true rfl⟩
theorem hi_X4_checkCell_X2 : ∀ w ∈ wsX20, w ∈ wsX4_checkCell := by decide +kernel
set_option maxHeartbeats 1000000 in
set_option maxRecDepth 100000 in
theorem k_checkCell (l : Launch) (hl : l.stackTraces = false) (D : va_G) (cI cZ cM cL : ClassId) (h nd kn gm us fo fh mi : Nat) (n : Nat) (m ka pa la a : Nat) (au len sn z : Int) (hz : iR z) (hlen : 2 ≤ len ∧ len ≤ 32) : zNX l yX4_checkCell wsX4_checkCell { frames := 6, cells := 1, slots := 6, locals := 90 } D (zTy cI cZ cM cL) [.ref h, .ref m, .int (iI z)] [(h, .inr (4, [.ref nd, .ref kn, .ref gm, .ref us, .int (iI (↑n)), .ref fo, .ref fh, .ref mi])), (m, .inr (2, [.int (iI au), .int (iI len), .ref ka, .ref pa, .ref la, .int (iI sn), .ref a]))] (fun r w => r = none ∧ (0 ≤ z ∧ z < len) ∧ w = [(h, .inr (4, [.ref nd, .ref kn, .ref gm, .ref us, .int (iI (↑n)), .ref fo, .ref fh, .ref mi])), (m, .inr (2, [.int (iI au), .int (iI len), .ref ka, .ref pa, .ref la, .int (iI sn), .ref a]))]) (fun Ex => ¬ (0 ≤ z ∧ z < len) ∧ Ex = "java/lang/IndexOutOfBoundsException") 1 6 := by
  refine zNX_of (cc := cX4_checkCell) (maxL := 3) (lv0 := [some (.ref h), some (.ref m), some (.int (iI z))]) hl (by decide) rfl rfl (Nat.le_of_ble_eq_true rfl) rfl ?_
  intro E Q C hE hR hT
  refine z_iload_n (i := 2) C dX4_checkCell_0 rfl rfl ?_
  refine z_if_ltI (tgt := 12) C dX4_checkCell_1 (by decide) ⟨by omega, by omega⟩ (fun h1 => ?_) (fun h1 => ?_)
  · exact z_throw C hE hT rfl (ik := 149) (is := 210) (ic := 153) (text := "no such cell") (cls := "java/lang/IndexOutOfBoundsException") rfl (⟨by omega, rfl⟩) (by decide +kernel) (by decide +kernel) (by decide +kernel) (by decide +kernel) (by decide +kernel) (by decide +kernel) (by decide +kernel) dX4_checkCell_12 dX4_checkCell_15 dX4_checkCell_16 dX4_checkCell_18 dX4_checkCell_21 (Nat.le_of_ble_eq_true rfl) ⟨Nat.le_of_ble_eq_true rfl, Nat.le_of_ble_eq_true rfl⟩ ⟨Nat.le_of_ble_eq_true rfl, Nat.le_of_ble_eq_true rfl⟩ ⟨Nat.le_of_ble_eq_true rfl, Nat.le_of_ble_eq_true rfl⟩
  · refine z_iload_n (i := 2) C dX4_checkCell_4 rfl rfl ?_
    refine z_aload_n (i := 1) C dX4_checkCell_5 rfl rfl ?_
    refine z_get (ci := 2) C (hi_X4_checkCell_X2) 1 rfl rfl 1 (by decide) (by decide +kernel) rfl dX4_checkCell_6 ?_
    refine z_icmp_ltI (tgt := 22) C dX4_checkCell_9 (by decide) ⟨by omega, by omega⟩ ⟨by omega, by omega⟩ (fun h2 => ?_) (fun h2 => ?_)
    · exact z_vret C hR dX4_checkCell_22 (Nat.le_of_ble_eq_true rfl) (Nat.le_of_ble_eq_true rfl) (⟨rfl, ⟨by omega, by omega⟩, rfl⟩)
    · exact z_throw C hE hT rfl (ik := 149) (is := 210) (ic := 153) (text := "no such cell") (cls := "java/lang/IndexOutOfBoundsException") rfl (⟨by omega, rfl⟩) (by decide +kernel) (by decide +kernel) (by decide +kernel) (by decide +kernel) (by decide +kernel) (by decide +kernel) (by decide +kernel) dX4_checkCell_12 dX4_checkCell_15 dX4_checkCell_16 dX4_checkCell_18 dX4_checkCell_21 (Nat.le_of_ble_eq_true rfl) ⟨Nat.le_of_ble_eq_true rfl, Nat.le_of_ble_eq_true rfl⟩ ⟨Nat.le_of_ble_eq_true rfl, Nat.le_of_ble_eq_true rfl⟩ ⟨Nat.le_of_ble_eq_true rfl, Nat.le_of_ble_eq_true rfl⟩
theorem hi_X4_modelAt_X4 : ∀ w ∈ wsX40, w ∈ wsX4_modelAt := by decide +kernel
set_option maxHeartbeats 1000000 in
set_option maxRecDepth 100000 in
theorem k_modelAt (l : Launch) (hl : l.stackTraces = false) (D : va_G) (cI cZ cM cL : ClassId) (h nd kn gm us fo fh mi : Nat) (n : Nat) (GM : Int → Option Nat) (z : Int) (q : Nat) (hz : iR z) (hn : n ≤ 8) (hq : 0 ≤ z → z < n → GM z = some q) : zNX l yX4_modelAt wsX4_modelAt { frames := 7, cells := 2, slots := 12, locals := 111 } D (zTy cI cZ cM cL) [.ref h, .int (iI z)] [(h, .inr (4, [.ref nd, .ref kn, .ref gm, .ref us, .int (iI (↑n)), .ref fo, .ref fh, .ref mi])), (gm, rr cM 8 GM)] (fun r w => r = some (.ref q) ∧ (0 ≤ z ∧ z < n) ∧ w = [(h, .inr (4, [.ref nd, .ref kn, .ref gm, .ref us, .int (iI (↑n)), .ref fo, .ref fh, .ref mi])), (gm, rr cM 8 GM)]) (fun Ex => ¬ (0 ≤ z ∧ z < n) ∧ Ex = "java/lang/IndexOutOfBoundsException") 2 12 := by
  refine zNX_of (cc := cX4_modelAt) (maxL := 3) (lv0 := [some (.ref h), some (.int (iI z)), none]) hl (by decide) rfl rfl (Nat.le_of_ble_eq_true rfl) rfl ?_
  intro E Q C hE hR hT
  refine z_aload_n (i := 0) C dX4_modelAt_0 rfl rfl ?_
  refine z_iload_n (i := 1) C dX4_modelAt_1 rfl rfl ?_
  refine z_callVx (n := 1) (As := [.int (iI z)]) (st := []) (fr := [(gm, rr cM 8 GM)]) C hE (k_checkModel l hl D cI cZ cM cL h nd kn gm us fo fh mi n z hz hn) gX4_modelAt_X4_checkModel rfl ⟨rfl, rfl⟩ (by decide +kernel) ⟨Nat.le_of_ble_eq_true rfl, Nat.le_of_ble_eq_true rfl⟩ rfl rfl (List.Perm.refl _) 0 rfl rfl rfl (Nat.le_of_ble_eq_true rfl) ⟨Nat.le_of_ble_eq_true rfl, Nat.le_of_ble_eq_true rfl⟩ dX4_modelAt_2 (fun Ex hpx => z_out C hT rfl hpx ⟨Nat.le_of_ble_eq_true rfl, Nat.le_of_ble_eq_true rfl⟩) (fun r w1 hpo => ?_)
  obtain ⟨rfl, hin, rfl⟩ := hpo
  refine (show zG E Q (0 + 1) (0 + 6) [(h, .inr (4, [.ref nd, .ref kn, .ref gm, .ref us, .int (iI (↑n)), .ref fo, .ref fh, .ref mi])), (gm, rr cM 8 GM)] [some (.ref h), some (.int (iI z)), none] 5 [] from ?_)
  refine z_aload_n (i := 0) C dX4_modelAt_5 rfl rfl ?_
  refine z_get (ci := 4) C (hi_X4_modelAt_X4) 0 rfl rfl 2 (by decide) (by decide +kernel) rfl dX4_modelAt_6 ?_
  refine z_iload_n (i := 1) C dX4_modelAt_9 rfl rfl ?_
  refine z_aaload C 1 rfl (zT_of hE (t0 := 2) rfl) (by omega) (by omega) (by decide) dX4_modelAt_10 ?_
  refine z_eq (ws' := [(h, .inr (4, [.ref nd, .ref kn, .ref gm, .ref us, .int (iI (↑n)), .ref fo, .ref fh, .ref mi])), (gm, rr cM 8 GM)]) (st' := [.ref q]) rfl (by rw [hq hin.1 hin.2]; rfl) ?_
  refine z_astore_n (i := 2) (lv' := [some (.ref h), some (.int (iI z)), some (.ref q)]) C dX4_modelAt_11 rfl rfl rfl ?_
  refine z_aload_n (i := 2) C dX4_modelAt_12 rfl rfl ?_
  refine z_ifnonnull (tgt := 26) C dX4_modelAt_13 (by decide) ?_
  refine z_aload_n (i := 2) C dX4_modelAt_26 rfl rfl ?_
  exact z_aret C hR dX4_modelAt_27 (Nat.le_of_ble_eq_true rfl) (Nat.le_of_ble_eq_true rfl) (⟨rfl, hin, rfl⟩)
