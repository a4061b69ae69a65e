/-! P26, PURE. The school, the mill, a strip. -/
theorem bcE_tab : ∀ k : Fin 256, 0 ≤ (bcE (iI (k.val : Int))).toInt ∧ (bcE (iI (k.val : Int))).toInt ≤ 8 ∧ ((bcE (iI (k.val : Int))).toInt = 0 ↔ iI (k.val : Int) = iI 0) := by decide +kernel
theorem bcE_z {x : Int32} (h : byt x) : ∃ m : Int, bcE x = iI m ∧ 0 ≤ m ∧ m ≤ 8 ∧ (m = 0 ↔ x = iI 0) := by
  obtain ⟨z, h0, h1, rfl⟩ := byt_int h
  have ht := bcE_tab ⟨z.toNat, by omega⟩
  rw [show (((⟨z.toNat, by omega⟩ : Fin 256).val : Nat) : Int) = z by show ((z.toNat : Nat) : Int) = z; omega] at ht
  exact ⟨_, (Int32.ofInt_toInt _).symm, ht.1, ht.2.1, ht.2.2⟩
theorem rcr_bw {f : Int → Int32} {w b : Int32} (hw : byt w) (h : byt b) : ∀ n : Nat, byt (rcr f w n b)
  | 0 => h
  | n + 1 => by
    have h1 := rcr_bw (f := f) hw h n
    rw [rcr_s]
    split
    · refine byt_or h1 ?_
      rw [Int32.and_comm]
      exact byt_and hw
    · exact h1
theorem rch_bw {f : Int → Int32} {w b : Int32} (hw : byt w) (h : byt b) : ∀ n : Nat, byt (rch f w n b)
  | 0 => h
  | n + 1 => rcr_bw hw (rch_bw hw h n) 8
theorem rcr_0 {f : Int → Int32} {w : Int32} : ∀ n : Nat, n ≤ 8 → rcr f w n (iI 0) = iI 0
  | 0, _ => rfl
  | n + 1, hn => by
    rw [rcr_s, rcr_0 n (by omega), if_neg]
    intro h
    have h2 := (hb_bit (by omega) (by omega)).mp h
    rw [bit_z] at h2
    cases h2
theorem rch_0 {f : Int → Int32} {w : Int32} : ∀ n : Nat, rch f w n (iI 0) = iI 0
  | 0 => rfl
  | n + 1 => by
    show rcr f w 8 (rch f w n (iI 0)) = iI 0
    rw [rch_0 n, rcr_0 8 (Nat.le_refl _)]
/-- how many lessons, and whether there are any -/
theorem les_z {ND : Int → Int32} {N K : Int32} (hK : byt K) : ∃ m : Int, bcE (rch ND ((iI 255) &&& (N ^^^ (iI (-1)))) 8 (K &&& ((iI 255) &&& (N ^^^ (iI (-1)))))) = iI m ∧ 0 ≤ m ∧ m ≤ 8 ∧ (m = 0 ↔ ¬ lk N K) ∧ (K = iI 0 → m = 0) := by
  have hM : byt ((iI 255) &&& (N ^^^ (iI (-1)))) := byt_and (byt_z (by omega) (by omega))
  have hS : K &&& ((iI 255) &&& (N ^^^ (iI (-1)))) = K &&& (N ^^^ (iI (-1))) := by
    rw [← Int32.and_assoc, show K &&& iI 255 = K from hK]
  obtain ⟨m, h1, h2, h3, h4⟩ := bcE_z (rch_bw (f := ND) hM (byt_and hK : byt (K &&& ((iI 255) &&& (N ^^^ (iI (-1)))))) 8)
  refine ⟨m, h1, h2, h3, ?_, ?_⟩
  · rw [h4, hS]
    constructor
    · intro e h5
      refine h5 (bit_0.mpr fun i hi => ?_)
      cases e2 : bit (K &&& (N ^^^ (iI (-1)))) i
      · rfl
      · have h6 := rch_up (f := ND) (w := (iI 255) &&& (N ^^^ (iI (-1)))) e2 8
        rw [e, bit_z] at h6
        cases h6
    · intro h5
      have h6 : K &&& (N ^^^ (iI (-1))) = 0 := Classical.byContradiction fun q => h5 q
      rw [h6, i0]
      exact rch_0 8
  · intro e
    rw [h4, e, show iI 0 &&& ((iI 255) &&& (N ^^^ (iI (-1)))) = iI 0 from by rw [← i0]; exact Int32.zero_and]
    exact rch_0 8
/-- what a pupil knows behind a lesson -/
theorem teach_z {x : Int32} {k : Int} (h : byt x) (hk : 0 ≤ k ∧ k < 8) : ∃ m : Int, bcE (x ||| (iI 1 <<< (iI k &&& 31))) = iI m ∧ 1 ≤ m ∧ m ≤ 8 := by
  obtain ⟨m, h1, h2, h3, h4⟩ := bcE_z (byt_or h (byt_1 hk.1 hk.2))
  refine ⟨m, h1, ?_, h3⟩
  have : ¬ m = 0 := by
    rw [h4]
    intro e
    have h5 : bit (x ||| (iI 1 <<< (iI k &&& 31))) k.toNat = true := by
      rw [bit_or, bit_1z hk.1 (by omega) (by omega), decide_eq_true rfl, Bool.or_true]
    rw [e, bit_z] at h5
    cases h5
  omega
theorem or_again (x y : Int32) : (x ||| y) ||| y = x ||| y := by rw [Int32.or_assoc, Int32.or_self]
theorem TE_again {ND KN : Int → Int32} {p k : Int} {y : Int32} (h : cTE ND KN p k = 0) : cTE ND (zup KN p (KN p ||| y)) p k = 0 := by
  unfold cTE at h ⊢
  split at h
  · omega
  · split at h
    · omega
    · rename_i h1 h2
      rw [if_neg h1, if_neg]
      rw [zup_self]
      intro h3
      refine h3 (bit_0.mpr fun i hi => ?_)
      have h4 : ND k &&& (KN p ^^^ iI (-1)) = 0 := Classical.byContradiction fun q => h2 q
      have h5 := bit_0.mp h4 i hi
      rw [bit_and, bit_not _ hi] at h5 ⊢
      rw [bit_or]
      revert h5
      cases bit (ND k) i <;> cases bit (KN p) i <;> cases bit y i <;> decide
/-! The mill. -/
theorem fwt_0 (d : Int32) : ∀ n : Nat, fwt d n 0 = 0
  | 0 => rfl
  | n + 1 => by
    show zup (fwt d n) ((n : Int) + 1) (fwb d (fwt d n) ((n : Int) + 1) (min 20 (n + 1))) 0 = 0
    rw [zup_ne _ _ (by omega), fwt_0 d n]
theorem fwt_st (d : Int32) {n : Nat} {y : Int} (h : y ≤ n) : ∀ k : Nat, fwt d (n + k) y = fwt d n y
  | 0 => rfl
  | k + 1 => by
    show zup (fwt d (n + k)) (((n + k : Nat) : Int) + 1) (fwb d (fwt d (n + k)) (((n + k : Nat) : Int) + 1) (min 20 (n + k + 1))) y = fwt d n y
    rw [zup_ne _ _ (by omega), fwt_st d h k]
theorem fwb_neg {d : Int32} {A : Int → Int} {x : Int} : ∀ n : Nat, fwb d A x n < 0 → ∀ k : Nat, k < n → hb d (iI k) → A (x - (k + 1)) < 0
  | 0, _, k, hk, _ => by omega
  | n + 1, h, k, hk, hd => by
    rw [fwb_s d A x n _ rfl] at h
    have h1 : fwb d A x n < 0 ∧ (if hb d (iI n) then A (x - (n + 1)) else -1) < 0 := by
      generalize (if hb d (iI n) then A (x - (n + 1)) else -1) = v at h ⊢
      split at h <;> omega
    by_cases e : k = n
    · subst e
      have h2 := h1.2
      rw [if_pos hd] at h2
      exact h2
    · exact fwb_neg n h1.1 k (by omega) hd
theorem fwt_neg {d : Int32} {N : Nat} {y : Int} (h0 : 1 ≤ y) (h1 : y ≤ N) (h : fwt d N y < 0) {k : Nat} (hk : k < 20) (hky : (k : Int) < y) (hd : hb d (iI k)) : fwt d N (y - (k + 1)) < 0 := by
  obtain ⟨m, rfl⟩ := Int.eq_ofNat_of_zero_le (show 0 ≤ y by omega)
  obtain ⟨q, rfl⟩ : ∃ q : Nat, m = q + 1 := ⟨m - 1, by omega⟩
  have e1 := fwt_st d (n := q + 1) (y := ((q + 1 : Nat) : Int)) (Int.le_refl _) (N - (q + 1))
  rw [show q + 1 + (N - (q + 1)) = N by omega] at e1
  rw [e1] at h
  have e2 : fwt d (q + 1) ((q + 1 : Nat) : Int) = fwb d (fwt d q) ((q : Int) + 1) (min 20 (q + 1)) := by
    show zup (fwt d q) ((q : Int) + 1) (fwb d (fwt d q) ((q : Int) + 1) (min 20 (q + 1))) ((q + 1 : Nat) : Int) = _
    rw [show ((q + 1 : Nat) : Int) = (q : Int) + 1 by omega, zup_self]
  rw [e2] at h
  have h2 := fwb_neg _ h k (by omega) hd
  have e3 := fwt_st d (n := q) (y := ((q : Int) + 1 - (k + 1))) (by omega) (N - q)
  rw [show q + (N - q) = N by omega] at e3
  rw [show ((q + 1 : Nat) : Int) - (k + 1) = (q : Int) + 1 - (k + 1) by omega, e3]
  exact h2
theorem wyi_none {d : Int32} {N n : Nat} (hn : n < 20) (hd : hb d (iI n)) {B : Int → Int} (h : ∀ y : Int, 0 ≤ y → y ≤ N → fwt d N y < 0 → B y = 0) : ∀ m : Nat, m ≤ N + 1 → ∀ y : Int, 0 ≤ y → y ≤ N → fwt d N y < 0 → wyi (n + 1) B m y = 0
  | 0, _ => h
  | m + 1, hm => by
    have h1 := wyi_none hn hd h m (by omega)
    intro y a b c
    by_cases e : (m : Int) < (n : Int) + 1
    · rw [wyi_lo (m + 1) (by omega)]
      exact h y a b c
    · rw [wyi_s m (by omega)]
      unfold zup
      split
      · rename_i e2
        subst e2
        rw [h1 m (by omega) (by omega) c, h1 (m - (n + 1)) (by omega) (by omega) (fwt_neg (by omega) b c hn (by omega) hd)]
        rfl
      · exact h1 y a b c
theorem wyt_none {d : Int32} {N : Nat} : ∀ n : Nat, n ≤ 20 → ∀ y : Int, 0 ≤ y → y ≤ N → fwt d N y < 0 → wyt d (N + 1) n y = 0
  | 0, _, y, a, b, c => by
    show (if y = 0 then (1 : Int) else 0) = 0
    rw [if_neg]
    intro e
    rw [e, fwt_0] at c
    omega
  | n + 1, hn, y, a, b, c => by
    have h1 := wyt_none (d := d) (N := N) n (by omega)
    show (if hb d (iI n) then wyi (n + 1) (wyt d (N + 1) n) (N + 1) else wyt d (N + 1) n) y = 0
    by_cases e : hb d (iI n)
    · rw [if_pos e]
      exact wyi_none (by omega) e h1 (N + 1) (Nat.le_refl _) y a b c
    · rw [if_neg e]
      exact h1 y a b c
theorem wyt_1 (d : Int32) : ∀ n : Nat, wyt d 1 n 0 = 1
  | 0 => rfl
  | n + 1 => by
    show (if hb d (iI n) then wyi (n + 1) (wyt d 1 n) 1 else wyt d 1 n) 0 = 1
    split
    · rw [wyi_lo 1 (by omega), wyt_1 d n]
    · exact wyt_1 d n
/-- the fewest pieces, the ways and the rest of a roll -/
theorem mill_z (d : Int32) {L : Int} (h0 : 0 ≤ L) (h1 : L ≤ 200) : ∃ pc rs wy : Int, fwt d L.toNat L = pc ∧ L - crs (fwt d L.toNat) L.toNat = rs ∧ wyt d (L + 1).toNat 20 L = wy ∧ (pc = -1 ↔ 0 < rs) ∧ -1 ≤ pc ∧ pc ≤ L ∧ 0 ≤ rs ∧ rs ≤ L ∧ 0 ≤ wy ∧ wy < 1000007 ∧ (pc = -1 → wy = 0) ∧ (L = 0 → pc = 0 ∧ wy = 1) := by
  obtain ⟨N, rfl⟩ := Int.eq_ofNat_of_zero_le h0
  rw [Int.toNat_natCast, show ((N : Int) + 1).toNat = N + 1 by omega]
  have r1 := fwt_r (d := d) N (N : Int) h0 (Int.le_refl _)
  have r2 := crs_r (fwt d N) N
  have r3 := wyt_r (d := d) (L := N + 1) 20 (N : Int)
  refine ⟨_, _, _, rfl, rfl, rfl, ?_, r1.1, r1.2, by omega, by omega, r3.1, r3.2, fun e => wyt_none 20 (Nat.le_refl _) N h0 (Int.le_refl _) (by omega), fun e => ?_⟩
  · cases N with
    | zero =>
      have e1 : fwt d 0 ((0 : Nat) : Int) = 0 := fwt_0 d 0
      have e2 : crs (fwt d 0) 0 = 0 := rfl
      rw [e1, e2]
      omega
    | succ m =>
      have e : crs (fwt d (m + 1)) (m + 1) = if fwt d (m + 1) ((m : Int) + 1) < 0 then crs (fwt d (m + 1)) m else (m : Int) + 1 := rfl
      have r4 := crs_r (fwt d (m + 1)) m
      have e3 : ((m + 1 : Nat) : Int) = (m : Int) + 1 := by omega
      rw [e3] at r1 ⊢
      rw [e]
      split <;> omega
  · have e0 : N = 0 := by omega
    subst e0
    exact ⟨fwt_0 d 0, wyt_1 d 20⟩
/-! A strip. -/
theorem mxC_le {f : Int → Int} {B : Int} (hB : 0 ≤ B) (h : ∀ k, f k ≤ B) : ∀ n : Nat, mxC f n ≤ B
  | 0 => hB
  | n + 1 => by
    have h1 := mxC_le hB h n
    have h2 := h n
    unfold mxC
    omega
theorem geo_sum {len sp lay : Int} {S C Pl Hl : Int → Int} (g : geo len sp S C Pl Hl) (hl : ∀ k, 0 ≤ k → k < sp → hgt sp S k ≤ lay) : ∀ k : Nat, (k : Int) ≤ sp → S k ≤ k * lay
  | 0, _ => by
    have h := g.1.2.2.1
    show S 0 ≤ ((0 : Nat) : Int) * lay
    rw [h]
    omega
  | k + 1, hk => by
    have h1 := geo_sum g hl k (by omega)
    have h2 := hl k (by omega) (by omega)
    unfold hgt at h2
    rw [if_pos ⟨by omega, by omega⟩] at h2
    have e1 : ((k + 1 : Nat) : Int) = (k : Int) + 1 := by omega
    rw [e1, Int.add_mul, Int.one_mul]
    omega
theorem div_le {a s l : Int} (hs : 1 ≤ s) (h : a ≤ s * l) : (a + s - 1) / s ≤ l := by
  have h1 : (a + s - 1) / s < l + 1 := by
    refine Int.ediv_lt_of_lt_mul (by omega) ?_
    rw [Int.add_mul, Int.one_mul, Int.mul_comm l s]
    omega
  omega
/-- what a strip's places and layers are -/
theorem strip_z {u : zM} (h : mdO u) : 1 ≤ mgS u ∧ mgS u ≤ mle u ∧ (mle u + mgS u - 1) / mgS u ≤ mlay u ∧ 1 ≤ mlay u ∧ mlay u ≤ mle u ∧ (mlay u ≤ 1 ↔ mlay u = 1 ∧ msn u = 0) := by
  obtain ⟨-, h2, h3, h4, ⟨S, C, g⟩, -⟩ := mdO_f h
  have hS : 1 ≤ mgS u ∧ mgS u ≤ mle u := stV_gS h4 (by omega) (msn u).toNat (by omega)
  have hl : ∀ k, 0 ≤ k → k < mgS u → hgt (mgS u) S k ≤ mlay u := by
    intro k a b
    rw [g.2.2.2.2 k]
    exact mxC_ge (f := mcn u) _ k a (by omega)
  have hsum := geo_sum g hl (mgS u).toNat (by omega)
  rw [show (((mgS u).toNat : Nat) : Int) = mgS u by omega, g.2.1] at hsum
  have hlen : mlay u ≤ mle u := mxC_le (by omega) (fun k => by
    have := (cnt_r (Pl := mgP u) (k := k) (mle u).toNat).2
    show cnt (mgP u) k (mle u).toNat ≤ mle u
    omega) _
  have hpos : 1 ≤ mlay u := by
    have h5 : 0 ≤ mlay u := mxC_0 _
    refine Decidable.byContradiction fun hn => ?_
    rw [show mlay u = 0 by omega, Int.mul_zero] at hsum
    omega
  refine ⟨hS.1, hS.2, div_le hS.1 hsum, hpos, hlen, fun h5 => ⟨by omega, ?_⟩, fun h5 => by omega⟩
  rw [show mlay u = 1 by omega, Int.mul_one] at hsum
  refine Decidable.byContradiction fun hn => ?_
  obtain ⟨j, hj⟩ : ∃ j : Nat, (msn u).toNat = j + 1 := ⟨(msn u).toNat - 1, by omega⟩
  have h6 := (h4 j (by omega)).1
  have h7 := (stV_gS h4 (by omega) j (by omega)).2
  have e : mgS u = max (mP u (j : Int)) (gS (mle u) (mP u) j - mP u (j : Int)) := by
    unfold mgS
    rw [hj]
    rfl
  omega
theorem place_z {u : zM} (h : mdO u) {q : Int} (h0 : 0 ≤ q) (h1 : q < mle u) : (0 ≤ mgP u q ∧ mgP u q < mgS u) ∧ 0 ≤ mgH u q ∧ mgH u q < mlay u ∧ mgH u q < mcn u (mgP u q) := by
  obtain ⟨-, h2, h3, h4, ⟨S, C, g⟩, -⟩ := mdO_f h
  obtain ⟨a1, a2, a3, a4, -⟩ := g.2.2.1 q h0 h1
  rw [g.2.2.2.2] at a4
  have := mxC_ge (f := mcn u) (mgS u).toNat (mgP u q) a1 (by omega)
  have a4' : mgH u q < mcn u (mgP u q) := a4
  have e : mlay u = mxC (mcn u) (mgS u).toNat := rfl
  exact ⟨⟨a1, a2⟩, a3, by omega, a4'⟩
theorem turn_z {u : zM} (q : Int) : (mgT u q = 0 ∨ mgT u q = 1) ∧ (msn u = 0 → mgT u q = 0) := by
  refine ⟨gT_r q _, fun h => ?_⟩
  unfold mgT
  rw [h]
  rfl
