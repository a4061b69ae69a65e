/-! P26, PURE. What is reached is closed; the kinds. -/
theorem bit_m1 : ∀ i : Fin 32, bit (iI (-1)) i.val = true := by decide +kernel
theorem bit_z (i : Nat) : bit (iI 0) i = false := by
  show (iI 0).toBitVec.getLsbD i = false
  rw [show (iI 0).toBitVec = 0#32 from by decide]
  exact BitVec.getLsbD_zero
theorem and_m1 (x : Int32) : x &&& iI (-1) = x := bit_ext fun i hi => by rw [bit_and, bit_m1 ⟨i, hi⟩, Bool.and_true]
theorem bit_not (x : Int32) {i : Nat} (hi : i < 32) : bit (x ^^^ iI (-1)) i = !bit x i := by
  show (x ^^^ iI (-1)).toBitVec.getLsbD i = _
  rw [Int32.toBitVec_xor, BitVec.getLsbD_xor]
  show (bit x i ^^ bit (iI (-1)) i) = _
  rw [bit_m1 ⟨i, hi⟩, Bool.xor_true]
theorem i0 : (0 : Int32) = iI 0 := by decide
theorem bit_0 {x : Int32} : x = 0 ↔ ∀ i : Nat, i < 32 → bit x i = false := by
  rw [i0]
  constructor
  · intro h i _
    rw [h]
    exact bit_z i
  · intro h
    exact bit_ext fun i hi => by rw [h i hi, bit_z]
/-- all bits of a are bits of b -/
def sub32 (a b : Int32) : Prop := ∀ i : Nat, i < 32 → bit a i = true → bit b i = true
theorem sub_not {a b : Int32} (h : sub32 a b) : a &&& (b ^^^ iI (-1)) = 0 := by
  rw [bit_0]
  intro i hi
  rw [bit_and, bit_not b hi]
  cases e : bit a i
  · rfl
  · rw [h i hi e]
    rfl
theorem rcr_s (f : Int → Int32) (w : Int32) (n : Nat) (b : Int32) : rcr f w (n + 1) b = if hb (rcr f w n b) (iI n) then rcr f w n b ||| (f n &&& w) else rcr f w n b := rfl
theorem rcr_up {f : Int → Int32} {w b : Int32} {i : Nat} (h : bit b i = true) : ∀ n : Nat, bit (rcr f w n b) i = true
  | 0 => h
  | n + 1 => by
    have h1 := rcr_up (f := f) (w := w) h n
    rw [rcr_s]
    split
    · rw [bit_or, h1, Bool.true_or]
    · exact h1
theorem rcr_up2 {f : Int → Int32} {w b : Int32} {i m : Nat} (h : bit (rcr f w m b) i = true) : ∀ k : Nat, bit (rcr f w (m + k) b) i = true
  | 0 => h
  | k + 1 => by
    have h1 := rcr_up2 h k
    rw [show m + (k + 1) = m + k + 1 by omega, rcr_s]
    split
    · rw [bit_or, h1, Bool.true_or]
    · exact h1
theorem rch_up {f : Int → Int32} {w b : Int32} {i : Nat} (h : bit b i = true) : ∀ n : Nat, bit (rch f w n b) i = true
  | 0 => h
  | n + 1 => rcr_up (rch_up h n) 8
theorem rch_up2 {f : Int → Int32} {w b : Int32} {i m : Nat} (h : bit (rch f w m b) i = true) : ∀ k : Nat, bit (rch f w (m + k) b) i = true
  | 0 => h
  | k + 1 => rcr_up (rch_up2 h k) 8
def clo (f : Int → Int32) (w X : Int32) : Prop := ∀ k : Nat, k < 8 → bit X k = true → ∀ i : Nat, i < 32 → bit (f k &&& w) i = true → bit X i = true
theorem rcr_clo {f : Int → Int32} {w X b : Int32} (hc : clo f w X) (h : sub32 b X) : ∀ n : Nat, n ≤ 8 → sub32 (rcr f w n b) X
  | 0, _ => h
  | n + 1, hn => by
    have h1 := rcr_clo hc h n (by omega)
    intro i hi hx
    rw [rcr_s] at hx
    by_cases hbn : hb (rcr f w n b) (iI n)
    · rw [if_pos hbn, bit_or, Bool.or_eq_true] at hx
      rcases hx with hx | hx
      · exact h1 i hi hx
      · have hb2 := (hb_bit (by omega) (by omega)).mp hbn
        rw [Int.toNat_natCast] at hb2
        exact hc n (by omega) (h1 n (by omega) hb2) i hi hx
    · rw [if_neg hbn] at hx
      exact h1 i hi hx
theorem rch_clo {f : Int → Int32} {w X b : Int32} (hc : clo f w X) (h : sub32 b X) : ∀ n : Nat, sub32 (rch f w n b) X
  | 0 => h
  | n + 1 => rcr_clo hc (rch_clo hc h n) 8 (Nat.le_refl _)
/-- how many of the first n bits -/
def ct (x : Int32) : Nat → Nat
  | 0 => 0
  | n + 1 => ct x n + (if bit x n = true then 1 else 0)
theorem ct_le (x : Int32) : ∀ n : Nat, ct x n ≤ n
  | 0 => Nat.le_refl _
  | n + 1 => by
    have h := ct_le x n
    unfold ct
    split <;> omega
theorem ct_mono {x y : Int32} : ∀ n : Nat, (∀ i : Nat, i < n → bit x i = true → bit y i = true) → ct x n ≤ ct y n
  | 0, _ => Nat.le_refl _
  | n + 1, h => by
    have h1 := ct_mono (x := x) (y := y) n (fun i hi => h i (by omega))
    have h2 := h n (by omega)
    unfold ct
    by_cases e : bit x n = true
    · rw [if_pos e, if_pos (h2 e)]
      omega
    · rw [if_neg e]
      split <;> omega
theorem ct_lt {x y : Int32} : ∀ n : Nat, (∀ i : Nat, i < n → bit x i = true → bit y i = true) → (∃ i : Nat, i < n ∧ bit y i = true ∧ ¬ bit x i = true) → ct x n < ct y n
  | 0, _, h => by
    obtain ⟨i, hi, _⟩ := h
    omega
  | n + 1, h, h9 => by
    obtain ⟨i, hi, hy, hx⟩ := h9
    have h2 := h n (by omega)
    have h0 := ct_mono (x := x) (y := y) n (fun j hj => h j (by omega))
    unfold ct
    by_cases e : i = n
    · subst e
      rw [if_pos hy, if_neg hx]
      omega
    · have h1 := ct_lt (x := x) (y := y) n (fun j hj => h j (by omega)) ⟨i, by omega, hy, hx⟩
      by_cases e2 : bit x n = true
      · rw [if_pos e2, if_pos (h2 e2)]
        omega
      · rw [if_neg e2]
        split <;> omega
theorem ct_pos {x : Int32} {i : Nat} (hi : i < 8) (h : bit x i = true) : 1 ≤ ct x 8 := by
  have h1 := ct_lt (x := iI 0) (y := x) 8 (fun j _ hj => by rw [bit_z] at hj; cases hj) ⟨i, hi, h, fun hj => by rw [bit_z] at hj; cases hj⟩
  omega
theorem clo_step {f : Int → Int32} {w X : Int32} (h : ∀ i : Nat, i < 8 → bit (rcr f w 8 X) i = true → bit X i = true) : clo f w (rcr f w 8 X) := by
  intro k hk hx i hi hf
  have h2 : bit (rcr f w k X) k = true := rcr_up (h k hk hx) k
  have h3 : bit (rcr f w (k + 1) X) i = true := by
    rw [rcr_s, if_pos ((hb_bit (by omega) (by omega)).mpr (by rw [Int.toNat_natCast]; exact h2)), bit_or, hf, Bool.or_true]
  have h4 := rcr_up2 h3 (7 - k)
  rw [show k + 1 + (7 - k) = 8 by omega] at h4
  exact h4
theorem rch_fix {f : Int → Int32} {w b : Int32} (hb0 : 1 ≤ ct b 8) : ∀ m : Nat, (∃ q : Nat, q ≤ m ∧ clo f w (rch f w q b)) ∨ m + 1 ≤ ct (rch f w m b) 8
  | 0 => Or.inr hb0
  | m + 1 => by
    rcases rch_fix (f := f) (w := w) hb0 m with ⟨q, h1, h2⟩ | h
    · exact Or.inl ⟨q, by omega, h2⟩
    · by_cases e : ∀ i : Nat, i < 8 → bit (rcr f w 8 (rch f w m b)) i = true → bit (rch f w m b) i = true
      · exact Or.inl ⟨m + 1, Nat.le_refl _, clo_step e⟩
      · have e2 : ∃ i : Nat, i < 8 ∧ bit (rcr f w 8 (rch f w m b)) i = true ∧ ¬ bit (rch f w m b) i = true :=
          Classical.byContradiction fun hne => e fun i hi hx => Classical.byContradiction fun hny => hne ⟨i, hi, hx, hny⟩
        have h3 := ct_lt 8 (fun i _ hx => rcr_up (f := f) (w := w) hx 8) e2
        refine Or.inr ?_
        show m + 1 + 1 ≤ ct (rcr f w 8 (rch f w m b)) 8
        omega
theorem rch_closed {f : Int → Int32} {w b : Int32} (hb0 : 1 ≤ ct b 8) : clo f w (rch f w 8 b) := by
  rcases rch_fix (f := f) (w := w) hb0 8 with ⟨q, h1, h2⟩ | h
  · have e : rch f w 8 b = rch f w q b := by
      refine bit_ext fun i hi => Bool.eq_iff_iff.mpr ⟨fun hx => rch_clo h2 (fun j _ hj => rch_up hj q) 8 i hi hx, fun hx => ?_⟩
      have h3 := rch_up2 hx (8 - q)
      rw [show q + (8 - q) = 8 by omega] at h3
      exact h3
    rw [e]
    exact h2
  · have := ct_le (rch f w 8 b) 8
    omega
theorem mcB_in {US : Int → Int32} {i : Int} (h0 : 0 ≤ i) (h1 : i < 8) : bit (mcB US i) i.toNat = true := by
  unfold mcB
  refine rch_up ?_ 8
  rw [and_m1, bit_1z h0 (by omega) (by omega)]
  exact decide_eq_true rfl
theorem mcB_clo {US : Int → Int32} {i : Int} (h0 : 0 ≤ i) (h1 : i < 8) : clo US (iI (-1)) (mcB US i) := by
  refine rch_closed (ct_pos (i := i.toNat) (by omega) ?_)
  rw [and_m1, bit_1z h0 (by omega) (by omega)]
  exact decide_eq_true rfl
theorem mcB_to {US : Int → Int32} {i j : Int} (hi : 0 ≤ i ∧ i < 8) (hj : 0 ≤ j ∧ j < 8) (h : hb (US i) (iI j)) : bit (mcB US i) j.toNat = true :=
  mcB_clo hi.1 hi.2 i.toNat (by omega) (mcB_in hi.1 hi.2) j.toNat (by omega) (by
    rw [show ((i.toNat : Nat) : Int) = i by omega, and_m1]
    exact (hb_bit hj.1 (by omega)).mp h)
theorem mcB_sub {US : Int → Int32} {i j : Int} (hi : 0 ≤ i ∧ i < 8) (hj : 0 ≤ j ∧ j < 8) (h : hb (US i) (iI j)) : sub32 (mcB US j) (mcB US i) := by
  refine rch_clo (mcB_clo hi.1 hi.2) (fun k hk hx => ?_) 8
  rw [and_m1, bit_1z hj.1 (by omega) hk] at hx
  rw [of_decide_eq_true hx]
  exact mcB_to hi hj h
theorem rcr_lk2 {f g : Int → Int32} {w : Int32} {k : Int} (hk : 0 ≤ k ∧ k < 8) (hg : ∀ j : Int, j ≠ k → g j = f j) {a b : Int32} (h : lks k a b) : ∀ n : Nat, lks k (rcr f w n a) (rcr g w n b)
  | 0 => h
  | n + 1 => by
    have h1 := rcr_lk2 (w := w) hk hg h n
    rw [rcr_s, rcr_s]
    generalize rcr f w n a = A at h1 ⊢
    generalize rcr g w n b = B at h1 ⊢
    rcases h1 with rfl | ⟨h2, h3⟩
    · by_cases e : (n : Int) = k
      · by_cases hh : hb A (iI n)
        · rw [if_pos hh, if_pos hh]
          rw [e] at hh ⊢
          exact Or.inr ⟨hb_or hk.1 (by omega) hh, hb_or hk.1 (by omega) hh⟩
        · rw [if_neg hh, if_neg hh]
          exact Or.inl rfl
      · rw [hg n e]
        exact Or.inl rfl
    · refine Or.inr ⟨?_, ?_⟩
      · split
        · exact hb_or hk.1 (by omega) h2
        · exact h2
      · split
        · exact hb_or hk.1 (by omega) h3
        · exact h3
theorem rch_lk2 {f g : Int → Int32} {w : Int32} {k : Int} (hk : 0 ≤ k ∧ k < 8) (hg : ∀ j : Int, j ≠ k → g j = f j) {a b : Int32} (h : lks k a b) : ∀ n : Nat, lks k (rch f w n a) (rch g w n b)
  | 0 => h
  | n + 1 => rcr_lk2 hk hg (rch_lk2 hk hg h n) 8
theorem SN_nh {ND : Int → Int32} {k w : Int} (h : cSN ND k w = 0) : (0 ≤ k ∧ k < 8) ∧ (0 ≤ w ∧ w ≤ 255) ∧ ¬ hb (rch ND (iI 255) 8 (iI w &&& iI 255)) (iI k) := by
  unfold cSN at h
  split at h
  · omega
  · split at h
    · omega
    · split at h
      · omega
      · rename_i h1 h2 h3
        exact ⟨by omega, by omega, h3⟩
/-- told once, the needs can be told again -/
theorem SN_again {ND : Int → Int32} {k w : Int} {v : Int32} (h : cSN ND k w = 0) : cSN (zup ND k v) k w = 0 := by
  obtain ⟨h1, h2, h3⟩ := SN_nh h
  unfold cSN
  rw [if_neg (fun q => q h1), if_neg (fun q => q h2), if_neg]
  intro h4
  rcases rch_lk2 (f := ND) (g := zup ND k v) (w := iI 255) h1 (fun j hj => zup_ne _ _ hj) (Or.inl rfl : lks k (iI w &&& iI 255) (iI w &&& iI 255)) 8 with e | ⟨e, -⟩
  · rw [e] at h3
    exact h3 h4
  · exact h3 e
/-- .. and the kind is none of its own needs -/
theorem SN_self {ND : Int → Int32} {k w : Int} (h : cSN ND k w = 0) : (iI w >>> (iI k &&& 31)) &&& iI 1 = 0 := by
  obtain ⟨h1, h2, h3⟩ := SN_nh h
  refine Classical.byContradiction fun hne => h3 ?_
  have e : iI w &&& iI 255 = iI w := byt_z h2.1 (by omega)
  rw [e]
  exact (hb_bit h1.1 (by omega)).mpr (rch_up ((hb_bit h1.1 (by omega)).mp hne) 8)
theorem US_nh {n : Nat} {US : Int → Int32} {i j : Int} (h : cUS n US i j = 0) : (0 ≤ i ∧ i < n) ∧ (0 ≤ j ∧ j < n) ∧ ¬ hb (mcB US j) (iI i) := by
  unfold cUS at h
  split at h
  · omega
  · split at h
    · omega
    · rename_i h1 h2
      exact ⟨by omega, by omega, h2⟩
theorem US_again {n : Nat} (hn : n ≤ 8) {US : Int → Int32} {i j : Int} {v : Int32} (h : cUS n US i j = 0) : cUS n (zup US i v) i j = 0 := by
  obtain ⟨h1, h2, h3⟩ := US_nh h
  unfold cUS
  rw [if_neg (by omega), if_neg]
  intro h4
  rcases rch_lk2 (f := US) (g := zup US i v) (w := iI (-1)) (k := i) (by omega) (fun k hk => zup_ne _ _ hk) (Or.inl rfl : lks i ((iI 1 <<< (iI j &&& 31)) &&& iI (-1)) ((iI 1 <<< (iI j &&& 31)) &&& iI (-1))) 8 with e | ⟨e, -⟩
  · exact h3 (by unfold mcB; rw [e]; exact h4)
  · exact h3 e
theorem US_ne {n : Nat} (hn : n ≤ 8) {US : Int → Int32} {i j : Int} (h : cUS n US i j = 0) : i ≠ j := by
  obtain ⟨h1, h2, h3⟩ := US_nh h
  intro e
  subst e
  exact h3 ((hb_bit h1.1 (by omega)).mpr (mcB_in h1.1 (by omega)))
/-- .. nor can it be used the other way round -/
theorem US_back {n : Nat} (hn : n ≤ 8) {US : Int → Int32} {i j : Int} (hi : 0 ≤ i ∧ i < n) (hj : 0 ≤ j ∧ j < n) (h : hb (US i) (iI j)) : cUS n US j i = 2 := by
  unfold cUS
  rw [if_neg (by omega), if_pos]
  exact (hb_bit hj.1 (by omega)).mpr (mcB_to (by omega) (by omega) h)
theorem hb_or2 {x : Int32} {j : Int} (h0 : 0 ≤ j) (h1 : j < 32) : hb (x ||| (iI 1 <<< (iI j &&& 31))) (iI j) := by
  rw [hb_bit h0 h1, bit_or, bit_1z h0 h1 (by omega), decide_eq_true rfl, Bool.or_true]
theorem kcB_s (μ : Nat → zM) (b : Int32) (j : Nat) : kcB μ b (j + 1) = if hb b (iI j) then kcB μ b j ||| okb (mK (μ j)) (msn (μ j)).toNat else kcB μ b j := rfl
theorem kcB_sub {μ : Nat → zM} {b c : Int32} (h : sub32 b c) : ∀ n : Nat, n ≤ 32 → sub32 (kcB μ b n) (kcB μ c n)
  | 0, _ => fun _ _ hx => hx
  | n + 1, hn => by
    have h1 := kcB_sub (μ := μ) h n (by omega)
    intro i hi hx
    rw [kcB_s] at hx ⊢
    by_cases e : hb b (iI n)
    · have e2 : hb c (iI n) := (hb_bit (by omega) (by omega)).mpr (h _ (by omega) ((hb_bit (by omega) (by omega)).mp e))
      rw [if_pos e, bit_or, Bool.or_eq_true] at hx
      rw [if_pos e2, bit_or, Bool.or_eq_true]
      exact hx.imp (h1 i hi) id
    · rw [if_neg e] at hx
      have h2 := h1 i hi hx
      split
      · rw [bit_or, h2, Bool.true_or]
      · exact h2
theorem kcB_has {μ : Nat → zM} {b : Int32} {i k : Nat} (hb0 : hb b (iI i)) (h : bit (okb (mK (μ i)) (msn (μ i)).toNat) k = true) : ∀ n : Nat, i < n → bit (kcB μ b n) k = true
  | 0, hn => by omega
  | n + 1, hn => by
    rw [kcB_s]
    by_cases e : i = n
    · subst e
      rw [if_pos hb0, bit_or, h, Bool.or_true]
    · have h1 := kcB_has hb0 h n (by omega)
      split
      · rw [bit_or, h1, Bool.true_or]
      · exact h1
/-- the kind of the newest step counts for its model -/
theorem kc_new {μ : Nat → zM} {US : Int → Int32} {n : Nat} {i k : Int} (hn : n ≤ 8) (hi : 0 ≤ i ∧ i < n) (hk : 0 ≤ k ∧ k < 8) {K : Int → Int} {m : Int} (hm : 0 ≤ m) (h1 : msn (μ i.toNat) = m + 1) (h2 : mK (μ i.toNat) = zup K m k) : (kcB μ (mcB US i) n >>> (iI k &&& 31)) &&& iI 1 = iI 1 := by
  have h3 : bit (okb (mK (μ i.toNat)) (msn (μ i.toNat)).toNat) k.toNat = true := by
    rw [h1, h2, show (m + 1).toNat = m.toNat + 1 by omega]
    show bit (okb (zup K m k) m.toNat ||| (iI 1 <<< (iI (zup K m k (m.toNat : Nat)) &&& 31))) k.toNat = true
    rw [show ((m.toNat : Nat) : Int) = m by omega, zup_self, bit_or, bit_1z hk.1 (by omega) (by omega), decide_eq_true rfl, Bool.or_true]
  have h4 := kcB_has (μ := μ) (b := mcB US i) (i := i.toNat) (k := k.toNat) ((hb_bit (by omega) (by omega)).mpr (by rw [Int.toNat_natCast]; exact mcB_in hi.1 (by omega))) h3 n (by omega)
  have h5 : hb (kcB μ (mcB US i) n) (iI k) := (hb_bit hk.1 (by omega)).mpr h4
  exact hb1.mpr h5
