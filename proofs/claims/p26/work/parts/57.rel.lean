/-! CLASS AND REFERENCE: bits. -/
theorem sh_n : ∀ k : Fin 32, (((iI (k.val : Int)) &&& 31).toBitVec.smod 32).toNat = k.val := by decide +kernel
theorem sh_z {j : Int} (h0 : 0 ≤ j) (h1 : j < 32) : (((iI j) &&& 31).toBitVec.smod 32).toNat = j.toNat := by
  have h := sh_n ⟨j.toNat, by omega⟩
  rw [show (((⟨j.toNat, by omega⟩ : Fin 32).val : Nat) : Int) = j by show ((j.toNat : Nat) : Int) = j; omega] at h
  exact h
abbrev bit (x : Int32) (i : Nat) : Bool := x.toBitVec.getLsbD i
theorem and1b (x : BitVec 32) : x &&& 1#32 = 0#32 ↔ x.getLsbD 0 = false := by
  rw [BitVec.and_one_eq_setWidth_ofBool_getLsbD]
  cases x.getLsbD 0
  · exact ⟨fun _ => rfl, fun _ => rfl⟩
  · exact ⟨fun h => absurd h (by decide), fun h => by cases h⟩
theorem hb_bit {x : Int32} {j : Int} (h0 : 0 ≤ j) (h1 : j < 32) : hb x (iI j) ↔ bit x j.toNat = true := by
  have e : ((x >>> (iI j &&& 31)) &&& iI 1) = 0 ↔ (x.toBitVec.sshiftRight' (((iI j) &&& 31).toBitVec.smod 32)) &&& 1#32 = 0#32 := by
    rw [← Int32.toBitVec_inj]
    exact Iff.rfl
  show (¬ ((x >>> (iI j &&& 31)) &&& iI 1) = 0) ↔ _
  rw [e, and1b, BitVec.getLsbD_sshiftRight', sh_z h0 h1]
  simp only [Nat.add_zero, show ¬ (32 ≤ 0) by decide, decide_false, Bool.not_false, Bool.true_and]
  rw [if_pos (by omega)]
  exact Iff.of_eq (Bool.not_eq_false _)
theorem bit_or (x y : Int32) (i : Nat) : bit (x ||| y) i = (bit x i || bit y i) := by
  show (x ||| y).toBitVec.getLsbD i = _
  rw [Int32.toBitVec_or, BitVec.getLsbD_or]
theorem bit_and (x y : Int32) (i : Nat) : bit (x &&& y) i = (bit x i && bit y i) := by
  show (x &&& y).toBitVec.getLsbD i = _
  rw [Int32.toBitVec_and, BitVec.getLsbD_and]
theorem bit_ext {x y : Int32} (h : ∀ i : Nat, i < 32 → bit x i = bit y i) : x = y := Int32.toBitVec_inj.mp (BitVec.eq_of_getLsbD_eq h)
theorem bit_255 : ∀ i : Fin 32, bit (iI 255) i.val = decide (i.val < 8) := by decide +kernel
theorem bit_1 : ∀ (j i : Fin 32), bit (iI 1 <<< (iI (j.val : Int) &&& 31)) i.val = decide (i.val = j.val) := by decide +kernel
theorem bit_1z {j : Int} {i : Nat} (h0 : 0 ≤ j) (h1 : j < 32) (hi : i < 32) : bit (iI 1 <<< (iI j &&& 31)) i = decide (i = j.toNat) := by
  have h := bit_1 ⟨j.toNat, by omega⟩ ⟨i, hi⟩
  rw [show (((⟨j.toNat, by omega⟩ : Fin 32).val : Nat) : Int) = j by show ((j.toNat : Nat) : Int) = j; omega] at h
  exact h
theorem hb_or {x y : Int32} {j : Int} (h0 : 0 ≤ j) (h1 : j < 32) (h : hb x (iI j)) : hb (x ||| y) (iI j) := by
  rw [hb_bit h0 h1] at h ⊢
  rw [bit_or, h, Bool.true_or]
/-- a byte -/
def byt (x : Int32) : Prop := x &&& iI 255 = x
theorem byt_bit {x : Int32} : byt x ↔ ∀ i : Nat, 8 ≤ i → i < 32 → bit x i = false := by
  constructor
  · intro h i a b
    have e : bit (x &&& iI 255) i = bit x i := by rw [show x &&& iI 255 = x from h]
    rw [bit_and, bit_255 ⟨i, b⟩, show decide (i < 8) = false from decide_eq_false (by omega), Bool.and_false] at e
    exact e.symm
  · intro h
    refine bit_ext fun i hi => ?_
    rw [bit_and, bit_255 ⟨i, hi⟩]
    by_cases e : i < 8
    · rw [show decide (i < 8) = true from decide_eq_true e, Bool.and_true]
    · rw [h i (by omega) hi, Bool.false_and]
theorem byt_or {x y : Int32} (h1 : byt x) (h2 : byt y) : byt (x ||| y) := by
  rw [byt_bit] at h1 h2 ⊢
  intro i a b
  rw [bit_or, h1 i a b, h2 i a b]
  rfl
theorem byt_and {x y : Int32} (h1 : byt x) : byt (x &&& y) := by
  rw [byt_bit] at h1 ⊢
  intro i a b
  rw [bit_and, h1 i a b, Bool.false_and]
theorem byt_0 : byt (iI 0) := by unfold byt; decide
theorem byt_tab : ∀ k : Fin 256, iI (k.val : Int) &&& iI 255 = iI (k.val : Int) := by decide +kernel
theorem byt_z {z : Int} (h0 : 0 ≤ z) (h1 : z < 256) : byt (iI z) := by
  have := byt_tab ⟨z.toNat, by omega⟩
  rw [show (((⟨z.toNat, by omega⟩ : Fin 256).val : Nat) : Int) = z by show ((z.toNat : Nat) : Int) = z; omega] at this
  exact this
theorem byt_1 {j : Int} (h0 : 0 ≤ j) (h1 : j < 8) : byt (iI 1 <<< (iI j &&& 31)) := by
  rw [byt_bit]
  intro i a b
  rw [bit_1z h0 (by omega) b]
  exact decide_eq_false (by omega)
theorem byt_int {x : Int32} (h : byt x) : ∃ z : Int, 0 ≤ z ∧ z < 256 ∧ x = iI z := by
  have e : x.toBitVec &&& 255#32 = x.toBitVec := by
    have := congrArg Int32.toBitVec (show x &&& iI 255 = x from h)
    rw [Int32.toBitVec_and] at this
    exact this
  have e2 : x.toBitVec.toNat ≤ 255 := by
    rw [← e, BitVec.toNat_and]
    exact Nat.and_le_right
  refine ⟨(x.toBitVec.toNat : Int), by omega, by omega, Int32.toBitVec_inj.mp ?_⟩
  show x.toBitVec = BitVec.ofInt 32 (x.toBitVec.toNat : Int)
  rw [BitVec.ofInt_natCast, BitVec.ofNat_toNat, BitVec.setWidth_eq]
theorem byt_bc {x : Int32} (h : byt x) : bcE x = bts x 8 := by
  obtain ⟨z, h0, h1, rfl⟩ := byt_int h
  exact bc_bts h0 h1
theorem rcr_byt {f : Int → Int32} {w b : Int32} (hf : ∀ k : Int, 0 ≤ k → k < 8 → byt (f k)) (hb0 : byt b) : ∀ n : Nat, n ≤ 8 → byt (rcr f w n b)
  | 0, _ => hb0
  | n + 1, hn => by
    have h := rcr_byt (w := w) hf hb0 n (by omega)
    show byt (if hb (rcr f w n b) (iI n) then rcr f w n b ||| (f n &&& w) else rcr f w n b)
    split
    · exact byt_or h (byt_and (hf n (by omega) (by omega)))
    · exact h
theorem rch_byt {f : Int → Int32} {w b : Int32} (hf : ∀ k : Int, 0 ≤ k → k < 8 → byt (f k)) (hb0 : byt b) : ∀ n : Nat, byt (rch f w n b)
  | 0 => hb0
  | n + 1 => rcr_byt hf (rch_byt hf hb0 n) 8 (Nat.le_refl _)
/-- lockstep: the same, or both hold the number k -/
def lks (k : Int) (a b : Int32) : Prop := a = b ∨ (hb a (iI k) ∧ hb b (iI k))
theorem rcr_lk {f g : Int → Int32} {k : Int} (hk : 0 ≤ k ∧ k < 8) (hf : ∀ j : Int, 0 ≤ j → j < 8 → byt (f j)) (hg : ∀ j : Int, j ≠ k → g j = f j) {a b : Int32} (h : lks k a b) : ∀ n : Nat, n ≤ 8 → lks k (rcr f (iI 255) n a) (rcr g (iI (-1)) n b)
  | 0, _ => h
  | n + 1, hn => by
    have h1 := rcr_lk hk hf hg h n (by omega)
    show lks k (if hb (rcr f (iI 255) n a) (iI n) then rcr f (iI 255) n a ||| (f n &&& iI 255) else rcr f (iI 255) n a) (if hb (rcr g (iI (-1)) n b) (iI n) then rcr g (iI (-1)) n b ||| (g n &&& iI (-1)) else rcr g (iI (-1)) n b)
    generalize rcr f (iI 255) n a = A at h1 ⊢
    generalize rcr g (iI (-1)) n b = B at h1 ⊢
    rw [show f n &&& iI 255 = f n from hf n (by omega) (by omega), iIm, Int32.and_neg_one]
    rcases h1 with rfl | ⟨h2, h3⟩
    · by_cases e : (n : Int) = k
      · by_cases hh : hb A (iI n)
        · rw [if_pos hh, if_pos hh]
          rw [e] at hh ⊢
          exact Or.inr ⟨hb_or hk.1 (by omega) hh, hb_or hk.1 (by omega) hh⟩
        · rw [if_neg hh, if_neg hh]
          exact Or.inl rfl
      · rw [hg n e]
        exact Or.inl rfl
    · refine Or.inr ⟨?_, ?_⟩
      · split
        · exact hb_or hk.1 (by omega) h2
        · exact h2
      · split
        · exact hb_or hk.1 (by omega) h3
        · exact h3
theorem rch_lk {f g : Int → Int32} {k : Int} (hk : 0 ≤ k ∧ k < 8) (hf : ∀ j : Int, 0 ≤ j → j < 8 → byt (f j)) (hg : ∀ j : Int, j ≠ k → g j = f j) {a b : Int32} (h : lks k a b) : ∀ n : Nat, lks k (rch f (iI 255) n a) (rch g (iI (-1)) n b)
  | 0 => h
  | n + 1 => rcr_lk hk hf hg (rch_lk hk hf hg h n) 8 (Nat.le_refl _)
theorem SN_eq {ND : Int → Int32} (hf : ∀ j : Int, 0 ≤ j → j < 8 → byt (ND j)) (k w : Int) : rSN ND k w = cSN ND k w := by
  unfold rSN cSN
  by_cases h1 : 0 ≤ k ∧ k < 8
  · rw [if_neg (show ¬ ¬ (0 ≤ k ∧ k < 8) from fun q => q h1), if_neg (show ¬ ¬ (0 ≤ k ∧ k < 8) from fun q => q h1)]
    by_cases h2 : 0 ≤ w ∧ w ≤ 255
    · rw [if_neg (show ¬ ¬ (0 ≤ w ∧ w ≤ 255) from fun q => q h2), if_neg (show ¬ ¬ (0 ≤ w ∧ w ≤ 255) from fun q => q h2), show iI w &&& iI 255 = iI w from byt_z h2.1 (by omega)]
      have h := rch_lk h1 hf (g := zup ND k (iI w)) (fun j e => zup_ne _ _ e) (Or.inl (rfl : iI w = iI w)) 8
      rcases h with h | ⟨h3, h4⟩
      · rw [h]
      · rw [if_pos h3, if_pos h4]
    · rw [if_pos (show ¬ (0 ≤ w ∧ w ≤ 255) from h2), if_pos (show ¬ (0 ≤ w ∧ w ≤ 255) from h2)]
  · rw [if_pos (show ¬ (0 ≤ k ∧ k < 8) from h1), if_pos (show ¬ (0 ≤ k ∧ k < 8) from h1)]
/-- the lessons -/
theorem rcr_ls {f : Int → Int32} {N : Int32} (hf : ∀ j : Int, 0 ≤ j → j < 8 → byt (f j)) (b : Int32) : ∀ n : Nat, n ≤ 8 → rcr f (iI 255 &&& N) n b = rcr (fun k => f k &&& N) (iI (-1)) n b
  | 0, _ => rfl
  | n + 1, hn => by
    show (if hb (rcr f (iI 255 &&& N) n b) (iI n) then rcr f (iI 255 &&& N) n b ||| (f n &&& (iI 255 &&& N)) else rcr f (iI 255 &&& N) n b) = (if hb (rcr (fun k => f k &&& N) (iI (-1)) n b) (iI n) then rcr (fun k => f k &&& N) (iI (-1)) n b ||| ((f n &&& N) &&& iI (-1)) else rcr (fun k => f k &&& N) (iI (-1)) n b)
    rw [rcr_ls hf b n (by omega), ← Int32.and_assoc (f n), show f n &&& iI 255 = f n from hf n (by omega) (by omega), iIm, Int32.and_neg_one]
theorem rch_ls {f : Int → Int32} {N : Int32} (hf : ∀ j : Int, 0 ≤ j → j < 8 → byt (f j)) (b : Int32) : ∀ n : Nat, rch f (iI 255 &&& N) n b = rch (fun k => f k &&& N) (iI (-1)) n b
  | 0 => rfl
  | n + 1 => by
    show rcr f (iI 255 &&& N) 8 (rch f (iI 255 &&& N) n b) = rcr (fun k => f k &&& N) (iI (-1)) 8 (rch (fun k => f k &&& N) (iI (-1)) n b)
    rw [rch_ls hf b n, rcr_ls hf _ 8 (Nat.le_refl _)]
theorem ls_eq {f : Int → Int32} {N K : Int32} (hf : ∀ j : Int, 0 ≤ j → j < 8 → byt (f j)) (hK : byt K) : bcE (rch f (iI 255 &&& N) 8 (K &&& (iI 255 &&& N))) = bts (rch (fun k => f k &&& N) (iI (-1)) 8 (K &&& N)) 8 := by
  rw [byt_bc (rch_byt hf (byt_and hK) 8), ← Int32.and_assoc K, show K &&& iI 255 = K from hK, rch_ls hf]
theorem moB_bit {μ : Nat → zM} {au : Int} : ∀ n : Nat, n ≤ 32 → ∀ i : Nat, i < 32 → bit (moB μ au n) i = decide (i < n ∧ mau (μ i) = au)
  | 0, _, i, hi => by
    rw [show moB μ au 0 = iI 0 from rfl, iI0]
    show (0 : Int32).toBitVec.getLsbD i = _
    rw [show decide (i < 0 ∧ mau (μ i) = au) = false from decide_eq_false (fun q => absurd q.1 (Nat.not_lt_zero _))]
    exact BitVec.getLsbD_zero
  | n + 1, hn, i, hi => by
    have h := moB_bit (μ := μ) (au := au) n (by omega) i hi
    show bit (if mau (μ n) = au then moB μ au n ||| (iI 1 <<< (iI n &&& 31)) else moB μ au n) i = _
    by_cases e : mau (μ n) = au
    · rw [if_pos e, bit_or, h, bit_1z (by omega) (by omega) hi, Int.toNat_natCast, ← Bool.decide_or]
      refine decide_eq_decide.mpr ⟨fun q => ?_, fun q => ?_⟩
      · rcases q with q | q
        · exact ⟨by omega, q.2⟩
        · exact ⟨by omega, by rw [q]; exact e⟩
      · by_cases hin : i = n
        · exact Or.inr hin
        · exact Or.inl ⟨by omega, q.2⟩
    · rw [if_neg e, h]
      refine decide_eq_decide.mpr ⟨fun q => ⟨by omega, q.2⟩, fun q => ?_⟩
      by_cases hin : i = n
      · exact absurd (hin ▸ q.2) e
      · exact ⟨by omega, q.2⟩
theorem hasB_ex {US : Int → Int32} {AU : Int → Int} {k au : Int} : ∀ n : Nat, hasB US AU k au n = true ↔ ∃ j : Nat, j < n ∧ (j : Int) ≠ k ∧ hb (mcB US k) (iI j) ∧ AU j = au
  | 0 => ⟨fun h => (by cases h), fun ⟨j, h, _⟩ => absurd h (Nat.not_lt_zero _)⟩
  | n + 1 => by
    rw [hasB_s, hasB_ex n]
    constructor
    · rintro (⟨j, h1, h2⟩ | h)
      · exact ⟨j, by omega, h2⟩
      · exact ⟨n, by omega, h⟩
    · rintro ⟨j, h1, h2⟩
      by_cases e : j = n
      · exact Or.inr (e ▸ h2)
      · exact Or.inl ⟨j, by omega, h2⟩
theorem cr_eq {US : Int → Int32} {μ : Nat → zM} {AU : Int → Int} {n : Nat} {au : Int} (hn : n ≤ 8) (hA : ∀ i : Nat, i < n → mau (μ i) = AU i) : ∀ k : Nat, k ≤ n → crB US (moB μ au n) k = rCR US AU n au k
  | 0, _ => rfl
  | k + 1, hk => by
    have h1 := cr_eq (US := US) (au := au) hn hA k (by omega)
    have ho : hb (moB μ au n) (iI k) ↔ AU k = au := by
      rw [hb_bit (by omega) (by omega), Int.toNat_natCast, moB_bit n (by omega) k (by omega), decide_eq_true_iff, hA k (by omega)]
      exact ⟨fun q => q.2, fun q => ⟨by omega, q⟩⟩
    have hx : (¬ hb (moB μ au n) (iI k) ∧ ¬ (mcB US k &&& moB μ au n) = 0) ↔ (hasB US AU k au n = true ∧ AU k ≠ au) := by
      rw [ho, hasB_ex]
      constructor
      · rintro ⟨a1, a2⟩
        refine ⟨?_, a1⟩
        refine Decidable.byContradiction fun q => a2 ?_
        refine bit_ext fun i hi => ?_
        rw [show bit 0 i = false from BitVec.getLsbD_zero, bit_and]
        by_cases e1 : bit (mcB US k) i = true
        · rw [moB_bit n (by omega) i hi]
          rw [show decide (i < n ∧ mau (μ i) = au) = false from decide_eq_false (fun e2 => q ⟨i, e2.1, fun e3 => a1 (by rw [← e3, ← hA i e2.1]; exact e2.2), by rw [hb_bit (by omega) (by omega), Int.toNat_natCast]; exact e1, by rw [← hA i e2.1]; exact e2.2⟩), Bool.and_false]
        · rw [Bool.not_eq_true] at e1
          rw [e1, Bool.false_and]
      · rintro ⟨⟨j, b1, b2, b3, b4⟩, a1⟩
        refine ⟨a1, fun q => ?_⟩
        have e : bit (mcB US k &&& moB μ au n) j = bit 0 j := by rw [q]
        rw [bit_and, moB_bit n (by omega) j (by omega), show bit 0 j = false from BitVec.getLsbD_zero, show decide (j < n ∧ mau (μ j) = au) = true from decide_eq_true ⟨b1, by rw [hA j b1]; exact b4⟩, Bool.and_true] at e
        rw [hb_bit (by omega) (by omega), Int.toNat_natCast, e] at b3
        cases b3
    show (if ¬ hb (moB μ au n) (iI k) ∧ ¬ (mcB US k &&& moB μ au n) = 0 then crB US (moB μ au n) k + 1 else crB US (moB μ au n) k) = rCR US AU n au k + (if hasB US AU k au n = true ∧ AU k ≠ au then 1 else 0)
    by_cases e : hasB US AU k au n = true ∧ AU k ≠ au
    · rw [if_pos (hx.mpr e), if_pos e, h1]
    · rw [if_neg (fun q => e (hx.mp q)), if_neg e, h1]
      omega
