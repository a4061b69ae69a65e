/-! CLASS AND REFERENCE: models alike, states alike. -/
def eqv (u v : zM) : Prop := mau u = mau v ∧ mle u = mle v ∧ msn u = msn v ∧ ∀ j : Int, 0 ≤ j → j < msn u → mK u j = mK v j ∧ mP u j = mP v j ∧ mF u j = mF v j
theorem eqv.sn {u v : zM} (h : eqv u v) : msn v = msn u := h.2.2.1.symm
theorem eqv.S {u v : zM} (h : eqv u v) : mgS u = mgS v := by
  unfold mgS
  rw [← h.2.1, h.sn]
  exact gS_c _ (fun i a b => (h.2.2.2 i a (by omega)).2.1)
theorem eqv.P {u v : zM} (h : eqv u v) : mgP u = mgP v := by
  unfold mgP
  rw [← h.2.1, h.sn]
  exact gP_c _ (fun i a b => (h.2.2.2 i a (by omega)).2)
theorem eqv.T {u v : zM} (h : eqv u v) : mgT u = mgT v := by
  unfold mgT
  rw [← h.2.1, h.sn]
  exact gT_c _ (fun i a b => (h.2.2.2 i a (by omega)).2)
theorem eqv.H {u v : zM} (h : eqv u v) : mgH u = mgH v := by
  unfold mgH
  rw [← h.2.1, h.sn]
  exact gH_c _ (fun i a b => (h.2.2.2 i a (by omega)).2)
theorem okb_c {K K2 : Int → Int} : ∀ n : Nat, (∀ i : Int, 0 ≤ i → i < n → K i = K2 i) → okb K n = okb K2 n
  | 0, _ => rfl
  | n + 1, h => by
    show okb K n ||| (iI 1 <<< (iI (K n) &&& 31)) = okb K2 n ||| (iI 1 <<< (iI (K2 n) &&& 31))
    rw [okb_c n (fun i a b => h i a (by omega)), h n (by omega) (by omega)]
theorem eqv.ok {u v : zM} (h : eqv u v) : mok u = mok v := by
  unfold mok
  rw [h.sn]
  exact okb_c _ (fun i a b => (h.2.2.2 i a (by omega)).1)
theorem eqv.cn {u v : zM} (h : eqv u v) : mcn u = mcn v := by
  funext k
  unfold mcn
  rw [h.P, h.2.1]
theorem eqv.lay {u v : zM} (h : eqv u v) : mlay u = mlay v := by
  unfold mlay
  rw [h.cn, h.S]
theorem kcB_c {μ ν : Nat → zM} {b : Int32} : ∀ n : Nat, (∀ j : Nat, j < n → eqv (μ j) (ν j)) → kcB μ b n = kcB ν b n
  | 0, _ => rfl
  | n + 1, h => by
    have h1 := kcB_c (b := b) n (fun j a => h j (by omega))
    have h2 := (h n (by omega)).ok
    show (if hb b (iI n) then kcB μ b n ||| mok (μ n) else kcB μ b n) = (if hb b (iI n) then kcB ν b n ||| mok (ν n) else kcB ν b n)
    rw [h1, h2]
theorem okb_byt {K : Int → Int} : ∀ n : Nat, (∀ j : Nat, j < n → 0 ≤ K j ∧ K j ≤ 7) → byt (okb K n)
  | 0, _ => byt_0
  | n + 1, h => by
    have h1 := h n (by omega)
    exact byt_or (okb_byt n (fun j a => h j (by omega))) (byt_1 h1.1 (by omega))
/-- what a model's being as it should be gives -/
theorem mdO_f {u : zM} (h : mdO u) : (0 ≤ mau u ∧ mau u ≤ 9) ∧ (2 ≤ mle u ∧ mle u ≤ 32) ∧ (0 ≤ msn u ∧ msn u ≤ 10) ∧ stV (mle u) (msn u) (mP u) (mF u) ∧ (∃ S C : Int → Int, geo (mle u) (mgS u) S C (mgP u) (mgH u)) ∧ ∀ j : Nat, (j : Int) < msn u → 0 ≤ mK u j ∧ mK u j ≤ 7 := by
  obtain ⟨m, ka, pa, la, a, c, s, nc, ns, au, len, n, K, P, F, C, S, NC, NS, fl, sp⟩ := u
  obtain ⟨h1, h2, h3, h4, h5, h6, h7⟩ := h
  refine ⟨h1, h2, h3, h4, ⟨S, C, ?_⟩, h7⟩
  rw [h5] at h6
  exact h6
theorem kcB_byt {μ : Nat → zM} {b : Int32} : ∀ n : Nat, (∀ j : Nat, j < n → mdO (μ j)) → byt (kcB μ b n)
  | 0, _ => byt_0
  | n + 1, h => by
    have h1 := kcB_byt (b := b) n (fun j a => h j (by omega))
    obtain ⟨-, -, h2, -, -, h3⟩ := mdO_f (h n (by omega))
    show byt (if hb b (iI n) then kcB μ b n ||| okb (mK (μ n)) (msn (μ n)).toNat else kcB μ b n)
    split
    · exact byt_or h1 (okb_byt _ (fun j a => h3 j (by omega)))
    · exact h1
theorem stV_c {len n : Int} {P P2 F F2 : Int → Int} (h : stV len n P F) (hc : ∀ i : Int, 0 ≤ i → i < n → P i = P2 i ∧ F i = F2 i) : stV len n P2 F2 := by
  intro j hj
  have h1 := h j hj
  rw [(hc j (by omega) hj).1, (hc j (by omega) hj).2, gS_c (len := len) j (fun i a b => (hc i a (by omega)).1)] at h1
  exact h1
/-- the class and the reference hold the same -/
def rlx (n : Nat) (L : Int) (ND US KN : Int → Int32) (μ : Nat → zM) (AU LE SN KK AT LF : Int → Int) : Prop :=
  gdO n μ L ∧ (∀ k : Int, 0 ≤ k → k < 8 → byt (ND k)) ∧ (∀ k : Int, 0 ≤ k → k < 6 → byt (KN k)) ∧ (∀ k : Int, n ≤ k → k < 8 → US k = 0) ∧ (∀ k : Int, n ≤ k → k < 8 → SN k = 0) ∧ ∀ i : Nat, i < n → eqv (μ i) (rv AU LE SN KK AT LF i)
theorem rlx.at {n : Nat} {L : Int} {ND US KN : Int → Int32} {μ : Nat → zM} {AU LE SN KK AT LF : Int → Int} (h : rlx n L ND US KN μ AU LE SN KK AT LF) {i : Int} (h0 : 0 ≤ i) (h1 : i < n) : eqv (μ i.toNat) (rv AU LE SN KK AT LF i) ∧ mdO (μ i.toNat) := by
  have h2 := h.2.2.2.2.2 i.toNat (by omega)
  rw [show ((i.toNat : Nat) : Int) = i by omega] at h2
  exact ⟨h2, h.1.2.1 i.toNat (by omega)⟩
theorem rlx.rO {n : Nat} {L : Int} {ND US KN : Int → Int32} {μ : Nat → zM} {AU LE SN KK AT LF : Int → Int} (h : rlx n L ND US KN μ AU LE SN KK AT LF) : rO n L US LE SN AT LF := by
  refine ⟨h.1.1, h.2.2.2.1, h.1.2.2, fun i h0 h1 => ?_⟩
  obtain ⟨h2, h3⟩ := h.at h0 h1
  obtain ⟨-, a2, a3, a4, -, -⟩ := mdO_f h3
  obtain ⟨-, e2, e3, e4⟩ := h2
  rw [e2] at a2 a4
  have e5 : msn (μ i.toNat) = SN i := e3
  rw [e5] at a3 a4 e4
  exact ⟨a2, a3, stV_c a4 (fun j a b => (e4 j a b).2)⟩
theorem rlx.kc {n : Nat} {L : Int} {ND US KN : Int → Int32} {μ : Nat → zM} {AU LE SN KK AT LF : Int → Int} (h : rlx n L ND US KN μ AU LE SN KK AT LF) (b : Int32) : kcB μ b n = kcB (fun k : Nat => rv AU LE SN KK AT LF k) b n ∧ byt (kcB (fun k : Nat => rv AU LE SN KK AT LF k) b n) := by
  have h1 := kcB_c (b := b) n h.2.2.2.2.2
  exact ⟨h1, h1 ▸ kcB_byt n h.1.2.1⟩
/-- the worlds of both -/
def REL (cI cZ cM : ClassId) (h r : Nat) (k : Int) (G R : va_W) : Prop := ∃ (nd kn gm us fo fh mi fw wt n : Nat) (ND KN US : Int → Int32) (μ : Nat → zM) (x t s0 : Int) (FH : Int → Int) (L : Int) (d : Int32) (A B : Int → Int) (e1 e2 e3 e4 e5 e6 e7 e8 e9 e10 e11 e12 e13 e14 : Nat) (sz mo : Int) (AU LE SN KK AT LF PL HE TU MA CU : Int → Int),
  G = gdW cI cZ cM h nd kn gm us fo fh mi fw wt n ND KN US μ x t s0 FH L d A B ∧ R = rfW cI r e1 e2 e3 e4 e5 e6 e7 e8 e9 e10 e11 e12 e13 e14 n L d sz mo k ND US KN AU LE SN KK AT LF PL HE TU MA CU ∧ rlx n L ND US KN μ AU LE SN KK AT LF
theorem cnt_le {A B φ : Int → Int} (h : ∀ q, B q = φ (A q)) (k : Int) : ∀ n : Nat, cnt A k n ≤ cnt B (φ k) n
  | 0 => Int.le_refl _
  | n + 1 => by
    have h1 := cnt_le h k n
    rw [cntS, cntS]
    by_cases e : A n = k
    · rw [if_pos e, if_pos (by rw [h, e])]
      omega
    · rw [if_neg e]
      split <;> omega
theorem mxR_le {A B φ : Int → Int} (h : ∀ q, B q = φ (A q)) : ∀ n : Nat, mxR A n ≤ mxR B n
  | 0 => Int.le_refl _
  | n + 1 => by
    have h1 := mxR_le h n
    have h2 := cnt_le h (A n) (n + 1)
    rw [← h] at h2
    show max (mxR A n) (cnt A (A n) (n + 1)) ≤ max (mxR B n) (cnt B (B n) (n + 1))
    omega
/-- layers only grow -/
theorem mst_mx {len : Int} {P F : Int → Int} : ∀ j : Nat, mst len P F j = mxR (gP len P F j) len.toNat
  | 0 => by
    have h := mxR_r (Pl := gP len P F 0) len.toNat
    show max 0 (mxR (gP len P F 0) len.toNat) = _
    omega
  | j + 1 => by
    have h1 := mst_mx (len := len) (P := P) (F := F) j
    have h2 := mxR_le (A := gP len P F j) (B := gP len P F (j + 1)) (φ := fun x => (if gz (F (j : Int)) (P (j : Int)) x then 2 * P (j : Int) - 1 - x else x) - lw (P (j : Int)) (F (j : Int)) (gS len P j)) (fun q => rfl) len.toNat
    show max (mst len P F j) (mxR (gP len P F (j + 1)) len.toNat) = _
    rw [h1]
    omega
theorem cntM (Pl : Int → Int) (k : Int) (n : Nat) : cnt Pl k n ≤ cnt Pl k (n + 1) := by
  rw [cntS]
  split <;> omega
theorem mxR_ge {Pl : Int → Int} {k : Int} : ∀ n : Nat, cnt Pl k n ≤ mxR Pl n
  | 0 => Int.le_refl _
  | n + 1 => by
    have h1 := mxR_ge (Pl := Pl) (k := k) n
    show cnt Pl k (n + 1) ≤ max (mxR Pl n) (cnt Pl (Pl n) (n + 1))
    by_cases e : Pl n = k
    · rw [e]
      omega
    · rw [cntS, if_neg e]
      omega
theorem mxC_ge {f : Int → Int} : ∀ (n : Nat) (k : Int), 0 ≤ k → k < n → f k ≤ mxC f n
  | 0, k, a, b => by omega
  | n + 1, k, a, b => by
    show f k ≤ max (mxC f n) (f n)
    by_cases e : k = n
    · rw [e]
      omega
    · have := mxC_ge (f := f) n k a (by omega)
      omega
theorem mxC_n {f g : Int → Int} (h : ∀ k, f k ≤ g k) : ∀ n : Nat, mxC f n ≤ mxC g n
  | 0 => Int.le_refl _
  | n + 1 => by
    have h1 := mxC_n h n
    have h2 := h n
    show max (mxC f n) (f n) ≤ max (mxC g n) (g n)
    omega
theorem mxC_0 {f : Int → Int} : ∀ n : Nat, 0 ≤ mxC f n
  | 0 => Int.le_refl _
  | n + 1 => by
    have h1 := mxC_0 (f := f) n
    show 0 ≤ max (mxC f n) (f n)
    omega
theorem mxR_C {Pl : Int → Int} {sp : Nat} : ∀ n : Nat, (∀ q : Int, 0 ≤ q → q < n → 0 ≤ Pl q ∧ Pl q < sp) → mxR Pl n = mxC (fun k => cnt Pl k n) sp := by
  intro n h
  refine Int.le_antisymm ?_ ?_
  · have : ∀ m : Nat, m ≤ n → mxR Pl m ≤ mxC (fun k => cnt Pl k m) sp := by
      intro m
      induction m with
      | zero => intro _; exact mxC_0 _
      | succ m ih =>
        intro hm
        have h1 := ih (by omega)
        have h2 := mxC_n (f := fun k => cnt Pl k m) (g := fun k => cnt Pl k (m + 1)) (fun k => cntM Pl k m) sp
        have h3 := h m (by omega) (by omega)
        have h4 := mxC_ge (f := fun k => cnt Pl k (m + 1)) sp (Pl m) h3.1 h3.2
        show max (mxR Pl m) (cnt Pl (Pl m) (m + 1)) ≤ _
        omega
    exact this n (Nat.le_refl _)
  · have h1 := mxR_r (Pl := Pl) n
    exact (mxC_r (f := fun k => cnt Pl k n) (B := mxR Pl n) h1.1 sp (fun k _ _ => mxR_ge n)).2
theorem mdO_lay {u : zM} (h : mdO u) : mxR (mgP u) (mle u).toNat = mlay u := by
  obtain ⟨-, h2, h3, h4, -, -⟩ := mdO_f h
  have hS := stV_gS h4 (by omega) (msn u).toNat (by omega)
  refine mxR_C (mle u).toNat (fun q a b => ?_)
  have h5 := stV_gP h4 (by omega) a (by omega) (msn u).toNat (by omega)
  refine ⟨h5.1, ?_⟩
  have h6 : mgP u q < mgS u := h5.2
  show mgP u q < (((mgS u).toNat : Nat) : Int)
  have h7 : 1 ≤ mgS u := hS.1
  omega
