/-! CLASS AND REFERENCE: what a call changes; the codes. -/
section RX
variable {n : Nat} {L : Int} {ND US KN : Int → Int32} {μ : Nat → zM} {AU LE SN KK AT LF : Int → Int}
theorem rlx.sn (h : rlx n L ND US KN μ AU LE SN KK AT LF) {i : Int} (h0 : 0 ≤ i) (h1 : i < n) : msn (μ i.toNat) = SN i ∧ 0 ≤ SN i ∧ SN i ≤ 10 := by
  obtain ⟨q1, q2⟩ := h.at h0 h1
  obtain ⟨-, -, a3, -, -, -⟩ := mdO_f q2
  have e : msn (μ i.toNat) = SN i := q1.2.2.1
  rw [e] at a3
  exact ⟨e, a3⟩
theorem rlx.fold (h : rlx n L ND US KN μ AU LE SN KK AT LF) {i k p f : Int} (h0 : 0 ≤ i) (h1 : i < n) (h10 : msn (μ i.toNat) < 10) {u9 : zM} (e1 : mau u9 = mau (μ i.toNat)) (e2 : mle u9 = mle (μ i.toNat)) (e3 : msn u9 = msn (μ i.toNat) + 1) (e4 : mK u9 = zup (mK (μ i.toNat)) (msn (μ i.toNat)) k) (e5 : mP u9 = zup (mP (μ i.toNat)) (msn (μ i.toNat)) p) (e6 : mF u9 = zup (mF (μ i.toNat)) (msn (μ i.toNat)) f) (e7 : mdO u9) :
    rlx n L ND US KN (va_up μ i.toNat u9) AU LE (zup SN i (SN i + 1)) (zup KK (10 * i + SN i) k) (zup AT (10 * i + SN i) p) (zup LF (10 * i + SN i) f) := by
  obtain ⟨s1, s2, s3⟩ := h.sn h0 h1
  obtain ⟨⟨q1, q2, q3, q4⟩, -⟩ := h.at h0 h1
  obtain ⟨⟨g1, g2, g3⟩, h2, h3, h4, h5, h6⟩ := h
  refine ⟨⟨g1, fun j hj => ?_, g3⟩, h2, h3, h4, fun k a b => by rw [zup_ne _ _ (by omega)]; exact h5 k a b, fun j hj => ?_⟩
  · by_cases e : j = i.toNat
    · rw [e, va_up_self]; exact e7
    · rw [va_up_ne _ _ e]; exact g2 j hj
  · by_cases e : j = i.toNat
    · subst e
      rw [va_up_self, show ((i.toNat : Nat) : Int) = i by omega]
      refine ⟨e1.trans q1, e2.trans q2, ?_, fun j a b => ?_⟩
      · show msn u9 = zup SN i (SN i + 1) i
        rw [zup_self, e3, s1]
      · show mK u9 j = zup KK (10 * i + SN i) k (10 * i + j) ∧ mP u9 j = zup AT (10 * i + SN i) p (10 * i + j) ∧ mF u9 j = zup LF (10 * i + SN i) f (10 * i + j)
        rw [e4, e5, e6, s1]
        by_cases ej : j = SN i
        · rw [ej, zup_self, zup_self, zup_self, zup_self, zup_self, zup_self]
          exact ⟨rfl, rfl, rfl⟩
        · have en : 10 * i + j ≠ 10 * i + SN i := by omega
          rw [zup_ne _ _ ej, zup_ne _ _ ej, zup_ne _ _ ej, zup_ne _ _ en, zup_ne _ _ en, zup_ne _ _ en]
          exact q4 j a (by omega)
    · rw [va_up_ne _ _ e]
      obtain ⟨p1, p2, p3, p4⟩ := h6 j hj
      obtain ⟨-, -, a3, -, -, -⟩ := mdO_f (g2 j hj)
      refine ⟨p1, p2, ?_, fun k9 a b => ?_⟩
      · show msn (μ j) = zup SN i (SN i + 1) j
        rw [zup_ne _ _ (by omega)]
        exact p3
      · show mK (μ j) k9 = zup KK (10 * i + SN i) k (10 * j + k9) ∧ mP (μ j) k9 = zup AT (10 * i + SN i) p (10 * j + k9) ∧ mF (μ j) k9 = zup LF (10 * i + SN i) f (10 * j + k9)
        have en : 10 * (j : Int) + k9 ≠ 10 * i + SN i := by omega
        rw [zup_ne _ _ en, zup_ne _ _ en, zup_ne _ _ en]
        exact p4 k9 a b
theorem rlx.unfold (h : rlx n L ND US KN μ AU LE SN KK AT LF) {i : Int} (h0 : 0 ≤ i) (h1 : i < n) {u9 : zM} (e1 : mau u9 = mau (μ i.toNat)) (e2 : mle u9 = mle (μ i.toNat)) (e3 : msn u9 = msn (μ i.toNat) - 1) (e4 : mK u9 = mK (μ i.toNat)) (e5 : mP u9 = mP (μ i.toNat)) (e6 : mF u9 = mF (μ i.toNat)) (e7 : mdO u9) :
    rlx n L ND US KN (va_up μ i.toNat u9) AU LE (zup SN i (SN i - 1)) KK AT LF := by
  obtain ⟨s1, s2, s3⟩ := h.sn h0 h1
  obtain ⟨⟨q1, q2, q3, q4⟩, -⟩ := h.at h0 h1
  obtain ⟨⟨g1, g2, g3⟩, h2, h3, h4, h5, h6⟩ := h
  refine ⟨⟨g1, fun j hj => ?_, g3⟩, h2, h3, h4, fun k a b => by rw [zup_ne _ _ (by omega)]; exact h5 k a b, fun j hj => ?_⟩
  · by_cases e : j = i.toNat
    · rw [e, va_up_self]; exact e7
    · rw [va_up_ne _ _ e]; exact g2 j hj
  · by_cases e : j = i.toNat
    · subst e
      rw [va_up_self, show ((i.toNat : Nat) : Int) = i by omega]
      refine ⟨e1.trans q1, e2.trans q2, ?_, fun j a b => ?_⟩
      · show msn u9 = zup SN i (SN i - 1) i
        rw [zup_self, e3, s1]
      · rw [e4, e5, e6]
        exact q4 j a (by omega)
    · rw [va_up_ne _ _ e]
      obtain ⟨p1, p2, p3, p4⟩ := h6 j hj
      refine ⟨p1, p2, ?_, p4⟩
      show msn (μ j) = zup SN i (SN i - 1) j
      rw [zup_ne _ _ (by omega)]
      exact p3
theorem rlx.add (h : rlx n L ND US KN μ AU LE SN KK AT LF) (hn : n < 8) {au len : Int} {u9 : zM} (e1 : mau u9 = au) (e2 : mle u9 = len) (e3 : msn u9 = 0) (e7 : mdO u9) :
    rlx (n + 1) L ND US KN (va_up μ n u9) (zup AU n au) (zup LE n len) SN KK AT LF := by
  obtain ⟨⟨g1, g2, g3⟩, h2, h3, h4, h5, h6⟩ := h
  refine ⟨⟨by omega, fun j hj => ?_, g3⟩, h2, h3, fun k a b => h4 k (by omega) b, fun k a b => h5 k (by omega) b, fun j hj => ?_⟩
  · by_cases e : j = n
    · rw [e, va_up_self]; exact e7
    · rw [va_up_ne _ _ e]; exact g2 j (by omega)
  · by_cases e : j = n
    · rw [e, va_up_self]
      have h8 := h5 n (by omega) (by omega)
      refine ⟨?_, ?_, ?_, fun j a b => by omega⟩
      · show mau u9 = zup AU n au n
        rw [zup_self, e1]
      · show mle u9 = zup LE n len n
        rw [zup_self, e2]
      · show msn u9 = SN n
        rw [e3, h8]
    · rw [va_up_ne _ _ e]
      obtain ⟨p1, p2, p3, p4⟩ := h6 j (by omega)
      refine ⟨?_, ?_, p3, p4⟩
      · show mau (μ j) = zup AU n au j
        rw [zup_ne _ _ (by omega)]
        exact p1
      · show mle (μ j) = zup LE n len j
        rw [zup_ne _ _ (by omega)]
        exact p2
theorem rlx.use (h : rlx n L ND US KN μ AU LE SN KK AT LF) {i : Int} {v : Int32} (h1 : i < n) : rlx n L ND (zup US i v) KN μ AU LE SN KK AT LF := by
  obtain ⟨g, h2, h3, h4, h5, h6⟩ := h
  exact ⟨g, h2, h3, fun k a b => by rw [zup_ne _ _ (by omega)]; exact h4 k a b, h5, h6⟩
theorem rlx.nd (h : rlx n L ND US KN μ AU LE SN KK AT LF) {k : Int} {v : Int32} (hv : byt v) : rlx n L (zup ND k v) US KN μ AU LE SN KK AT LF := by
  obtain ⟨g, h2, h3, h4, h5, h6⟩ := h
  refine ⟨g, fun j a b => ?_, h3, h4, h5, h6⟩
  by_cases e : j = k
  · rw [e, zup_self]; exact hv
  · rw [zup_ne _ _ e]; exact h2 j a b
theorem rlx.kn (h : rlx n L ND US KN μ AU LE SN KK AT LF) {k : Int} {v : Int32} (hv : byt v) : rlx n L ND US (zup KN k v) μ AU LE SN KK AT LF := by
  obtain ⟨g, h2, h3, h4, h5, h6⟩ := h
  refine ⟨g, h2, fun j a b => ?_, h4, h5, h6⟩
  by_cases e : j = k
  · rw [e, zup_self]; exact hv
  · rw [zup_ne _ _ e]; exact h3 j a b
theorem rlx.roll (h : rlx n L ND US KN μ AU LE SN KK AT LF) {L1 : Int} (h0 : 0 ≤ L1) (h1 : L1 ≤ 200) : rlx n L1 ND US KN μ AU LE SN KK AT LF := by
  obtain ⟨⟨g1, g2, g3⟩, h2⟩ := h
  exact ⟨⟨g1, g2, h0, h1⟩, h2⟩
theorem cFO_e (h : rlx n L ND US KN μ AU LE SN KK AT LF) (i k p : Int) : cFO n ND (rv AU LE SN KK AT LF i) i k p = cFO n ND (μ i.toNat) i k p := by
  by_cases hi : 0 ≤ i ∧ i < n
  · obtain ⟨q, -⟩ := h.at hi.1 hi.2
    unfold cFO
    rw [q.S, q.2.2.1, q.ok]
  · unfold cFO
    rw [if_pos (Or.inl hi), if_pos (Or.inl hi)]
theorem cUN_e (h : rlx n L ND US KN μ AU LE SN KK AT LF) (i : Int) : cUN n (rv AU LE SN KK AT LF i) i = cUN n (μ i.toNat) i := by
  by_cases hi : 0 ≤ i ∧ i < n
  · obtain ⟨q, -⟩ := h.at hi.1 hi.2
    unfold cUN
    rw [q.2.2.1]
  · unfold cUN
    rw [if_pos hi, if_pos hi]
theorem cPO_e (h : rlx n L ND US KN μ AU LE SN KK AT LF) (i c : Int) : cPO n (rv AU LE SN KK AT LF i) i c = cPO n (μ i.toNat) i c := by
  by_cases hi : 0 ≤ i ∧ i < n
  · obtain ⟨q, -⟩ := h.at hi.1 hi.2
    unfold cPO
    rw [q.2.1]
  · unfold cPO
    rw [if_pos (Or.inl hi), if_pos (Or.inl hi)]
theorem cSN_0 {k w : Int} (h : cSN ND k w = 0) : (0 ≤ k ∧ k < 8) ∧ 0 ≤ w ∧ w ≤ 255 := by
  unfold cSN at h
  by_cases h1 : 0 ≤ k ∧ k < 8
  · by_cases h2 : 0 ≤ w ∧ w ≤ 255
    · exact ⟨h1, h2⟩
    · rw [if_neg (fun q => q h1), if_pos h2] at h
      omega
  · rw [if_pos h1] at h
    omega
theorem cAM_0 {au len : Int} (h : cAM n au len = 0) : n < 8 := by
  unfold cAM at h
  by_cases h1 : (8 : Nat) ≤ n
  · split at h
    · omega
    · split at h
      · omega
      · omega
  · omega
theorem cFO_0 {u : zM} {i k p : Int} (h : cFO n ND u i k p = 0) : (0 ≤ i ∧ i < n) ∧ msn u < 10 := by
  unfold cFO at h
  split at h
  · omega
  · rename_i h1
    split at h
    · omega
    · split at h
      · omega
      · rename_i h3
        refine ⟨by omega, ?_⟩
        have := fun e => h3 (Or.inl e)
        omega
theorem cUN_0 {u : zM} {i : Int} (h : cUN n u i = 0) : (0 ≤ i ∧ i < n) ∧ ¬ msn u = 0 := by
  unfold cUN at h
  split at h
  · omega
  · split at h
    · omega
    · exact ⟨by omega, by assumption⟩
theorem cUS_0 {i j : Int} (h : cUS n US i j = 0) : 0 ≤ i ∧ i < n := by
  unfold cUS at h
  split at h
  · omega
  · omega
theorem cSR_0 {a b : Int} (h : cSR a b = 0) : 0 ≤ a ∧ a ≤ 200 := by
  unfold cSR at h
  split at h
  · omega
  · omega
theorem cTE_0 {p k : Int} (h : cTE ND KN p k = 0) : (0 ≤ p ∧ p < 6) ∧ 0 ≤ k ∧ k < 8 := by
  unfold cTE at h
  split at h
  · omega
  · omega
theorem cM1_0 {i : Int} (h : cM1 n i = 0) : 0 ≤ i ∧ i < n := by
  unfold cM1 at h
  split at h
  · omega
  · omega
theorem cPO_0 {u : zM} {i q : Int} (h : cPO n u i q = 0) : 0 ≤ i ∧ i < n := by
  unfold cPO at h
  split at h
  · omega
  · omega
theorem cBE_0 {i g : Int} (h : cBE n i g = 0) : 0 ≤ i ∧ i < n := by
  unfold cBE at h
  split at h
  · omega
  · omega
theorem ca_uniq {u : zM} (h : mdO u) {q v : Int} (hq : 0 ≤ q ∧ q < mle u) (hv : 0 ≤ v ∧ v < mle u) (h1 : mgP u q = mgP u v) (h2 : mgH u q = mgH u v) : q = v := by
  obtain ⟨-, -, -, -, ⟨S, C, g⟩, -⟩ := mdO_f h
  have a1 := (g.2.2.1 q hq.1 hq.2).2.2.2.2
  have a2 := (g.2.2.1 v hv.1 hv.2).2.2.2.2
  rw [← a1, ← a2, h1, h2]
theorem ca_ok {u : zM} (h : mdO u) {i p0 h0 v : Int} (hi : 0 ≤ i ∧ i < n) (hv : 0 ≤ v ∧ v < mle u) (h1 : mgP u v = p0) (h2 : mgH u v = h0) : cCA n u i p0 h0 = 0 := by
  obtain ⟨-, -, -, -, ⟨S, C, g⟩, -⟩ := mdO_f h
  obtain ⟨a1, a2, a3, a4, -⟩ := g.2.2.1 v hv.1 hv.2
  have a5 : hgt (mgS u) S (mgP u v) = mcn u (mgP u v) := g.2.2.2.2 (mgP u v)
  rw [a5] at a4
  rw [h1] at a1 a2 a4
  rw [h2] at a3 a4
  unfold cCA
  rw [if_neg (by omega), if_neg (by omega), if_neg (by omega)]
theorem ca_r {u : zM} (h : mdO u) {q : Int} (hq : 0 ≤ q ∧ q < mle u) : iR (mgH u q) := by
  obtain ⟨-, -, -, -, ⟨S, C, g⟩, -⟩ := mdO_f h
  obtain ⟨a1, a2, a3, a4, -⟩ := g.2.2.1 q hq.1 hq.2
  have a5 := g.1.hgt32 (mgP u q)
  exact ⟨by omega, by omega⟩
theorem bears_e (h : rlx n L ND US KN μ AU LE SN KK AT LF) {i : Int} (h0 : 0 ≤ i) (h1 : i < n) : mst (LE i) (row AT i) (row LF i) (SN i).toNat = mlay (μ i.toNat) := by
  obtain ⟨q1, q2⟩ := h.at h0 h1
  rw [mst_mx, ← mdO_lay q2, q1.P, q1.2.1]
  rfl
theorem credit_e (h : rlx n L ND US KN μ AU LE SN KK AT LF) (au : Int) : crB US (moB μ au n) n = rCR US AU n au n := cr_eq h.1.1 (fun i hi => (h.2.2.2.2.2 i hi).1) n (Nat.le_refl _)
theorem au_r (h : rlx n L ND US KN μ AU LE SN KK AT LF) : ∀ i : Int, 0 ≤ i → i < n → 0 ≤ AU i ∧ AU i ≤ 9 := by
  intro i h0 h1
  obtain ⟨q1, q2⟩ := h.at h0 h1
  obtain ⟨a1, -⟩ := mdO_f q2
  rw [q1.1] at a1
  exact a1
end RX
theorem REL.r0 {cI cZ cM : ClassId} {h r : Nat} {k : Int} {G R : va_W} (hr : REL cI cZ cM h r k G R) : ∃ fs : List Value, R[0]? = some (r, .inr (5, fs)) := by
  obtain ⟨nd, kn, gm, us, fo, fh, mi, fw, wt, n, ND, KN, US, μ, x, t, s0, FH, L, d, A, B, e1, e2, e3, e4, e5, e6, e7, e8, e9, e10, e11, e12, e13, e14, sz, mo, AU, LE, SN, KK, AT, LF, PL, HE, TU, MA, CU, rfl, rfl, hx⟩ := hr
  exact ⟨_, rfl⟩
theorem REL.g0 {cI cZ cM : ClassId} {h r : Nat} {k : Int} {G R : va_W} (hr : REL cI cZ cM h r k G R) : ∃ fs : List Value, G[0]? = some (h, .inr (4, fs)) := by
  obtain ⟨nd, kn, gm, us, fo, fh, mi, fw, wt, n, ND, KN, US, μ, x, t, s0, FH, L, d, A, B, e1, e2, e3, e4, e5, e6, e7, e8, e9, e10, e11, e12, e13, e14, sz, mo, AU, LE, SN, KK, AT, LF, PL, HE, TU, MA, CU, rfl, rfl, hx⟩ := hr
  exact ⟨_, rfl⟩
