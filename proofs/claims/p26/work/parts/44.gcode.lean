/-! WHAT EACH CALL ANSWERS: 0 or which exception; and what the layers are. -/
def cSN (ND : Int → Int32) (k w : Int) : Int := if ¬ (0 ≤ k ∧ k < 8) then 1 else if ¬ (0 ≤ w ∧ w ≤ 255) then 2 else if hb (rch ND (iI 255) 8 (iI w &&& iI 255)) (iI k) then 2 else 0
def cAM (n : Nat) (au len : Int) : Int := if ¬ (0 ≤ au ∧ au < 10) then 1 else if ¬ (2 ≤ len ∧ len ≤ 32) then 2 else if 8 ≤ n then 3 else 0
def mgS (u : zM) : Int := gS (mle u) (mP u) (msn u).toNat
def mgP (u : zM) : Int → Int := gP (mle u) (mP u) (mF u) (msn u).toNat
def mgH (u : zM) : Int → Int := gH (mle u) (mP u) (mF u) (msn u).toNat
def mgT (u : zM) : Int → Int := gT (mle u) (mP u) (mF u) (msn u).toNat
def mok (u : zM) : Int32 := okb (mK u) (msn u).toNat
def mcn (u : zM) (k : Int) : Int := cnt (mgP u) k (mle u).toNat
def cFO (n : Nat) (ND : Int → Int32) (u : zM) (i k p : Int) : Int := if ¬ (0 ≤ i ∧ i < n) ∨ ¬ (0 ≤ k ∧ k < 8) then 1 else if ¬ (1 ≤ p ∧ p ≤ mgS u - 1) then 2 else if 10 ≤ msn u ∨ lk (mok u) (ND k) then 3 else 0
def cUN (n : Nat) (u : zM) (i : Int) : Int := if ¬ (0 ≤ i ∧ i < n) then 1 else if msn u = 0 then 2 else 0
def cUS (n : Nat) (US : Int → Int32) (i j : Int) : Int := if ¬ (0 ≤ i ∧ i < n) ∨ ¬ (0 ≤ j ∧ j < n) then 1 else if hb (mcB US j) (iI i) then 2 else 0
def cSR (len set : Int) : Int := if ¬ (0 ≤ len ∧ len ≤ 200) ∨ ¬ (0 ≤ set ∧ set ≤ 1048575) then 1 else 0
def cTE (ND KN : Int → Int32) (p k : Int) : Int := if ¬ (0 ≤ p ∧ p < 6) ∨ ¬ (0 ≤ k ∧ k < 8) then 1 else if lk (KN p) (ND k) then 2 else 0
def cM1 (n : Nat) (i : Int) : Int := if ¬ (0 ≤ i ∧ i < n) then 1 else 0
def cCA (n : Nat) (u : zM) (i p h : Int) : Int := if ¬ (0 ≤ i ∧ i < n) then 1 else if ¬ (0 ≤ p ∧ p < mgS u) then 1 else if ¬ (0 ≤ h ∧ h < mcn u p) then 1 else 0
def cPO (n : Nat) (u : zM) (i q : Int) : Int := if ¬ (0 ≤ i ∧ i < n) ∨ ¬ (0 ≤ q ∧ q < mle u) then 1 else 0
def cBE (n : Nat) (i g : Int) : Int := if ¬ (0 ≤ i ∧ i < n) then 1 else if ¬ (0 ≤ g ∧ g ≤ 20) then 2 else 0
def cEX (n : Nat) (p i : Int) : Int := if ¬ (0 ≤ p ∧ p < 6) ∨ ¬ (0 ≤ i ∧ i < n) then 1 else 0
def cCR (au : Int) : Int := if ¬ (0 ≤ au ∧ au < 10) then 1 else 0
/-- the greatest of f over the first n -/
def mxC (f : Int → Int) : Nat → Int
  | 0 => 0
  | n + 1 => max (mxC f n) (f n)
theorem mxC_c {f g : Int → Int} (h : ∀ k, f k = g k) : ∀ n : Nat, mxC f n = mxC g n
  | 0 => rfl
  | n + 1 => by unfold mxC; rw [mxC_c h n, h]
theorem mxH_C (sp : Int) (S : Int → Int) : ∀ n : Nat, mxH sp S n = mxC (hgt sp S) n
  | 0 => rfl
  | n + 1 => by unfold mxH mxC; rw [mxH_C sp S n]
/-- the layers -/
def mlay (u : zM) : Int := mxC (mcn u) (mgS u).toNat
/-- the layers as each cell is followed -/
def mxR (Pl : Int → Int) : Nat → Int
  | 0 => 0
  | n + 1 => max (mxR Pl n) (cnt Pl (Pl n) (n + 1))
theorem geo_lay {len sp : Int} {S C Pl Hl : Int → Int} (g : geo len sp S C Pl Hl) (n : Nat) : mxH sp S n = mxC (fun k => cnt Pl k len.toNat) n := by
  rw [mxH_C]
  exact mxC_c g.2.2.2.2 n
theorem z_vperm {E : zE} {Q : State → Prop} {cells slots : Nat} {ws ws' : va_W} {lv : List (Option Value)} {pc : Nat} {st : List Value} {Ex : String} (h : ws.Perm ws') (k : zV E Q cells slots ws' lv pc st Ex) : zV E Q cells slots ws lv pc st Ex := by
  obtain ⟨p, l, e, R, s, m, args, below, meth, c, D, tys, A, nL⟩ := E
  intro H locs ls q ce hP hD hS hL
  exact k H locs ls q ce (zP_perm h hP) (zD_perm h hD) hS hL
