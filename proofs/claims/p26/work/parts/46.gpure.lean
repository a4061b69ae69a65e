/-! WHAT A STEP MORE CHANGES. -/
theorem nbz {z : Int} (h : z = 0 ∨ z = 1) : narrow .boolean (.int (iI z)) = .int (iI z) := by
  rcases h with rfl | rfl <;> decide
theorem gS_c {len : Int} {P P2 : Int → Int} : ∀ j : Nat, (∀ i : Int, 0 ≤ i → i < j → P i = P2 i) → gS len P j = gS len P2 j
  | 0, _ => rfl
  | j + 1, h => by
    show max (P (j : Int)) (gS len P j - P (j : Int)) = max (P2 (j : Int)) (gS len P2 j - P2 (j : Int))
    rw [gS_c j (fun i a b => h i a (by omega)), h j (by omega) (by omega)]
theorem gP_c {len : Int} {P P2 F F2 : Int → Int} : ∀ j : Nat, (∀ i : Int, 0 ≤ i → i < j → P i = P2 i ∧ F i = F2 i) → gP len P F j = gP len P2 F2 j
  | 0, _ => rfl
  | j + 1, h => by
    funext q
    show (if gz (F (j : Int)) (P (j : Int)) (gP len P F j q) then 2 * P (j : Int) - 1 - gP len P F j q else gP len P F j q) - lw (P (j : Int)) (F (j : Int)) (gS len P j) = (if gz (F2 (j : Int)) (P2 (j : Int)) (gP len P2 F2 j q) then 2 * P2 (j : Int) - 1 - gP len P2 F2 j q else gP len P2 F2 j q) - lw (P2 (j : Int)) (F2 (j : Int)) (gS len P2 j)
    rw [gP_c j (fun i a b => h i a (by omega)), gS_c j (fun i a b => (h i a (by omega)).1), (h j (by omega) (by omega)).1, (h j (by omega) (by omega)).2]
theorem gT_c {len : Int} {P P2 F F2 : Int → Int} : ∀ j : Nat, (∀ i : Int, 0 ≤ i → i < j → P i = P2 i ∧ F i = F2 i) → gT len P F j = gT len P2 F2 j
  | 0, _ => rfl
  | j + 1, h => by
    funext q
    show (if gz (F (j : Int)) (P (j : Int)) (gP len P F j q) then 1 - gT len P F j q else gT len P F j q) = (if gz (F2 (j : Int)) (P2 (j : Int)) (gP len P2 F2 j q) then 1 - gT len P2 F2 j q else gT len P2 F2 j q)
    rw [gP_c j (fun i a b => h i a (by omega)), gT_c j (fun i a b => h i a (by omega)), (h j (by omega) (by omega)).1, (h j (by omega) (by omega)).2]
theorem gH_c {len : Int} {P P2 F F2 : Int → Int} : ∀ j : Nat, (∀ i : Int, 0 ≤ i → i < j → P i = P2 i ∧ F i = F2 i) → gH len P F j = gH len P2 F2 j
  | 0, _ => rfl
  | j + 1, h => by
    funext q
    show hs (F (j : Int)) (P (j : Int)) (gS len P j) len (gP len P F j) (gH len P F j) q = hs (F2 (j : Int)) (P2 (j : Int)) (gS len P2 j) len (gP len P2 F2 j) (gH len P2 F2 j) q
    rw [gP_c j (fun i a b => h i a (by omega)), gH_c j (fun i a b => h i a (by omega)), gS_c j (fun i a b => (h i a (by omega)).1), (h j (by omega) (by omega)).1, (h j (by omega) (by omega)).2]
theorem geo_add {len sn sp p f low : Int} {P F S C N1 M1 : Int → Int} (hlen : 1 ≤ len) (hsn : 0 ≤ sn) (hst : stV len sn P F) (hsp : sp = gS len P sn.toNat) (g : geo len sp S C (gP len P F sn.toNat) (gH len P F sn.toNat)) (hp : 1 ≤ p ∧ p < sp) (hf : f = 0 ∨ f = 1) (hlow : low = lw p f sp)
    (ht : tnP sp S C p low (max p (sp - p)) N1 M1) (he : M1 (max p (sp - p)) = tG sp S p low (max p (sp - p))) :
    stV len (sn + 1) (zup P sn p) (zup F sn f) ∧ max p (sp - p) = gS len (zup P sn p) (sn + 1).toNat ∧ geo len (max p (sp - p)) M1 N1 (gP len (zup P sn p) (zup F sn f) (sn + 1).toNat) (gH len (zup P sn p) (zup F sn f) (sn + 1).toNat) := by
  subst hlow
  obtain ⟨j, rfl⟩ := Int.eq_ofNat_of_zero_le hsn
  rw [Int.toNat_natCast] at hsp g
  rw [show ((j : Int) + 1).toNat = j + 1 by omega]
  have hc : ∀ (k : Nat), k ≤ j → ∀ i : Int, 0 ≤ i → i < k → P i = zup P j p i ∧ F i = zup F j f i := fun k hk i a b => by
    rw [zup_ne _ _ (by omega), zup_ne _ _ (by omega)]
    exact ⟨rfl, rfl⟩
  have e1 := gS_c (len := len) j (fun i a b => (hc j (Nat.le_refl _) i a b).1)
  have e2 := gP_c (len := len) j (hc j (Nat.le_refl _))
  have e3 := gH_c (len := len) j (hc j (Nat.le_refl _))
  refine ⟨fun k hk => ?_, ?_, ?_⟩
  · by_cases hkj : k = j
    · subst hkj
      rw [zup_self, zup_self, ← e1, ← hsp]
      exact ⟨hp, hf⟩
    · have h9 := hst k (by omega)
      rw [zup_ne _ _ (by omega), zup_ne _ _ (by omega), ← gS_c (len := len) k (fun i a b => (hc k (by omega) i a b).1)]
      exact h9
  · show _ = max (zup P j p (j : Int)) (gS len (zup P j p) j - zup P j p (j : Int))
    rw [zup_self, ← e1, ← hsp]
  · have h9 := geo_step (Pm := gP len (zup P j p) (zup F j f) (j + 1)) g hlen hp (fun q => by
      show (if gz (zup F j f (j : Int)) (zup P j p (j : Int)) (gP len (zup P j p) (zup F j f) j q) then 2 * zup P j p (j : Int) - 1 - gP len (zup P j p) (zup F j f) j q else gP len (zup P j p) (zup F j f) j q) - lw (zup P j p (j : Int)) (zup F j f (j : Int)) (gS len (zup P j p) j) = _
      rw [zup_self, zup_self, ← e1, ← e2, ← hsp]) ht he
    have e4 : gH len (zup P j p) (zup F j f) (j + 1) = hs f p sp len (gP len P F j) (gH len P F j) := by
      funext q
      show hs (zup F j f (j : Int)) (zup P j p (j : Int)) (gS len (zup P j p) j) len (gP len (zup P j p) (zup F j f) j) (gH len (zup P j p) (zup F j f) j) q = _
      rw [zup_self, zup_self, ← e1, ← e2, ← e3, ← hsp]
    rw [e4]
    exact h9
theorem gmF_add (μ : Nat → zM) (n : Nat) (u : zM) : gmF (va_up μ n u) (n + 1) = zup (gmF μ n) n (some (mdA u)) := by
  funext i
  unfold gmF zup
  by_cases h : i = n
  · subst h
    rw [if_pos (by omega), if_pos rfl, Int.toNat_natCast, va_up_self]
  · rw [if_neg h]
    dsimp only
    by_cases h2 : 0 ≤ i ∧ i < n
    · rw [if_pos (by omega), if_pos h2, va_up_ne _ _ (by omega)]
    · rw [if_neg (by omega), if_neg h2]
theorem cnt_r {Pl : Int → Int} {k : Int} : ∀ n : Nat, 0 ≤ cnt Pl k n ∧ cnt Pl k n ≤ n
  | 0 => by unfold cnt; omega
  | n + 1 => by
    have h := cnt_r (Pl := Pl) (k := k) n
    unfold cnt
    split <;> omega
theorem mxR_r {Pl : Int → Int} : ∀ n : Nat, 0 ≤ mxR Pl n ∧ mxR Pl n ≤ n
  | 0 => by unfold mxR; omega
  | n + 1 => by
    have h := mxR_r (Pl := Pl) n
    have h2 := cnt_r (Pl := Pl) (k := Pl n) (n + 1)
    unfold mxR
    omega
