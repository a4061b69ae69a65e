/-! THE LAW'S LOOP. -/
set_option maxHeartbeats 1000000 in
theorem law_turn {E : zE} {Q : State → Prop} {l : Launch} (hl : l.stackTraces = false) {D : va_G} {cI cZ cM cL : ClassId} {b h r o L i : Nat} {xs : Nat → Int32} {k0 : Int} {G R : va_W} {f : Int → Int64} {c9 s9 : Nat} (C : zC E cL_law RL wsL_law room_1) (hE : zOf E l D (zTy cI cZ cM cL)) (hS : zScr E b L xs) (hL : L ≤ 2560) (hi : i + 5 ≤ L) (hrel : REL cI cZ cM h r k0 G R) (hc9 : c9 + 40 ≤ 601024) (hs9 : s9 + 400 ≤ 7293034) {x : Int32} (k : ∀ (k1 : Int) (G1 R1 : va_W) (f1 : Int → Int64), REL cI cZ cM h r k1 G1 R1 → zG E Q (c9 + 40) (s9 + 400) ([(o, lr cL 1 f1)] ++ (G1 ++ R1)) [some (.ref b), some (.ref h), some (.ref r), some (.ref o), some (.int (iI ↑i)), none, none] 1484 []) : zG E Q c9 s9 ([(o, lr cL 1 f)] ++ (G ++ R)) [some (.ref b), some (.ref h), some (.ref r), some (.ref o), some (.int (iI ↑i)), none, none] 39 [.int x] := by
  have hdef : zG E Q c9 s9 ([(o, lr cL 1 f)] ++ (G ++ R)) [some (.ref b), some (.ref h), some (.ref r), some (.ref o), some (.int (iI ↑i)), none, none] 1484 [] := z_widen (k := c9 + 40) (n := s9 + 400) (by omega) (by omega) (k k0 G R f hrel)
  by_cases h1 : x.toInt < 0
  · exact z_tableOut (tgt := 1484) C dL_law_39 (Or.inl h1) (by decide) hdef
  by_cases h2 : 22 < x.toInt
  · exact z_tableOut (tgt := 1484) C dL_law_39 (Or.inr h2) (by decide) hdef
  have hx : x.toInt = 0 ∨ x.toInt = 1 ∨ x.toInt = 2 ∨ x.toInt = 3 ∨ x.toInt = 4 ∨ x.toInt = 5 ∨ x.toInt = 6 ∨ x.toInt = 7 ∨ x.toInt = 8 ∨ x.toInt = 9 ∨ x.toInt = 10 ∨ x.toInt = 11 ∨ x.toInt = 12 ∨ x.toInt = 13 ∨ x.toInt = 14 ∨ x.toInt = 15 ∨ x.toInt = 16 ∨ x.toInt = 17 ∨ x.toInt = 18 ∨ x.toInt = 19 ∨ x.toInt = 20 ∨ x.toInt = 21 ∨ x.toInt = 22 := by omega
  rcases hx with hx | hx | hx | hx | hx | hx | hx | hx | hx | hx | hx | hx | hx | hx | hx | hx | hx | hx | hx | hx | hx | hx | hx
  · exact z_tableIn (tgt := 144) C dL_law_39 h1 h2 (by rw [hx]; rfl) (by decide) (law_setNeeds hl C hE hS hL hi hrel hc9 hs9 k)
  · exact z_tableIn (tgt := 212) C dL_law_39 h1 h2 (by rw [hx]; rfl) (by decide) (law_addModel hl C hE hS hL hi hrel hc9 hs9 k)
  · exact z_tableIn (tgt := 280) C dL_law_39 h1 h2 (by rw [hx]; rfl) (by decide) (law_fold hl C hE hS hL hi hrel hc9 hs9 k)
  · exact z_tableIn (tgt := 388) C dL_law_39 h1 h2 (by rw [hx]; rfl) (by decide) (law_unfold hl C hE hS hL hi hrel hc9 hs9 k)
  · exact z_tableIn (tgt := 444) C dL_law_39 h1 h2 (by rw [hx]; rfl) (by decide) (law_use hl C hE hS hL hi hrel hc9 hs9 k)
  · exact z_tableIn (tgt := 519) C dL_law_39 h1 h2 (by rw [hx]; rfl) (by decide) (law_setRoll hl C hE hS hL hi hrel hc9 hs9 k)
  · exact z_tableIn (tgt := 587) C dL_law_39 h1 h2 (by rw [hx]; rfl) (by decide) (law_teach hl C hE hS hL hi hrel hc9 hs9 k)
  · exact z_tableIn (tgt := 655) C dL_law_39 h1 h2 (by rw [hx]; rfl) (by decide) (law_models hl C hE hS hL hi hrel hc9 hs9 k)
  · exact z_tableIn (tgt := 668) C dL_law_39 h1 h2 (by rw [hx]; rfl) (by decide) (law_steps hl C hE hS hL hi hrel hc9 hs9 k)
  · exact z_tableIn (tgt := 724) C dL_law_39 h1 h2 (by rw [hx]; rfl) (by decide) (law_places hl C hE hS hL hi hrel hc9 hs9 k)
  · exact z_tableIn (tgt := 780) C dL_law_39 h1 h2 (by rw [hx]; rfl) (by decide) (law_layers hl C hE hS hL hi hrel hc9 hs9 k)
  · exact z_tableIn (tgt := 836) C dL_law_39 h1 h2 (by rw [hx]; rfl) (by decide) (law_cellAt hl C hE hS hL hi hrel hc9 hs9 k)
  · exact z_tableIn (tgt := 916) C dL_law_39 h1 h2 (by rw [hx]; rfl) (by decide) (law_placeOf hl C hE hS hL hi hrel hc9 hs9 k)
  · exact z_tableIn (tgt := 984) C dL_law_39 h1 h2 (by rw [hx]; rfl) (by decide) (law_isTurned hl C hE hS hL hi hrel hc9 hs9 k)
  · exact z_tableIn (tgt := 1059) C dL_law_39 h1 h2 (by rw [hx]; rfl) (by decide) (law_layersByFollowing hl C hE hS hL hi hrel hc9 hs9 k)
  · exact z_tableIn (tgt := 1115) C dL_law_39 h1 h2 (by rw [hx]; rfl) (by decide) (law_bears hl C hE hS hL hi hrel hc9 hs9 k)
  · exact z_tableIn (tgt := 1190) C dL_law_39 h1 h2 (by rw [hx]; rfl) (by decide) (law_kindsOf hl C hE hS hL hi hrel hc9 hs9 k)
  · exact z_tableIn (tgt := 1246) C dL_law_39 h1 h2 (by rw [hx]; rfl) (by decide) (law_mayFold hl C hE hS hL hi hrel hc9 hs9 k)
  · exact z_tableIn (tgt := 1321) C dL_law_39 h1 h2 (by rw [hx]; rfl) (by decide) (law_lessons hl C hE hS hL hi hrel hc9 hs9 k)
  · exact z_tableIn (tgt := 1389) C dL_law_39 h1 h2 (by rw [hx]; rfl) (by decide) (law_credit hl C hE hS hL hi hrel hc9 hs9 k)
  · exact z_tableIn (tgt := 1445) C dL_law_39 h1 h2 (by rw [hx]; rfl) (by decide) (law_fewestPieces hl C hE hS hL hi hrel hc9 hs9 k)
  · exact z_tableIn (tgt := 1458) C dL_law_39 h1 h2 (by rw [hx]; rfl) (by decide) (law_ways hl C hE hS hL hi hrel hc9 hs9 k)
  · exact z_tableIn (tgt := 1471) C dL_law_39 h1 h2 (by rw [hx]; rfl) (by decide) (law_leastRest hl C hE hS hL hi hrel hc9 hs9 k)
set_option maxHeartbeats 1000000 in
theorem law_loop {E : zE} {Q : State → Prop} {l : Launch} (hl : l.stackTraces = false) {D : va_G} {cI cZ cM cL : ClassId} {b h r o L : Nat} {xs : Nat → Int32} (C : zC E cL_law RL wsL_law room_1) (hE : zOf E l D (zTy cI cZ cM cL)) (hS : zScr E b L xs) (hL : L ≤ 2560) {A0 B0 : Nat} (hA0 : A0 ≤ 1000) (hB0 : B0 ≤ 5000)
    (kEnd : ∀ (k1 : Int) (G1 R1 : va_W) (f1 : Int → Int64) (c9 s9 i : Nat), c9 ≤ 601024 → s9 ≤ 7293034 → REL cI cZ cM h r k1 G1 R1 → zG E Q c9 s9 ([(o, lr cL 1 f1)] ++ (G1 ++ R1)) [some (.ref b), some (.ref h), some (.ref r), some (.ref o), some (.int (iI ↑i)), none, none] 1491 [.int (iI 1)]) :
    ∀ (n m : Nat) (k0 : Int) (G R : va_W) (f : Int → Int64), 513 ≤ m + n → m ≤ 512 → REL cI cZ cM h r k0 G R → zG E Q (A0 + 40 * m) (B0 + 400 * m) ([(o, lr cL 1 f)] ++ (G ++ R)) [some (.ref b), some (.ref h), some (.ref r), some (.ref o), some (.int (iI ↑(5 * m))), none, none] 23 [] := by
  intro n
  induction n with
  | zero => intro m _ _ _ _ h1 h2; omega
  | succ n ih =>
    intro m k0 G R f h1 h2 hrel
    refine z_iload C dL_law_23 rfl ?_
    refine z_aload_n (i := 0) C dL_law_25 rfl rfl ?_
    refine z_slen C hS dL_law_26 ?_
    refine z_iconst (v := iI 5) C dL_law_27 rfl ?_
    refine z_isubI (v := ↑L - 5) C dL_law_28 rfl ?_
    refine z_icmp_gtI (tgt := 1490) C dL_law_29 (by decide) ⟨by omega, by omega⟩ ⟨by omega, by omega⟩ (fun _ => ?_) (fun hle => ?_)
    · refine z_iconst (v := iI 1) C dL_law_1490 rfl ?_
      exact kEnd k0 G R f _ _ (5 * m) (by omega) (by omega) hrel
    · have hi : 5 * m + 5 ≤ L := by omega
      refine z_aload_n (i := 0) C dL_law_32 rfl rfl ?_
      refine z_iload C dL_law_33 rfl ?_
      refine z_sld C hS (by omega) (by omega) (by omega) dL_law_35 ?_
      refine z_bipush (v := iI 31) C dL_law_36 (by decide) ?_
      refine z_iand C dL_law_38 ?_
      refine law_turn hl C hE hS hL hi hrel (by omega) (by omega) (fun k1 G1 R1 f1 hrel1 => ?_)
      refine z_iincI (v := ↑(5 * (m + 1))) (lv' := [some (.ref b), some (.ref h), some (.ref r), some (.ref o), some (.int (iI ↑(5 * (m + 1)))), none, none]) C dL_law_1484 rfl (by omega) rfl ?_
      refine z_goto (tgt := 23) C dL_law_1487 (by decide) ?_
      have q1 : A0 + 40 * m + 40 = A0 + 40 * (m + 1) := by omega
      have q2 : B0 + 400 * m + 400 = B0 + 400 * (m + 1) := by omega
      rw [q1, q2]
      exact ih (m + 1) k1 G1 R1 f1 (by omega) (by omega) hrel1
