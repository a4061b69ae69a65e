/-! turnOver. -/
theorem hi_X3_turnOver_X3 : ∀ w ∈ wsX30, w ∈ wsX3_turnOver := by decide +kernel
set_option maxHeartbeats 1000000 in
set_option maxRecDepth 100000 in
theorem k_turnOver (l : Launch) (D : va_G) (cI cZ cM cL : ClassId) (a c s nc ns : Nat) (CC SS NC NS : Int → Int) (fl sp : Int) (p lf : Int) (hp : 1 ≤ p ∧ p < sp) (hlf : lf = 0 ∨ lf = 1) (hW : stW sp SS) : zN l yX3_turnOver wsX3_turnOver { frames := 5, cells := 0, slots := 0, locals := 109 } D (zTy cI cZ cM cL) [.ref a, .int (iI p), .int (iI lf)] (skW cI a c s nc ns CC SS NC NS fl sp) (fun r w => r = none ∧ ∃ (low : Int) (N1 M1 : Int → Int) (f1 : Int), low = lw p lf sp ∧ w = skW cI a nc ns c s N1 M1 CC SS f1 (max p (sp - p)) ∧ tnP sp SS CC p low (max p (sp - p)) N1 M1 ∧ M1 (max p (sp - p)) = tG sp SS p low (max p (sp - p))) 0 0 := by
  refine zN_of (cc := cX3_turnOver) (maxL := 7) (lv0 := [some (.ref a), some (.int (iI p)), some (.int (iI lf)), none, none, none, none]) (by decide) rfl rfl (Nat.le_of_ble_eq_true rfl) rfl ?_
  intro E Q C hE hR hI0
  obtain ⟨hs0, hs1, -, -, -⟩ := id hW
  refine (show zG E Q 0 0 [(a, .inr (3, [.ref c, .ref s, .ref nc, .ref ns, .int (iI fl), .int (iI sp)])), (c, ai cI 32 CC), (s, ai cI 33 SS), (nc, ai cI 32 NC), (ns, ai cI 33 NS)] [some (.ref a), some (.int (iI p)), some (.int (iI lf)), none, none, none, none] 0 [] from ?_)
  have k34 : ∀ low : Int, low = lw p lf sp → zG E Q 0 0 [(a, .inr (3, [.ref c, .ref s, .ref nc, .ref ns, .int (iI fl), .int (iI sp)])), (c, ai cI 32 CC), (s, ai cI 33 SS), (nc, ai cI 32 NC), (ns, ai cI 33 NS)] [some (.ref a), some (.int (iI p)), some (.int (iI lf)), none, none, none, none] 34 [.int (iI low)] := by
    intro low hlow
    have hl0 : (low = p ∨ low + max p (sp - p) ≤ p) ∧ -64 ≤ low ∧ low ≤ 32 := by unfold lw at hlow; split at hlow <;> omega
    have lp : ∀ (n : Nat) (k : Int) (N1 M1 : Int → Int) (f1 : Int), 0 ≤ k → k ≤ max p (sp - p) → max p (sp - p) - k < n → f1 = tG sp SS p low k → tnP sp SS CC p low k N1 M1 → zG E Q (0) (0) [(a, .inr (3, [.ref c, .ref s, .ref nc, .ref ns, .int (iI f1), .int (iI sp)])), (c, ai cI 32 CC), (s, ai cI 33 SS), (nc, ai cI 32 N1), (ns, ai cI 33 M1)] [some (.ref a), some (.int (iI p)), some (.int (iI lf)), some (.int (iI low)), some (.int (iI (max p (sp - p)))), some (.int (iI k)), none] 55 [] := by
      intro n
      induction n with
      | zero => intro k N1 M1 f1 hk0 hk1 hkn hf1 hT; omega
      | succ n ih =>
        intro k N1 M1 f1 hk0 hk1 hkn hf1 hT
        have r1 := hW.tGr (p := p) (low := low) hk0 (by omega)
        have r2 : k < max p (sp - p) → 0 ≤ tG sp SS p low (k + 1) ∧ tG sp SS p low (k + 1) ≤ 32 := fun h => hW.tGr (by omega) (by omega)
        have r3 := hW.tGs p low k
        have r4 := hW.hgt0 (low + k)
        have r5 := hW.hgt0 (2 * p - 1 - (low + k))
        refine z_iload C dX3_turnOver_55 rfl ?_
        refine z_iload C dX3_turnOver_57 rfl ?_
        refine z_icmp_geI (tgt := 103) C dX3_turnOver_59 (by decide) ⟨by omega, by omega⟩ ⟨by omega, by omega⟩ (fun hk => ?_) (fun hk => ?_)
        · refine z_aload_n (i := 0) C dX3_turnOver_103 rfl rfl ?_
          refine z_get (ci := 3) C (hi_X3_turnOver_X3) 0 rfl rfl 3 (by decide) (by decide +kernel) rfl dX3_turnOver_104 ?_
          refine z_iload C dX3_turnOver_107 rfl ?_
          refine z_aload_n (i := 0) C dX3_turnOver_109 rfl rfl ?_
          refine z_get (ci := 3) C (hi_X3_turnOver_X3) 0 rfl rfl 4 (by decide) (by decide +kernel) rfl dX3_turnOver_110 ?_
          refine z_iastoreI 4 (he := rfl) (ws' := [(a, .inr (3, [.ref c, .ref s, .ref nc, .ref ns, .int (iI f1), .int (iI sp)])), (c, ai cI 32 CC), (s, ai cI 33 SS), (nc, ai cI 32 N1), (ns, ai cI 33 (zup M1 (max p (sp - p)) f1))]) C (zT_of hE (t0 := 0) rfl) (by omega) (by omega) (by decide) rfl dX3_turnOver_113 ?_
          refine z_aload_n (i := 0) C dX3_turnOver_114 rfl rfl ?_
          refine z_iload C dX3_turnOver_115 rfl ?_
          refine z_put (ci := 3) (ws' := [(a, .inr (3, [.ref c, .ref s, .ref nc, .ref ns, .int (iI f1), .int (iI (max p (sp - p)))])), (c, ai cI 32 CC), (s, ai cI 33 SS), (nc, ai cI 32 N1), (ns, ai cI 33 (zup M1 (max p (sp - p)) f1))]) C (hi_X3_turnOver_X3) tyX3_ok nmX3 0 rfl rfl 5 (by decide) (by decide +kernel) rfl (tyX3_ok 5 (by decide)) rfl rfl (Nat.le_of_ble_eq_true rfl) rfl dX3_turnOver_117 ?_
          refine z_aload_n (i := 0) C dX3_turnOver_120 rfl rfl ?_
          refine z_callV (n := 0) (As := []) (st := []) (fr := []) C hE (k_swapRows l D cI cZ cM cL a c s nc ns CC SS N1 (zup M1 (max p (sp - p)) f1) f1 (max p (sp - p))) gX3_turnOver_X3_swapRows rfl ⟨rfl, rfl⟩ (by decide +kernel) ⟨Nat.le_of_ble_eq_true rfl, Nat.le_of_ble_eq_true rfl⟩ rfl rfl (List.Perm.refl _) 0 rfl rfl rfl (Nat.le_of_ble_eq_true rfl) ⟨Nat.le_of_ble_eq_true rfl, Nat.le_of_ble_eq_true rfl⟩ dX3_turnOver_121 (fun r w1 hpo => ?_)
          obtain ⟨rfl, rfl⟩ := hpo
          refine (show zG E Q (0) (0) [(a, .inr (3, [.ref nc, .ref ns, .ref c, .ref s, .int (iI f1), .int (iI (max p (sp - p)))])), (c, ai cI 32 CC), (s, ai cI 33 SS), (nc, ai cI 32 N1), (ns, ai cI 33 (zup M1 (max p (sp - p)) f1))] [some (.ref a), some (.int (iI p)), some (.int (iI lf)), some (.int (iI low)), some (.int (iI (max p (sp - p)))), some (.int (iI k)), none] 124 [] from ?_)
          have ek : k = max p (sp - p) := by omega
          subst ek
          refine z_perm (z_places (w := skW cI a nc ns c s N1 (zup M1 (max p (sp - p)) f1) CC SS f1 (max p (sp - p))) [0, 3, 4, 1, 2] rfl rfl) ?_
          exact z_vret C hR dX3_turnOver_124 (Nat.le_refl _) (Nat.le_refl _) (⟨rfl, low, N1, _, f1, hlow, rfl, by have h9 := hW.tnEnd hT; rw [← hf1] at h9 ⊢; exact h9⟩)
        · refine z_aload_n (i := 0) C dX3_turnOver_62 rfl rfl ?_
          refine z_get (ci := 3) C (hi_X3_turnOver_X3) 0 rfl rfl 3 (by decide) (by decide +kernel) rfl dX3_turnOver_63 ?_
          refine z_iload C dX3_turnOver_66 rfl ?_
          refine z_aload_n (i := 0) C dX3_turnOver_68 rfl rfl ?_
          refine z_get (ci := 3) C (hi_X3_turnOver_X3) 0 rfl rfl 4 (by decide) (by decide +kernel) rfl dX3_turnOver_69 ?_
          refine z_iastoreI 4 (he := rfl) (ws' := [(a, .inr (3, [.ref c, .ref s, .ref nc, .ref ns, .int (iI f1), .int (iI sp)])), (c, ai cI 32 CC), (s, ai cI 33 SS), (nc, ai cI 32 N1), (ns, ai cI 33 (zup M1 k f1))]) C (zT_of hE (t0 := 0) rfl) (by omega) (by omega) (by decide) rfl dX3_turnOver_72 ?_
          refine z_iload_n (i := 3) C dX3_turnOver_73 rfl rfl ?_
          refine z_iload C dX3_turnOver_74 rfl ?_
          refine z_iaddI (v := low + k) C dX3_turnOver_76 (by omega) ?_
          refine z_istore (lv' := [some (.ref a), some (.int (iI p)), some (.int (iI lf)), some (.int (iI low)), some (.int (iI (max p (sp - p)))), some (.int (iI k)), some (.int (iI (low + k)))]) C dX3_turnOver_77 rfl rfl ?_
          refine z_aload_n (i := 0) C dX3_turnOver_79 rfl rfl ?_
          refine z_iload C dX3_turnOver_80 rfl ?_
          refine z_callV (n := 1) (As := [.int (iI (low + k))]) (st := []) (fr := []) C hE (k_copyUp l D cI cZ cM cL a c s nc ns CC SS N1 (zup M1 k f1) f1 sp (low + k) ⟨by omega, by omega⟩ hW ⟨by omega, by omega⟩) gX3_turnOver_X3_copyUpwards rfl ⟨rfl, rfl⟩ (by decide +kernel) ⟨Nat.le_of_ble_eq_true rfl, Nat.le_of_ble_eq_true rfl⟩ rfl rfl (List.Perm.refl _) 0 rfl rfl rfl (Nat.le_of_ble_eq_true rfl) ⟨Nat.le_of_ble_eq_true rfl, Nat.le_of_ble_eq_true rfl⟩ dX3_turnOver_82 (fun r w1 hpo => ?_)
          obtain ⟨rfl, rfl⟩ := hpo
          refine (show zG E Q (0) (0) [(a, .inr (3, [.ref c, .ref s, .ref nc, .ref ns, .int (iI (f1 + hgt sp SS (low + k))), .int (iI sp)])), (c, ai cI 32 CC), (s, ai cI 33 SS), (nc, ai cI 32 (cpU N1 f1 (hgt sp SS (low + k)) (fun i => CC (SS (low + k) + i)))), (ns, ai cI 33 (zup M1 k f1))] [some (.ref a), some (.int (iI p)), some (.int (iI lf)), some (.int (iI low)), some (.int (iI (max p (sp - p)))), some (.int (iI k)), some (.int (iI (low + k)))] 85 [] from ?_)
          refine z_aload_n (i := 0) C dX3_turnOver_85 rfl rfl ?_
          refine z_iconst (v := iI 2) C dX3_turnOver_86 rfl ?_
          refine z_iload_n (i := 1) C dX3_turnOver_87 rfl rfl ?_
          refine z_imulI (v := 2 * p) C dX3_turnOver_88 (by rfl) ?_
          refine z_iconst (v := iI 1) C dX3_turnOver_89 rfl ?_
          refine z_isubI (v := (2 * p) - 1) C dX3_turnOver_90 (by omega) ?_
          refine z_iload C dX3_turnOver_91 rfl ?_
          refine z_isubI (v := ((2 * p) - 1) - (low + k)) C dX3_turnOver_93 (by omega) ?_
          refine z_callV (n := 1) (As := [.int (iI (((2 * p) - 1) - (low + k)))]) (st := []) (fr := []) C hE (k_copyDown l D cI cZ cM cL a c s nc ns CC SS (cpU N1 f1 (hgt sp SS (low + k)) (fun i => CC (SS (low + k) + i))) (zup M1 k f1) (f1 + hgt sp SS (low + k)) sp (2 * p - 1 - (low + k)) ⟨by omega, by omega⟩ hW ⟨by omega, by omega⟩) gX3_turnOver_X3_copyDownwards rfl ⟨rfl, rfl⟩ (by decide +kernel) ⟨Nat.le_of_ble_eq_true rfl, Nat.le_of_ble_eq_true rfl⟩ rfl rfl (List.Perm.refl _) 0 rfl rfl rfl (Nat.le_of_ble_eq_true rfl) ⟨Nat.le_of_ble_eq_true rfl, Nat.le_of_ble_eq_true rfl⟩ dX3_turnOver_94 (fun r w1 hpo => ?_)
          obtain ⟨rfl, rfl⟩ := hpo
          refine (show zG E Q (0) (0) [(a, .inr (3, [.ref c, .ref s, .ref nc, .ref ns, .int (iI (f1 + hgt sp SS (low + k) + hgt sp SS (2 * p - 1 - (low + k)))), .int (iI sp)])), (c, ai cI 32 CC), (s, ai cI 33 SS), (nc, ai cI 32 (cpU (cpU N1 f1 (hgt sp SS (low + k)) (fun i => CC (SS (low + k) + i))) (f1 + hgt sp SS (low + k)) (hgt sp SS (2 * p - 1 - (low + k))) (fun i => CC (SS (2 * p - 1 - (low + k)) + (hgt sp SS (2 * p - 1 - (low + k)) - 1 - i))))), (ns, ai cI 33 (zup M1 k f1))] [some (.ref a), some (.int (iI p)), some (.int (iI lf)), some (.int (iI low)), some (.int (iI (max p (sp - p)))), some (.int (iI k)), some (.int (iI (low + k)))] 97 [] from ?_)
          refine z_iincI (v := k + 1) (lv' := [some (.ref a), some (.int (iI p)), some (.int (iI lf)), some (.int (iI low)), some (.int (iI (max p (sp - p)))), some (.int (iI (k + 1))), some (.int (iI (low + k)))]) C dX3_turnOver_97 rfl (by omega) rfl ?_
          refine z_goto (tgt := 55) C dX3_turnOver_100 (by decide) ?_
          refine z_le (r := [some (.ref a), some (.int (iI p)), some (.int (iI lf)), some (.int (iI low)), some (.int (iI (max p (sp - p)))), some (.int (iI (k + 1))), none]) ⟨Or.inr rfl, Or.inr rfl, Or.inr rfl, Or.inr rfl, Or.inr rfl, Or.inr rfl, Or.inl rfl, trivial⟩ ?_
          subst hf1
          exact ih (k + 1) _ _ _ (by omega) (by omega) (by omega) (hW.tGs p low k).symm (hW.tnS hk0 hT)
    refine z_istore_n (i := 3) (lv' := [some (.ref a), some (.int (iI p)), some (.int (iI lf)), some (.int (iI low)), none, none, none]) C dX3_turnOver_34 rfl rfl rfl ?_
    refine z_iload_n (i := 1) C dX3_turnOver_35 rfl rfl ?_
    refine z_aload_n (i := 0) C dX3_turnOver_36 rfl rfl ?_
    refine z_get (ci := 3) C (hi_X3_turnOver_X3) 0 rfl rfl 5 (by decide) (by decide +kernel) rfl dX3_turnOver_37 ?_
    refine z_iload_n (i := 1) C dX3_turnOver_40 rfl rfl ?_
    refine z_isubI (v := sp - p) C dX3_turnOver_41 (by omega) ?_
    refine z_maxI C (by decide +kernel) (by decide +kernel) (by decide +kernel) (by decide +kernel) (Nat.le_of_ble_eq_true rfl) ⟨Nat.le_of_ble_eq_true rfl, Nat.le_of_ble_eq_true rfl⟩ ⟨Nat.le_of_ble_eq_true rfl, Nat.le_of_ble_eq_true rfl⟩ dX3_turnOver_42 ⟨by omega, by omega⟩ ⟨by omega, by omega⟩ ?_
    refine z_istore (lv' := [some (.ref a), some (.int (iI p)), some (.int (iI lf)), some (.int (iI low)), some (.int (iI (max p (sp - p)))), none, none]) C dX3_turnOver_45 rfl rfl ?_
    refine z_aload_n (i := 0) C dX3_turnOver_47 rfl rfl ?_
    refine z_iconst (v := iI 0) C dX3_turnOver_48 rfl ?_
    refine z_put (ci := 3) (ws' := [(a, .inr (3, [.ref c, .ref s, .ref nc, .ref ns, .int (iI 0), .int (iI sp)])), (c, ai cI 32 CC), (s, ai cI 33 SS), (nc, ai cI 32 NC), (ns, ai cI 33 NS)]) C (hi_X3_turnOver_X3) tyX3_ok nmX3 0 rfl rfl 4 (by decide) (by decide +kernel) rfl (tyX3_ok 4 (by decide)) rfl rfl (Nat.le_of_ble_eq_true rfl) rfl dX3_turnOver_49 ?_
    refine z_iconst (v := iI 0) C dX3_turnOver_52 rfl ?_
    refine z_istore (lv' := [some (.ref a), some (.int (iI p)), some (.int (iI lf)), some (.int (iI low)), some (.int (iI (max p (sp - p)))), some (.int (iI 0)), none]) C dX3_turnOver_53 rfl rfl ?_
    exact lp ((max p (sp - p)).toNat + 1) 0 NC NS 0 (by omega) (by omega) (by omega) (tG_0 sp SS p low).symm ⟨fun j h1 h2 => by omega, fun j h h1 h2 => by omega, fun j h h1 h2 => by omega⟩
  refine z_iload_n (i := 1) C dX3_turnOver_0 rfl rfl ?_
  refine z_iconst (v := iI 1) C dX3_turnOver_1 rfl ?_
  refine z_icmp_ltI (tgt := 13) C dX3_turnOver_2 (by decide) ⟨by omega, by omega⟩ ⟨by omega, by omega⟩ (fun h => by exfalso; omega) (fun _ => ?_)
  refine z_iload_n (i := 1) C dX3_turnOver_5 rfl rfl ?_
  refine z_aload_n (i := 0) C dX3_turnOver_6 rfl rfl ?_
  refine z_get (ci := 3) C (hi_X3_turnOver_X3) 0 rfl rfl 5 (by decide) (by decide +kernel) rfl dX3_turnOver_7 ?_
  refine z_icmp_ltI (tgt := 14) C dX3_turnOver_10 (by decide) ⟨by omega, by omega⟩ ⟨by omega, by omega⟩ (fun _ => ?_) (fun h => by exfalso; omega)
  refine z_iload_n (i := 2) C dX3_turnOver_14 rfl rfl ?_
  refine z_if_eqI (tgt := 22) C dX3_turnOver_15 (by decide) ⟨by omega, by omega⟩ (fun hlf => ?_) (fun hlf => ?_)
  · refine z_iconst (v := iI 0) C dX3_turnOver_22 rfl ?_
    refine z_iconst (v := iI 2) C dX3_turnOver_23 rfl ?_
    refine z_iload_n (i := 1) C dX3_turnOver_24 rfl rfl ?_
    refine z_imulI (v := 2 * p) C dX3_turnOver_25 (by rfl) ?_
    refine z_aload_n (i := 0) C dX3_turnOver_26 rfl rfl ?_
    refine z_get (ci := 3) C (hi_X3_turnOver_X3) 0 rfl rfl 5 (by decide) (by decide +kernel) rfl dX3_turnOver_27 ?_
    refine z_isubI (v := (2 * p) - sp) C dX3_turnOver_30 (by omega) ?_
    refine z_minI C (by decide +kernel) (by decide +kernel) (by decide +kernel) (by decide +kernel) (Nat.le_of_ble_eq_true rfl) ⟨Nat.le_of_ble_eq_true rfl, Nat.le_of_ble_eq_true rfl⟩ ⟨Nat.le_of_ble_eq_true rfl, Nat.le_of_ble_eq_true rfl⟩ dX3_turnOver_31 ⟨by omega, by omega⟩ ⟨by omega, by omega⟩ ?_
    exact k34 _ (by unfold lw; first | rw [if_pos (by omega)] | rw [if_neg (by omega)])
  · refine z_iload_n (i := 1) C dX3_turnOver_18 rfl rfl ?_
    refine z_goto (tgt := 34) C dX3_turnOver_19 (by decide) ?_
    exact k34 _ (by unfold lw; first | rw [if_pos (by omega)] | rw [if_neg (by omega)])
