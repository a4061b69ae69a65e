/-! THE LAW, case by case. -/
theorem pm_mid {x : Nat × va_E} {G R : va_W} : ([x] ++ (G ++ R)).Perm (G ++ ([x] ++ R)) := by
  show (x :: (G ++ R)).Perm (G ++ x :: R)
  exact List.perm_middle.symm
theorem lg_same (x : Int64) : lg_cmp x x = 0 := by
  unfold lg_cmp
  rw [if_neg (show ¬ x > x from Int64.lt_irrefl), if_pos rfl]
theorem z_sldN {E : zE} {Q : State → Prop} {cells slots : Nat} {ws : va_W} {lv : List (Option Value)} {pc : Nat} {st : List Value} {cc : ByteArray} {own : String} {Ts : List Cond} {rm : Room} {b L : Nat} {xs : Nat → Int32} (C : zC E cc own Ts rm) (hS0 : zScr E b L xs) {z : Int} (j : Nat) (hz : z = (j : Int)) (h : j < L) (hn : L ≤ 2147483647) (hdg : decode cc pc = .ok (.iaload, 1)) (k : zG E Q cells slots ws lv (pc + 1) (.int (xs j) :: st)) : zG E Q cells slots ws lv pc (.int (iI z) :: .ref b :: st) := by
  subst hz
  exact z_sld C hS0 (by omega) (by omega) hn hdg (by rw [Int.toNat_natCast]; exact k)
theorem REL.thrown (l : Launch) (D : va_G) {cI cZ cM : ClassId} (cL : ClassId) {h r : Nat} {k : Int} {G R : va_W} (hr : REL cI cZ cM h r k G R) : zN l yX5_thrown wsX5_thrown { frames := 0, cells := 0, slots := 0, locals := 0 } D (zTy cI cZ cM cL) [.ref r] R (fun r9 w => r9 = some (.int (iI k)) ∧ w = R) 0 0 := by
  obtain ⟨nd, kn, gm, us, fo, fh, mi, fw, wt, n, ND, KN, US, μ, x, t, s0, FH, L, d, A, B, e1, e2, e3, e4, e5, e6, e7, e8, e9, e10, e11, e12, e13, e14, sz, mo, AU, LE, SN, KK, AT, LF, PL, HE, TU, MA, CU, rfl, rfl, hx⟩ := hr
  exact k_rthrown l D cI cZ cM cL r e1 e2 e3 e4 e5 e6 e7 e8 e9 e10 e11 e12 e13 e14 n L d sz mo k ND US KN AU LE SN KK AT LF PL HE TU MA CU
theorem pair_models (l : Launch) (hl : l.stackTraces = false) (D : va_G) (cI cZ cM cL : ClassId) (h r : Nat) (k0 : Int) (G R : va_W) (hrel : REL cI cZ cM h r k0 G R) : ∃ PH PF : Option Value → va_W → Prop, zN l yX4_models wsX4_models { frames := 0, cells := 0, slots := 0, locals := 0 } D (zTy cI cZ cM cL) [.ref h] G PH 0 0 ∧ zN l yX5_models wsX5_models { frames := 0, cells := 0, slots := 0, locals := 0 } D (zTy cI cZ cM cL) [.ref r] R PF 0 0 ∧ ∀ (r1 : Option Value) (w1 : va_W), PH r1 w1 → ∃ v9 : Int32, r1 = some (.int v9) ∧ ∀ (r2 : Option Value) (w2 : va_W), PF r2 w2 → r2 = some (.int v9) ∧ REL cI cZ cM h r 0 w1 w2 := by
  obtain ⟨nd, kn, gm, us, fo, fh, mi, fw, wt, n, ND, KN, US, μ, x, t, s0, FH, L, d, A, B, e1, e2, e3, e4, e5, e6, e7, e8, e9, e10, e11, e12, e13, e14, sz, mo, AU, LE, SN, KK, AT, LF, PL, HE, TU, MA, CU, rfl, rfl, hx⟩ := hrel
  refine ⟨_, _, k_models l hl D cI cZ cM cL h nd kn gm us fo fh mi fw wt n ND KN US μ x t s0 FH L d A B hx.1, k_rmodels l D cI cZ cM cL r e1 e2 e3 e4 e5 e6 e7 e8 e9 e10 e11 e12 e13 e14 n L d sz mo k0 ND US KN AU LE SN KK AT LF PL HE TU MA CU, fun r1 w1 hp1 => ?_⟩
  obtain ⟨rfl, rfl⟩ := hp1
  refine ⟨_, rfl, fun r2 w2 hp2 => ?_⟩
  obtain ⟨rfl, rfl⟩ := hp2
  exact ⟨rfl, nd, kn, gm, us, fo, fh, mi, fw, wt, n, ND, KN, US, μ, x, t, s0, FH, L, d, A, B, e1, e2, e3, e4, e5, e6, e7, e8, e9, e10, e11, e12, e13, e14, sz, mo, AU, LE, SN, KK, AT, LF, PL, HE, TU, MA, CU, rfl, rfl, hx⟩
theorem pair_fewestPieces (l : Launch) (hl : l.stackTraces = false) (D : va_G) (cI cZ cM cL : ClassId) (h r : Nat) (k0 : Int) (G R : va_W) (hrel : REL cI cZ cM h r k0 G R) : ∃ PH PF : Option Value → va_W → Prop, zN l yX4_fewestPieces wsX4_fewestPieces { frames := 5, cells := 0, slots := 0, locals := 107 } D (zTy cI cZ cM cL) [.ref h] G PH 0 0 ∧ zN l yX5_fewestPieces wsX5_fewestPieces { frames := 1, cells := 0, slots := 0, locals := 23 } D (zTy cI cZ cM cL) [.ref r] R PF 0 0 ∧ ∀ (r1 : Option Value) (w1 : va_W), PH r1 w1 → ∃ v9 : Int32, r1 = some (.int v9) ∧ ∀ (r2 : Option Value) (w2 : va_W), PF r2 w2 → r2 = some (.int v9) ∧ REL cI cZ cM h r 0 w1 w2 := by
  obtain ⟨nd, kn, gm, us, fo, fh, mi, fw, wt, n, ND, KN, US, μ, x, t, s0, FH, L, d, A, B, e1, e2, e3, e4, e5, e6, e7, e8, e9, e10, e11, e12, e13, e14, sz, mo, AU, LE, SN, KK, AT, LF, PL, HE, TU, MA, CU, rfl, rfl, hx⟩ := hrel
  refine ⟨_, _, k_fewestPieces l hl D cI cZ cM cL h nd kn gm us fo fh mi fw wt n ND KN US μ x t s0 FH L d A B hx.1, k_rfewestPieces l D cI cZ cM cL r e1 e2 e3 e4 e5 e6 e7 e8 e9 e10 e11 e12 e13 e14 n L d sz mo k0 ND US KN AU LE SN KK AT LF PL HE TU MA CU hx.1.2.2, fun r1 w1 hp1 => ?_⟩
  obtain ⟨rfl, A1, rfl⟩ := hp1
  refine ⟨_, rfl, fun r2 w2 hp2 => ?_⟩
  obtain ⟨rfl, C1, rfl⟩ := hp2
  exact ⟨rfl, nd, kn, gm, us, fo, fh, mi, fw, wt, n, ND, KN, US, μ, x, t, s0, FH, L, d, A1, B, e1, e2, e3, e4, e5, e6, e7, e8, e9, e10, e11, e12, e13, e14, sz, mo, AU, LE, SN, KK, AT, LF, PL, HE, TU, MA, C1, rfl, rfl, hx⟩
theorem pair_ways (l : Launch) (hl : l.stackTraces = false) (D : va_G) (cI cZ cM cL : ClassId) (h r : Nat) (k0 : Int) (G R : va_W) (hrel : REL cI cZ cM h r k0 G R) : ∃ PH PF : Option Value → va_W → Prop, zN l yX4_ways wsX4_ways { frames := 3, cells := 0, slots := 0, locals := 63 } D (zTy cI cZ cM cL) [.ref h] G PH 0 0 ∧ zN l yX5_ways wsX5_ways { frames := 0, cells := 0, slots := 0, locals := 0 } D (zTy cI cZ cM cL) [.ref r] R PF 0 0 ∧ ∀ (r1 : Option Value) (w1 : va_W), PH r1 w1 → ∃ v9 : Int32, r1 = some (.int v9) ∧ ∀ (r2 : Option Value) (w2 : va_W), PF r2 w2 → r2 = some (.int v9) ∧ REL cI cZ cM h r 0 w1 w2 := by
  obtain ⟨nd, kn, gm, us, fo, fh, mi, fw, wt, n, ND, KN, US, μ, x, t, s0, FH, L, d, A, B, e1, e2, e3, e4, e5, e6, e7, e8, e9, e10, e11, e12, e13, e14, sz, mo, AU, LE, SN, KK, AT, LF, PL, HE, TU, MA, CU, rfl, rfl, hx⟩ := hrel
  refine ⟨_, _, k_ways l hl D cI cZ cM cL h nd kn gm us fo fh mi fw wt n ND KN US μ x t s0 FH L d A B hx.1, k_rways l D cI cZ cM cL r e1 e2 e3 e4 e5 e6 e7 e8 e9 e10 e11 e12 e13 e14 n L d sz mo k0 ND US KN AU LE SN KK AT LF PL HE TU MA CU hx.1.2.2, fun r1 w1 hp1 => ?_⟩
  obtain ⟨rfl, B1, rfl⟩ := hp1
  refine ⟨_, rfl, fun r2 w2 hp2 => ?_⟩
  obtain ⟨rfl, C1, rfl⟩ := hp2
  exact ⟨rfl, nd, kn, gm, us, fo, fh, mi, fw, wt, n, ND, KN, US, μ, x, t, s0, FH, L, d, A, B1, e1, e2, e3, e4, e5, e6, e7, e8, e9, e10, e11, e12, e13, e14, sz, mo, AU, LE, SN, KK, AT, LF, PL, HE, TU, MA, C1, rfl, rfl, hx⟩
theorem pair_leastRest (l : Launch) (hl : l.stackTraces = false) (D : va_G) (cI cZ cM cL : ClassId) (h r : Nat) (k0 : Int) (G R : va_W) (hrel : REL cI cZ cM h r k0 G R) : ∃ PH PF : Option Value → va_W → Prop, zN l yX4_leastRest wsX4_leastRest { frames := 5, cells := 0, slots := 0, locals := 108 } D (zTy cI cZ cM cL) [.ref h] G PH 0 0 ∧ zN l yX5_leastRest wsX5_leastRest { frames := 1, cells := 0, slots := 0, locals := 23 } D (zTy cI cZ cM cL) [.ref r] R PF 0 0 ∧ ∀ (r1 : Option Value) (w1 : va_W), PH r1 w1 → ∃ v9 : Int32, r1 = some (.int v9) ∧ ∀ (r2 : Option Value) (w2 : va_W), PF r2 w2 → r2 = some (.int v9) ∧ REL cI cZ cM h r 0 w1 w2 := by
  obtain ⟨nd, kn, gm, us, fo, fh, mi, fw, wt, n, ND, KN, US, μ, x, t, s0, FH, L, d, A, B, e1, e2, e3, e4, e5, e6, e7, e8, e9, e10, e11, e12, e13, e14, sz, mo, AU, LE, SN, KK, AT, LF, PL, HE, TU, MA, CU, rfl, rfl, hx⟩ := hrel
  refine ⟨_, _, k_leastRest l hl D cI cZ cM cL h nd kn gm us fo fh mi fw wt n ND KN US μ x t s0 FH L d A B hx.1, k_rleastRest l D cI cZ cM cL r e1 e2 e3 e4 e5 e6 e7 e8 e9 e10 e11 e12 e13 e14 n L d sz mo k0 ND US KN AU LE SN KK AT LF PL HE TU MA CU hx.1.2.2, fun r1 w1 hp1 => ?_⟩
  obtain ⟨rfl, A1, rfl⟩ := hp1
  refine ⟨_, rfl, fun r2 w2 hp2 => ?_⟩
  obtain ⟨rfl, C1, rfl⟩ := hp2
  exact ⟨rfl, nd, kn, gm, us, fo, fh, mi, fw, wt, n, ND, KN, US, μ, x, t, s0, FH, L, d, A1, B, e1, e2, e3, e4, e5, e6, e7, e8, e9, e10, e11, e12, e13, e14, sz, mo, AU, LE, SN, KK, AT, LF, PL, HE, TU, MA, C1, rfl, rfl, hx⟩
set_option maxHeartbeats 1000000 in
set_option maxRecDepth 100000 in
theorem law_setNeeds {E : zE} {Q : State → Prop} {l : Launch} (hl : l.stackTraces = false) {D : va_G} {cI cZ cM cL : ClassId} {b h r o L i : Nat} {xs : Nat → Int32} {k0 : Int} {G R : va_W} {f : Int → Int64} {c9 s9 : Nat} (C : zC E cL_law RL wsL_law room_1) (hE : zOf E l D (zTy cI cZ cM cL)) (hS : zScr E b L xs) (hL : L ≤ 2560) (hi : i + 5 ≤ L) (hrel : REL cI cZ cM h r k0 G R) (hc9 : c9 + 40 ≤ 601024) (hs9 : s9 + 400 ≤ 7293034) (k : ∀ (k1 : Int) (G1 R1 : va_W) (f1 : Int → Int64), REL cI cZ cM h r k1 G1 R1 → zG E Q (c9 + 40) (s9 + 400) ([(o, lr cL 1 f1)] ++ (G1 ++ R1)) [some (.ref b), some (.ref h), some (.ref r), some (.ref o), some (.int (iI ↑i)), none, none] 1484 []) : zG E Q c9 s9 ([(o, lr cL 1 f)] ++ (G ++ R)) [some (.ref b), some (.ref h), some (.ref r), some (.ref o), some (.int (iI ↑i)), none, none] 144 [] := by
  obtain ⟨fsR, hR0⟩ := hrel.r0
  refine z_aload_n (i := 1) C dL_law_144 rfl rfl ?_
  refine z_aload_n (i := 0) C dL_law_145 rfl rfl ?_
  refine z_iload C dL_law_146 rfl ?_
  refine z_iconst (v := iI 1) C dL_law_148 rfl ?_
  refine z_iaddI (v := (↑i) + 1) C dL_law_149 (by omega) ?_
  refine z_sldN C hS (z := (↑i) + 1) (i + 1) (by omega) (by omega) (by omega) dL_law_150 ?_
  refine z_aload_n (i := 0) C dL_law_151 rfl rfl ?_
  refine z_iload C dL_law_152 rfl ?_
  refine z_iconst (v := iI 2) C dL_law_154 rfl ?_
  refine z_iaddI (v := (↑i) + 2) C dL_law_155 (by omega) ?_
  refine z_sldN C hS (z := (↑i) + 2) (i + 2) (by omega) (by omega) (by omega) dL_law_156 ?_
  refine z_aload_n (i := 3) C dL_law_157 rfl rfl ?_
  obtain ⟨PH, PF, hH, hF, hEnd⟩ := pair_setNeeds l hl D cI cZ cM cL h r o k0 G R hrel f (xs (i + 1)) (xs (i + 2))
  refine z_callSH (n := 4) (As := [.ref h, .int (xs (i + 1)), .int (xs (i + 2)), .ref o]) (st := []) (fr := R) C hE hH gL_law_L_setNeeds rfl ⟨rfl, rfl⟩ (by decide +kernel) ⟨Nat.le_of_ble_eq_true rfl, Nat.le_of_ble_eq_true rfl⟩ rfl rfl (List.Perm.of_eq (List.append_assoc _ _ _).symm) (Nat.le_of_ble_eq_true rfl) ⟨by show c9 + 2 ≤ 601024; omega, by show s9 + 12 ≤ 7293034; omega⟩ dL_law_158 (fun r1 w1 hp1 => ?_)
  obtain ⟨k9, f1, G1, rfl, rfl, hp9⟩ := hEnd r1 w1 hp1
  refine (show zG E Q (c9 + 2) (s9 + 12) ([(o, lr cL 1 f1)] ++ (G1 ++ R)) [some (.ref b), some (.ref h), some (.ref r), some (.ref o), some (.int (iI ↑i)), none, none] 161 [.int (iI k9)] from ?_)
  refine z_istore (lv' := [some (.ref b), some (.ref h), some (.ref r), some (.ref o), some (.int (iI ↑i)), some (.int (iI k9)), none]) C dL_law_161 rfl rfl ?_
  refine z_aload_n (i := 2) C dL_law_163 rfl rfl ?_
  refine z_aload_n (i := 0) C dL_law_164 rfl rfl ?_
  refine z_iload C dL_law_165 rfl ?_
  refine z_iconst (v := iI 1) C dL_law_167 rfl ?_
  refine z_iaddI (v := (↑i) + 1) C dL_law_168 (by omega) ?_
  refine z_sldN C hS (z := (↑i) + 1) (i + 1) (by omega) (by omega) (by omega) dL_law_169 ?_
  refine z_aload_n (i := 0) C dL_law_170 rfl rfl ?_
  refine z_iload C dL_law_171 rfl ?_
  refine z_iconst (v := iI 2) C dL_law_173 rfl ?_
  refine z_iaddI (v := (↑i) + 2) C dL_law_174 (by omega) ?_
  refine z_sldN C hS (z := (↑i) + 2) (i + 2) (by omega) (by omega) (by omega) dL_law_175 ?_
  refine z_callV (n := 2) (As := [.int (xs (i + 1)), .int (xs (i + 2))]) (st := []) (fr := [(o, lr cL 1 f1)] ++ G1) C hE hF gL_law_X5_setNeeds rfl ⟨rfl, rfl⟩ (by decide +kernel) ⟨Nat.le_of_ble_eq_true rfl, Nat.le_of_ble_eq_true rfl⟩ rfl rfl ((List.Perm.of_eq (List.append_assoc _ _ _).symm).trans List.perm_append_comm) 0 hR0 rfl rfl (Nat.le_of_ble_eq_true rfl) ⟨by show c9 + 2 + 0 ≤ 601024; omega, by show s9 + 12 + 0 ≤ 7293034; omega⟩ dL_law_176 (fun r2 w2 hp2 => ?_)
  obtain ⟨v9, rfl, hk9, hv9, hrel1⟩ := hp9 r2 w2 hp2
  obtain ⟨fsT, hT0⟩ := hrel1.r0
  have hT9 := REL.thrown l D cL hrel1
  refine z_perm (ws' := [(o, lr cL 1 f1)] ++ (G1 ++ w2)) (List.perm_append_comm.trans (List.Perm.of_eq (List.append_assoc _ _ _))) ?_
  refine (show zG E Q (c9 + 2 + 0) (s9 + 12 + 0) ([(o, lr cL 1 f1)] ++ (G1 ++ w2)) [some (.ref b), some (.ref h), some (.ref r), some (.ref o), some (.int (iI ↑i)), some (.int (iI k9)), none] 179 [.int v9] from ?_)
  refine z_istore (lv' := [some (.ref b), some (.ref h), some (.ref r), some (.ref o), some (.int (iI ↑i)), some (.int (iI k9)), some (.int v9)]) C dL_law_179 rfl rfl ?_
  refine z_aload_n (i := 2) C dL_law_181 rfl rfl ?_
  refine z_callV (n := 0) (As := []) (st := []) (fr := [(o, lr cL 1 f1)] ++ G1) C hE hT9 gL_law_X5_thrown rfl ⟨rfl, rfl⟩ (by decide +kernel) ⟨Nat.le_of_ble_eq_true rfl, Nat.le_of_ble_eq_true rfl⟩ rfl rfl ((List.Perm.of_eq (List.append_assoc _ _ _).symm).trans List.perm_append_comm) 0 hT0 rfl rfl (Nat.le_of_ble_eq_true rfl) ⟨by show c9 + 2 + 0 + 0 ≤ 601024; omega, by show s9 + 12 + 0 + 0 ≤ 7293034; omega⟩ dL_law_182 (fun r3 w3 hp3 => ?_)
  obtain ⟨rfl, rfl⟩ := hp3
  refine z_perm (ws' := [(o, lr cL 1 f1)] ++ (G1 ++ w3)) (List.perm_append_comm.trans (List.Perm.of_eq (List.append_assoc _ _ _))) ?_
  refine (show zG E Q (c9 + 2 + 0 + 0) (s9 + 12 + 0 + 0) ([(o, lr cL 1 f1)] ++ (G1 ++ w3)) [some (.ref b), some (.ref h), some (.ref r), some (.ref o), some (.int (iI ↑i)), some (.int (iI k9)), some (.int v9)] 185 [.int (iI k9)] from ?_)
  refine z_iload C dL_law_185 rfl ?_
  refine z_icmp_eq (tgt := 192) C dL_law_187 (by decide) (fun _ => ?_) (fun h => absurd (rfl) h)
  refine z_iload C dL_law_192 rfl ?_
  refine z_if_neI (tgt := 209) C dL_law_194 (by decide) ⟨by omega, by omega⟩ (fun hz => ?_) (fun hz => ?_)
  · refine z_goto (tgt := 1484) C dL_law_209 (by decide) ?_
    refine z_le (r := [some (.ref b), some (.ref h), some (.ref r), some (.ref o), some (.int (iI ↑i)), none, none]) ⟨Or.inr rfl, Or.inr rfl, Or.inr rfl, Or.inr rfl, Or.inr rfl, Or.inl rfl, Or.inl rfl, trivial⟩ ?_
    exact z_widen (k := c9 + 40) (n := s9 + 400) (by omega) (by omega) (k k9 G1 w3 f1 hrel1)
  · refine z_aload_n (i := 3) C dL_law_197 rfl rfl ?_
    refine z_iconst (v := iI 0) C dL_law_198 rfl ?_
    refine z_laload C 0 rfl (zT_of hE (t0 := 3) rfl) (by omega) (by omega) (by decide) dL_law_199 ?_
    refine z_iload C dL_law_200 rfl ?_
    refine z_i2l C dL_law_202 rfl ?_
    refine z_lcmp C dL_law_203 ?_
    refine z_if_eq (tgt := 209) C dL_law_204 (by decide) (fun _ => ?_) (fun h => absurd (by rw [hv9 hz]; exact lg_same _) h)
    refine z_goto (tgt := 1484) C dL_law_209 (by decide) ?_
    refine z_le (r := [some (.ref b), some (.ref h), some (.ref r), some (.ref o), some (.int (iI ↑i)), none, none]) ⟨Or.inr rfl, Or.inr rfl, Or.inr rfl, Or.inr rfl, Or.inr rfl, Or.inl rfl, Or.inl rfl, trivial⟩ ?_
    exact z_widen (k := c9 + 40) (n := s9 + 400) (by omega) (by omega) (k k9 G1 w3 f1 hrel1)
set_option maxHeartbeats 1000000 in
set_option maxRecDepth 100000 in
theorem law_addModel {E : zE} {Q : State → Prop} {l : Launch} (hl : l.stackTraces = false) {D : va_G} {cI cZ cM cL : ClassId} {b h r o L i : Nat} {xs : Nat → Int32} {k0 : Int} {G R : va_W} {f : Int → Int64} {c9 s9 : Nat} (C : zC E cL_law RL wsL_law room_1) (hE : zOf E l D (zTy cI cZ cM cL)) (hS : zScr E b L xs) (hL : L ≤ 2560) (hi : i + 5 ≤ L) (hrel : REL cI cZ cM h r k0 G R) (hc9 : c9 + 40 ≤ 601024) (hs9 : s9 + 400 ≤ 7293034) (k : ∀ (k1 : Int) (G1 R1 : va_W) (f1 : Int → Int64), REL cI cZ cM h r k1 G1 R1 → zG E Q (c9 + 40) (s9 + 400) ([(o, lr cL 1 f1)] ++ (G1 ++ R1)) [some (.ref b), some (.ref h), some (.ref r), some (.ref o), some (.int (iI ↑i)), none, none] 1484 []) : zG E Q c9 s9 ([(o, lr cL 1 f)] ++ (G ++ R)) [some (.ref b), some (.ref h), some (.ref r), some (.ref o), some (.int (iI ↑i)), none, none] 212 [] := by
  obtain ⟨fsR, hR0⟩ := hrel.r0
  refine z_aload_n (i := 1) C dL_law_212 rfl rfl ?_
  refine z_aload_n (i := 0) C dL_law_213 rfl rfl ?_
  refine z_iload C dL_law_214 rfl ?_
  refine z_iconst (v := iI 1) C dL_law_216 rfl ?_
  refine z_iaddI (v := (↑i) + 1) C dL_law_217 (by omega) ?_
  refine z_sldN C hS (z := (↑i) + 1) (i + 1) (by omega) (by omega) (by omega) dL_law_218 ?_
  refine z_aload_n (i := 0) C dL_law_219 rfl rfl ?_
  refine z_iload C dL_law_220 rfl ?_
  refine z_iconst (v := iI 2) C dL_law_222 rfl ?_
  refine z_iaddI (v := (↑i) + 2) C dL_law_223 (by omega) ?_
  refine z_sldN C hS (z := (↑i) + 2) (i + 2) (by omega) (by omega) (by omega) dL_law_224 ?_
  refine z_aload_n (i := 3) C dL_law_225 rfl rfl ?_
  obtain ⟨PH, PF, hH, hF, hEnd⟩ := pair_addModel l hl D cI cZ cM cL h r o k0 G R hrel f (xs (i + 1)) (xs (i + 2))
  refine z_callSH (n := 4) (As := [.ref h, .int (xs (i + 1)), .int (xs (i + 2)), .ref o]) (st := []) (fr := R) C hE hH gL_law_L_addModel rfl ⟨rfl, rfl⟩ (by decide +kernel) ⟨Nat.le_of_ble_eq_true rfl, Nat.le_of_ble_eq_true rfl⟩ rfl rfl (List.Perm.of_eq (List.append_assoc _ _ _).symm) (Nat.le_of_ble_eq_true rfl) ⟨by show c9 + 11 ≤ 601024; omega, by show s9 + 185 ≤ 7293034; omega⟩ dL_law_226 (fun r1 w1 hp1 => ?_)
  obtain ⟨k9, f1, G1, rfl, rfl, hp9⟩ := hEnd r1 w1 hp1
  refine (show zG E Q (c9 + 11) (s9 + 185) ([(o, lr cL 1 f1)] ++ (G1 ++ R)) [some (.ref b), some (.ref h), some (.ref r), some (.ref o), some (.int (iI ↑i)), none, none] 229 [.int (iI k9)] from ?_)
  refine z_istore (lv' := [some (.ref b), some (.ref h), some (.ref r), some (.ref o), some (.int (iI ↑i)), some (.int (iI k9)), none]) C dL_law_229 rfl rfl ?_
  refine z_aload_n (i := 2) C dL_law_231 rfl rfl ?_
  refine z_aload_n (i := 0) C dL_law_232 rfl rfl ?_
  refine z_iload C dL_law_233 rfl ?_
  refine z_iconst (v := iI 1) C dL_law_235 rfl ?_
  refine z_iaddI (v := (↑i) + 1) C dL_law_236 (by omega) ?_
  refine z_sldN C hS (z := (↑i) + 1) (i + 1) (by omega) (by omega) (by omega) dL_law_237 ?_
  refine z_aload_n (i := 0) C dL_law_238 rfl rfl ?_
  refine z_iload C dL_law_239 rfl ?_
  refine z_iconst (v := iI 2) C dL_law_241 rfl ?_
  refine z_iaddI (v := (↑i) + 2) C dL_law_242 (by omega) ?_
  refine z_sldN C hS (z := (↑i) + 2) (i + 2) (by omega) (by omega) (by omega) dL_law_243 ?_
  refine z_callV (n := 2) (As := [.int (xs (i + 1)), .int (xs (i + 2))]) (st := []) (fr := [(o, lr cL 1 f1)] ++ G1) C hE hF gL_law_X5_addModel rfl ⟨rfl, rfl⟩ (by decide +kernel) ⟨Nat.le_of_ble_eq_true rfl, Nat.le_of_ble_eq_true rfl⟩ rfl rfl ((List.Perm.of_eq (List.append_assoc _ _ _).symm).trans List.perm_append_comm) 0 hR0 rfl rfl (Nat.le_of_ble_eq_true rfl) ⟨by show c9 + 11 + 0 ≤ 601024; omega, by show s9 + 185 + 0 ≤ 7293034; omega⟩ dL_law_244 (fun r2 w2 hp2 => ?_)
  obtain ⟨v9, rfl, hk9, hv9, hrel1⟩ := hp9 r2 w2 hp2
  obtain ⟨fsT, hT0⟩ := hrel1.r0
  have hT9 := REL.thrown l D cL hrel1
  refine z_perm (ws' := [(o, lr cL 1 f1)] ++ (G1 ++ w2)) (List.perm_append_comm.trans (List.Perm.of_eq (List.append_assoc _ _ _))) ?_
  refine (show zG E Q (c9 + 11 + 0) (s9 + 185 + 0) ([(o, lr cL 1 f1)] ++ (G1 ++ w2)) [some (.ref b), some (.ref h), some (.ref r), some (.ref o), some (.int (iI ↑i)), some (.int (iI k9)), none] 247 [.int v9] from ?_)
  refine z_istore (lv' := [some (.ref b), some (.ref h), some (.ref r), some (.ref o), some (.int (iI ↑i)), some (.int (iI k9)), some (.int v9)]) C dL_law_247 rfl rfl ?_
  refine z_aload_n (i := 2) C dL_law_249 rfl rfl ?_
  refine z_callV (n := 0) (As := []) (st := []) (fr := [(o, lr cL 1 f1)] ++ G1) C hE hT9 gL_law_X5_thrown rfl ⟨rfl, rfl⟩ (by decide +kernel) ⟨Nat.le_of_ble_eq_true rfl, Nat.le_of_ble_eq_true rfl⟩ rfl rfl ((List.Perm.of_eq (List.append_assoc _ _ _).symm).trans List.perm_append_comm) 0 hT0 rfl rfl (Nat.le_of_ble_eq_true rfl) ⟨by show c9 + 11 + 0 + 0 ≤ 601024; omega, by show s9 + 185 + 0 + 0 ≤ 7293034; omega⟩ dL_law_250 (fun r3 w3 hp3 => ?_)
  obtain ⟨rfl, rfl⟩ := hp3
  refine z_perm (ws' := [(o, lr cL 1 f1)] ++ (G1 ++ w3)) (List.perm_append_comm.trans (List.Perm.of_eq (List.append_assoc _ _ _))) ?_
  refine (show zG E Q (c9 + 11 + 0 + 0) (s9 + 185 + 0 + 0) ([(o, lr cL 1 f1)] ++ (G1 ++ w3)) [some (.ref b), some (.ref h), some (.ref r), some (.ref o), some (.int (iI ↑i)), some (.int (iI k9)), some (.int v9)] 253 [.int (iI k9)] from ?_)
  refine z_iload C dL_law_253 rfl ?_
  refine z_icmp_eq (tgt := 260) C dL_law_255 (by decide) (fun _ => ?_) (fun h => absurd (rfl) h)
  refine z_iload C dL_law_260 rfl ?_
  refine z_if_neI (tgt := 277) C dL_law_262 (by decide) ⟨by omega, by omega⟩ (fun hz => ?_) (fun hz => ?_)
  · refine z_goto (tgt := 1484) C dL_law_277 (by decide) ?_
    refine z_le (r := [some (.ref b), some (.ref h), some (.ref r), some (.ref o), some (.int (iI ↑i)), none, none]) ⟨Or.inr rfl, Or.inr rfl, Or.inr rfl, Or.inr rfl, Or.inr rfl, Or.inl rfl, Or.inl rfl, trivial⟩ ?_
    exact z_widen (k := c9 + 40) (n := s9 + 400) (by omega) (by omega) (k k9 G1 w3 f1 hrel1)
  · refine z_aload_n (i := 3) C dL_law_265 rfl rfl ?_
    refine z_iconst (v := iI 0) C dL_law_266 rfl ?_
    refine z_laload C 0 rfl (zT_of hE (t0 := 3) rfl) (by omega) (by omega) (by decide) dL_law_267 ?_
    refine z_iload C dL_law_268 rfl ?_
    refine z_i2l C dL_law_270 rfl ?_
    refine z_lcmp C dL_law_271 ?_
    refine z_if_eq (tgt := 277) C dL_law_272 (by decide) (fun _ => ?_) (fun h => absurd (by rw [hv9 hz]; exact lg_same _) h)
    refine z_goto (tgt := 1484) C dL_law_277 (by decide) ?_
    refine z_le (r := [some (.ref b), some (.ref h), some (.ref r), some (.ref o), some (.int (iI ↑i)), none, none]) ⟨Or.inr rfl, Or.inr rfl, Or.inr rfl, Or.inr rfl, Or.inr rfl, Or.inl rfl, Or.inl rfl, trivial⟩ ?_
    exact z_widen (k := c9 + 40) (n := s9 + 400) (by omega) (by omega) (k k9 G1 w3 f1 hrel1)
set_option maxHeartbeats 1000000 in
set_option maxRecDepth 100000 in
theorem law_fold {E : zE} {Q : State → Prop} {l : Launch} (hl : l.stackTraces = false) {D : va_G} {cI cZ cM cL : ClassId} {b h r o L i : Nat} {xs : Nat → Int32} {k0 : Int} {G R : va_W} {f : Int → Int64} {c9 s9 : Nat} (C : zC E cL_law RL wsL_law room_1) (hE : zOf E l D (zTy cI cZ cM cL)) (hS : zScr E b L xs) (hL : L ≤ 2560) (hi : i + 5 ≤ L) (hrel : REL cI cZ cM h r k0 G R) (hc9 : c9 + 40 ≤ 601024) (hs9 : s9 + 400 ≤ 7293034) (k : ∀ (k1 : Int) (G1 R1 : va_W) (f1 : Int → Int64), REL cI cZ cM h r k1 G1 R1 → zG E Q (c9 + 40) (s9 + 400) ([(o, lr cL 1 f1)] ++ (G1 ++ R1)) [some (.ref b), some (.ref h), some (.ref r), some (.ref o), some (.int (iI ↑i)), none, none] 1484 []) : zG E Q c9 s9 ([(o, lr cL 1 f)] ++ (G ++ R)) [some (.ref b), some (.ref h), some (.ref r), some (.ref o), some (.int (iI ↑i)), none, none] 280 [] := by
  obtain ⟨fsR, hR0⟩ := hrel.r0
  refine z_aload_n (i := 1) C dL_law_280 rfl rfl ?_
  refine z_aload_n (i := 0) C dL_law_281 rfl rfl ?_
  refine z_iload C dL_law_282 rfl ?_
  refine z_iconst (v := iI 1) C dL_law_284 rfl ?_
  refine z_iaddI (v := (↑i) + 1) C dL_law_285 (by omega) ?_
  refine z_sldN C hS (z := (↑i) + 1) (i + 1) (by omega) (by omega) (by omega) dL_law_286 ?_
  refine z_aload_n (i := 0) C dL_law_287 rfl rfl ?_
  refine z_iload C dL_law_288 rfl ?_
  refine z_iconst (v := iI 2) C dL_law_290 rfl ?_
  refine z_iaddI (v := (↑i) + 2) C dL_law_291 (by omega) ?_
  refine z_sldN C hS (z := (↑i) + 2) (i + 2) (by omega) (by omega) (by omega) dL_law_292 ?_
  refine z_aload_n (i := 0) C dL_law_293 rfl rfl ?_
  refine z_iload C dL_law_294 rfl ?_
  refine z_iconst (v := iI 3) C dL_law_296 rfl ?_
  refine z_iaddI (v := (↑i) + 3) C dL_law_297 (by omega) ?_
  refine z_sldN C hS (z := (↑i) + 3) (i + 3) (by omega) (by omega) (by omega) dL_law_298 ?_
  refine z_aload_n (i := 0) C dL_law_299 rfl rfl ?_
  refine z_iload C dL_law_300 rfl ?_
  refine z_iconst (v := iI 4) C dL_law_302 rfl ?_
  refine z_iaddI (v := (↑i) + 4) C dL_law_303 (by omega) ?_
  refine z_sldN C hS (z := (↑i) + 4) (i + 4) (by omega) (by omega) (by omega) dL_law_304 ?_
  refine z_if_eq (tgt := 312) C dL_law_305 (by decide) (fun hf4 => ?_) (fun hf4 => ?_)
  · refine z_iconst (v := iI 0) C dL_law_312 rfl ?_
    refine z_aload_n (i := 3) C dL_law_313 rfl rfl ?_
    obtain ⟨PH, PF, hH, hF, hEnd⟩ := pair_fold l hl D cI cZ cM cL h r o k0 G R hrel f (xs (i + 1)) (xs (i + 2)) (xs (i + 3)) 0 (Or.inl rfl)
    refine z_callSH (n := 6) (As := [.ref h, .int (xs (i + 1)), .int (xs (i + 2)), .int (xs (i + 3)), .int (iI 0), .ref o]) (st := []) (fr := R) C hE hH gL_law_L_fold rfl ⟨rfl, rfl⟩ (by decide +kernel) ⟨Nat.le_of_ble_eq_true rfl, Nat.le_of_ble_eq_true rfl⟩ rfl rfl (List.Perm.of_eq (List.append_assoc _ _ _).symm) (Nat.le_of_ble_eq_true rfl) ⟨by show c9 + 4 ≤ 601024; omega, by show s9 + 24 ≤ 7293034; omega⟩ dL_law_314 (fun r1 w1 hp1 => ?_)
    obtain ⟨k9, f1, G1, rfl, rfl, hp9⟩ := hEnd r1 w1 hp1
    refine (show zG E Q (c9 + 4) (s9 + 24) ([(o, lr cL 1 f1)] ++ (G1 ++ R)) [some (.ref b), some (.ref h), some (.ref r), some (.ref o), some (.int (iI ↑i)), none, none] 317 [.int (iI k9)] from ?_)
    refine z_istore (lv' := [some (.ref b), some (.ref h), some (.ref r), some (.ref o), some (.int (iI ↑i)), some (.int (iI k9)), none]) C dL_law_317 rfl rfl ?_
    refine z_aload_n (i := 2) C dL_law_319 rfl rfl ?_
    refine z_aload_n (i := 0) C dL_law_320 rfl rfl ?_
    refine z_iload C dL_law_321 rfl ?_
    refine z_iconst (v := iI 1) C dL_law_323 rfl ?_
    refine z_iaddI (v := (↑i) + 1) C dL_law_324 (by omega) ?_
    refine z_sldN C hS (z := (↑i) + 1) (i + 1) (by omega) (by omega) (by omega) dL_law_325 ?_
    refine z_aload_n (i := 0) C dL_law_326 rfl rfl ?_
    refine z_iload C dL_law_327 rfl ?_
    refine z_iconst (v := iI 2) C dL_law_329 rfl ?_
    refine z_iaddI (v := (↑i) + 2) C dL_law_330 (by omega) ?_
    refine z_sldN C hS (z := (↑i) + 2) (i + 2) (by omega) (by omega) (by omega) dL_law_331 ?_
    refine z_aload_n (i := 0) C dL_law_332 rfl rfl ?_
    refine z_iload C dL_law_333 rfl ?_
    refine z_iconst (v := iI 3) C dL_law_335 rfl ?_
    refine z_iaddI (v := (↑i) + 3) C dL_law_336 (by omega) ?_
    refine z_sldN C hS (z := (↑i) + 3) (i + 3) (by omega) (by omega) (by omega) dL_law_337 ?_
    refine z_aload_n (i := 0) C dL_law_338 rfl rfl ?_
    refine z_iload C dL_law_339 rfl ?_
    refine z_iconst (v := iI 4) C dL_law_341 rfl ?_
    refine z_iaddI (v := (↑i) + 4) C dL_law_342 (by omega) ?_
    refine z_sldN C hS (z := (↑i) + 4) (i + 4) (by omega) (by omega) (by omega) dL_law_343 ?_
    refine z_if_eq (tgt := 351) C dL_law_344 (by decide) (fun _ => ?_) (fun h => absurd (hf4) h)
    refine z_iconst (v := iI 0) C dL_law_351 rfl ?_
    refine z_callV (n := 4) (As := [.int (xs (i + 1)), .int (xs (i + 2)), .int (xs (i + 3)), .int (iI 0)]) (st := []) (fr := [(o, lr cL 1 f1)] ++ G1) C hE hF gL_law_X5_fold rfl ⟨rfl, rfl⟩ (by decide +kernel) ⟨Nat.le_of_ble_eq_true rfl, Nat.le_of_ble_eq_true rfl⟩ rfl rfl ((List.Perm.of_eq (List.append_assoc _ _ _).symm).trans List.perm_append_comm) 0 hR0 rfl rfl (Nat.le_of_ble_eq_true rfl) ⟨by show c9 + 4 + 0 ≤ 601024; omega, by show s9 + 24 + 0 ≤ 7293034; omega⟩ dL_law_352 (fun r2 w2 hp2 => ?_)
    obtain ⟨v9, rfl, hk9, hv9, hrel1⟩ := hp9 r2 w2 hp2
    obtain ⟨fsT, hT0⟩ := hrel1.r0
    have hT9 := REL.thrown l D cL hrel1
    refine z_perm (ws' := [(o, lr cL 1 f1)] ++ (G1 ++ w2)) (List.perm_append_comm.trans (List.Perm.of_eq (List.append_assoc _ _ _))) ?_
    refine (show zG E Q (c9 + 4 + 0) (s9 + 24 + 0) ([(o, lr cL 1 f1)] ++ (G1 ++ w2)) [some (.ref b), some (.ref h), some (.ref r), some (.ref o), some (.int (iI ↑i)), some (.int (iI k9)), none] 355 [.int v9] from ?_)
    refine z_istore (lv' := [some (.ref b), some (.ref h), some (.ref r), some (.ref o), some (.int (iI ↑i)), some (.int (iI k9)), some (.int v9)]) C dL_law_355 rfl rfl ?_
    refine z_aload_n (i := 2) C dL_law_357 rfl rfl ?_
    refine z_callV (n := 0) (As := []) (st := []) (fr := [(o, lr cL 1 f1)] ++ G1) C hE hT9 gL_law_X5_thrown rfl ⟨rfl, rfl⟩ (by decide +kernel) ⟨Nat.le_of_ble_eq_true rfl, Nat.le_of_ble_eq_true rfl⟩ rfl rfl ((List.Perm.of_eq (List.append_assoc _ _ _).symm).trans List.perm_append_comm) 0 hT0 rfl rfl (Nat.le_of_ble_eq_true rfl) ⟨by show c9 + 4 + 0 + 0 ≤ 601024; omega, by show s9 + 24 + 0 + 0 ≤ 7293034; omega⟩ dL_law_358 (fun r3 w3 hp3 => ?_)
    obtain ⟨rfl, rfl⟩ := hp3
    refine z_perm (ws' := [(o, lr cL 1 f1)] ++ (G1 ++ w3)) (List.perm_append_comm.trans (List.Perm.of_eq (List.append_assoc _ _ _))) ?_
    refine (show zG E Q (c9 + 4 + 0 + 0) (s9 + 24 + 0 + 0) ([(o, lr cL 1 f1)] ++ (G1 ++ w3)) [some (.ref b), some (.ref h), some (.ref r), some (.ref o), some (.int (iI ↑i)), some (.int (iI k9)), some (.int v9)] 361 [.int (iI k9)] from ?_)
    refine z_iload C dL_law_361 rfl ?_
    refine z_icmp_eq (tgt := 368) C dL_law_363 (by decide) (fun _ => ?_) (fun h => absurd (rfl) h)
    refine z_iload C dL_law_368 rfl ?_
    refine z_if_neI (tgt := 385) C dL_law_370 (by decide) ⟨by omega, by omega⟩ (fun hz => ?_) (fun hz => ?_)
    · refine z_goto (tgt := 1484) C dL_law_385 (by decide) ?_
      refine z_le (r := [some (.ref b), some (.ref h), some (.ref r), some (.ref o), some (.int (iI ↑i)), none, none]) ⟨Or.inr rfl, Or.inr rfl, Or.inr rfl, Or.inr rfl, Or.inr rfl, Or.inl rfl, Or.inl rfl, trivial⟩ ?_
      exact z_widen (k := c9 + 40) (n := s9 + 400) (by omega) (by omega) (k k9 G1 w3 f1 hrel1)
    · refine z_aload_n (i := 3) C dL_law_373 rfl rfl ?_
      refine z_iconst (v := iI 0) C dL_law_374 rfl ?_
      refine z_laload C 0 rfl (zT_of hE (t0 := 3) rfl) (by omega) (by omega) (by decide) dL_law_375 ?_
      refine z_iload C dL_law_376 rfl ?_
      refine z_i2l C dL_law_378 rfl ?_
      refine z_lcmp C dL_law_379 ?_
      refine z_if_eq (tgt := 385) C dL_law_380 (by decide) (fun _ => ?_) (fun h => absurd (by rw [hv9 hz]; exact lg_same _) h)
      refine z_goto (tgt := 1484) C dL_law_385 (by decide) ?_
      refine z_le (r := [some (.ref b), some (.ref h), some (.ref r), some (.ref o), some (.int (iI ↑i)), none, none]) ⟨Or.inr rfl, Or.inr rfl, Or.inr rfl, Or.inr rfl, Or.inr rfl, Or.inl rfl, Or.inl rfl, trivial⟩ ?_
      exact z_widen (k := c9 + 40) (n := s9 + 400) (by omega) (by omega) (k k9 G1 w3 f1 hrel1)
  · refine z_iconst (v := iI 1) C dL_law_308 rfl ?_
    refine z_goto (tgt := 313) C dL_law_309 (by decide) ?_
    refine z_aload_n (i := 3) C dL_law_313 rfl rfl ?_
    obtain ⟨PH, PF, hH, hF, hEnd⟩ := pair_fold l hl D cI cZ cM cL h r o k0 G R hrel f (xs (i + 1)) (xs (i + 2)) (xs (i + 3)) 1 (Or.inr rfl)
    refine z_callSH (n := 6) (As := [.ref h, .int (xs (i + 1)), .int (xs (i + 2)), .int (xs (i + 3)), .int (iI 1), .ref o]) (st := []) (fr := R) C hE hH gL_law_L_fold rfl ⟨rfl, rfl⟩ (by decide +kernel) ⟨Nat.le_of_ble_eq_true rfl, Nat.le_of_ble_eq_true rfl⟩ rfl rfl (List.Perm.of_eq (List.append_assoc _ _ _).symm) (Nat.le_of_ble_eq_true rfl) ⟨by show c9 + 4 ≤ 601024; omega, by show s9 + 24 ≤ 7293034; omega⟩ dL_law_314 (fun r1 w1 hp1 => ?_)
    obtain ⟨k9, f1, G1, rfl, rfl, hp9⟩ := hEnd r1 w1 hp1
    refine (show zG E Q (c9 + 4) (s9 + 24) ([(o, lr cL 1 f1)] ++ (G1 ++ R)) [some (.ref b), some (.ref h), some (.ref r), some (.ref o), some (.int (iI ↑i)), none, none] 317 [.int (iI k9)] from ?_)
    refine z_istore (lv' := [some (.ref b), some (.ref h), some (.ref r), some (.ref o), some (.int (iI ↑i)), some (.int (iI k9)), none]) C dL_law_317 rfl rfl ?_
    refine z_aload_n (i := 2) C dL_law_319 rfl rfl ?_
    refine z_aload_n (i := 0) C dL_law_320 rfl rfl ?_
    refine z_iload C dL_law_321 rfl ?_
    refine z_iconst (v := iI 1) C dL_law_323 rfl ?_
    refine z_iaddI (v := (↑i) + 1) C dL_law_324 (by omega) ?_
    refine z_sldN C hS (z := (↑i) + 1) (i + 1) (by omega) (by omega) (by omega) dL_law_325 ?_
    refine z_aload_n (i := 0) C dL_law_326 rfl rfl ?_
    refine z_iload C dL_law_327 rfl ?_
    refine z_iconst (v := iI 2) C dL_law_329 rfl ?_
    refine z_iaddI (v := (↑i) + 2) C dL_law_330 (by omega) ?_
    refine z_sldN C hS (z := (↑i) + 2) (i + 2) (by omega) (by omega) (by omega) dL_law_331 ?_
    refine z_aload_n (i := 0) C dL_law_332 rfl rfl ?_
    refine z_iload C dL_law_333 rfl ?_
    refine z_iconst (v := iI 3) C dL_law_335 rfl ?_
    refine z_iaddI (v := (↑i) + 3) C dL_law_336 (by omega) ?_
    refine z_sldN C hS (z := (↑i) + 3) (i + 3) (by omega) (by omega) (by omega) dL_law_337 ?_
    refine z_aload_n (i := 0) C dL_law_338 rfl rfl ?_
    refine z_iload C dL_law_339 rfl ?_
    refine z_iconst (v := iI 4) C dL_law_341 rfl ?_
    refine z_iaddI (v := (↑i) + 4) C dL_law_342 (by omega) ?_
    refine z_sldN C hS (z := (↑i) + 4) (i + 4) (by omega) (by omega) (by omega) dL_law_343 ?_
    refine z_if_eq (tgt := 351) C dL_law_344 (by decide) (fun h => absurd h (hf4)) (fun _ => ?_)
    refine z_iconst (v := iI 1) C dL_law_347 rfl ?_
    refine z_goto (tgt := 352) C dL_law_348 (by decide) ?_
    refine z_callV (n := 4) (As := [.int (xs (i + 1)), .int (xs (i + 2)), .int (xs (i + 3)), .int (iI 1)]) (st := []) (fr := [(o, lr cL 1 f1)] ++ G1) C hE hF gL_law_X5_fold rfl ⟨rfl, rfl⟩ (by decide +kernel) ⟨Nat.le_of_ble_eq_true rfl, Nat.le_of_ble_eq_true rfl⟩ rfl rfl ((List.Perm.of_eq (List.append_assoc _ _ _).symm).trans List.perm_append_comm) 0 hR0 rfl rfl (Nat.le_of_ble_eq_true rfl) ⟨by show c9 + 4 + 0 ≤ 601024; omega, by show s9 + 24 + 0 ≤ 7293034; omega⟩ dL_law_352 (fun r2 w2 hp2 => ?_)
    obtain ⟨v9, rfl, hk9, hv9, hrel1⟩ := hp9 r2 w2 hp2
    obtain ⟨fsT, hT0⟩ := hrel1.r0
    have hT9 := REL.thrown l D cL hrel1
    refine z_perm (ws' := [(o, lr cL 1 f1)] ++ (G1 ++ w2)) (List.perm_append_comm.trans (List.Perm.of_eq (List.append_assoc _ _ _))) ?_
    refine (show zG E Q (c9 + 4 + 0) (s9 + 24 + 0) ([(o, lr cL 1 f1)] ++ (G1 ++ w2)) [some (.ref b), some (.ref h), some (.ref r), some (.ref o), some (.int (iI ↑i)), some (.int (iI k9)), none] 355 [.int v9] from ?_)
    refine z_istore (lv' := [some (.ref b), some (.ref h), some (.ref r), some (.ref o), some (.int (iI ↑i)), some (.int (iI k9)), some (.int v9)]) C dL_law_355 rfl rfl ?_
    refine z_aload_n (i := 2) C dL_law_357 rfl rfl ?_
    refine z_callV (n := 0) (As := []) (st := []) (fr := [(o, lr cL 1 f1)] ++ G1) C hE hT9 gL_law_X5_thrown rfl ⟨rfl, rfl⟩ (by decide +kernel) ⟨Nat.le_of_ble_eq_true rfl, Nat.le_of_ble_eq_true rfl⟩ rfl rfl ((List.Perm.of_eq (List.append_assoc _ _ _).symm).trans List.perm_append_comm) 0 hT0 rfl rfl (Nat.le_of_ble_eq_true rfl) ⟨by show c9 + 4 + 0 + 0 ≤ 601024; omega, by show s9 + 24 + 0 + 0 ≤ 7293034; omega⟩ dL_law_358 (fun r3 w3 hp3 => ?_)
    obtain ⟨rfl, rfl⟩ := hp3
    refine z_perm (ws' := [(o, lr cL 1 f1)] ++ (G1 ++ w3)) (List.perm_append_comm.trans (List.Perm.of_eq (List.append_assoc _ _ _))) ?_
    refine (show zG E Q (c9 + 4 + 0 + 0) (s9 + 24 + 0 + 0) ([(o, lr cL 1 f1)] ++ (G1 ++ w3)) [some (.ref b), some (.ref h), some (.ref r), some (.ref o), some (.int (iI ↑i)), some (.int (iI k9)), some (.int v9)] 361 [.int (iI k9)] from ?_)
    refine z_iload C dL_law_361 rfl ?_
    refine z_icmp_eq (tgt := 368) C dL_law_363 (by decide) (fun _ => ?_) (fun h => absurd (rfl) h)
    refine z_iload C dL_law_368 rfl ?_
    refine z_if_neI (tgt := 385) C dL_law_370 (by decide) ⟨by omega, by omega⟩ (fun hz => ?_) (fun hz => ?_)
    · refine z_goto (tgt := 1484) C dL_law_385 (by decide) ?_
      refine z_le (r := [some (.ref b), some (.ref h), some (.ref r), some (.ref o), some (.int (iI ↑i)), none, none]) ⟨Or.inr rfl, Or.inr rfl, Or.inr rfl, Or.inr rfl, Or.inr rfl, Or.inl rfl, Or.inl rfl, trivial⟩ ?_
      exact z_widen (k := c9 + 40) (n := s9 + 400) (by omega) (by omega) (k k9 G1 w3 f1 hrel1)
    · refine z_aload_n (i := 3) C dL_law_373 rfl rfl ?_
      refine z_iconst (v := iI 0) C dL_law_374 rfl ?_
      refine z_laload C 0 rfl (zT_of hE (t0 := 3) rfl) (by omega) (by omega) (by decide) dL_law_375 ?_
      refine z_iload C dL_law_376 rfl ?_
      refine z_i2l C dL_law_378 rfl ?_
      refine z_lcmp C dL_law_379 ?_
      refine z_if_eq (tgt := 385) C dL_law_380 (by decide) (fun _ => ?_) (fun h => absurd (by rw [hv9 hz]; exact lg_same _) h)
      refine z_goto (tgt := 1484) C dL_law_385 (by decide) ?_
      refine z_le (r := [some (.ref b), some (.ref h), some (.ref r), some (.ref o), some (.int (iI ↑i)), none, none]) ⟨Or.inr rfl, Or.inr rfl, Or.inr rfl, Or.inr rfl, Or.inr rfl, Or.inl rfl, Or.inl rfl, trivial⟩ ?_
      exact z_widen (k := c9 + 40) (n := s9 + 400) (by omega) (by omega) (k k9 G1 w3 f1 hrel1)
set_option maxHeartbeats 1000000 in
set_option maxRecDepth 100000 in
theorem law_unfold {E : zE} {Q : State → Prop} {l : Launch} (hl : l.stackTraces = false) {D : va_G} {cI cZ cM cL : ClassId} {b h r o L i : Nat} {xs : Nat → Int32} {k0 : Int} {G R : va_W} {f : Int → Int64} {c9 s9 : Nat} (C : zC E cL_law RL wsL_law room_1) (hE : zOf E l D (zTy cI cZ cM cL)) (hS : zScr E b L xs) (hL : L ≤ 2560) (hi : i + 5 ≤ L) (hrel : REL cI cZ cM h r k0 G R) (hc9 : c9 + 40 ≤ 601024) (hs9 : s9 + 400 ≤ 7293034) (k : ∀ (k1 : Int) (G1 R1 : va_W) (f1 : Int → Int64), REL cI cZ cM h r k1 G1 R1 → zG E Q (c9 + 40) (s9 + 400) ([(o, lr cL 1 f1)] ++ (G1 ++ R1)) [some (.ref b), some (.ref h), some (.ref r), some (.ref o), some (.int (iI ↑i)), none, none] 1484 []) : zG E Q c9 s9 ([(o, lr cL 1 f)] ++ (G ++ R)) [some (.ref b), some (.ref h), some (.ref r), some (.ref o), some (.int (iI ↑i)), none, none] 388 [] := by
  obtain ⟨fsR, hR0⟩ := hrel.r0
  refine z_aload_n (i := 1) C dL_law_388 rfl rfl ?_
  refine z_aload_n (i := 0) C dL_law_389 rfl rfl ?_
  refine z_iload C dL_law_390 rfl ?_
  refine z_iconst (v := iI 1) C dL_law_392 rfl ?_
  refine z_iaddI (v := (↑i) + 1) C dL_law_393 (by omega) ?_
  refine z_sldN C hS (z := (↑i) + 1) (i + 1) (by omega) (by omega) (by omega) dL_law_394 ?_
  refine z_aload_n (i := 3) C dL_law_395 rfl rfl ?_
  obtain ⟨PH, PF, hH, hF, hEnd⟩ := pair_unfold l hl D cI cZ cM cL h r o k0 G R hrel f (xs (i + 1))
  refine z_callSH (n := 3) (As := [.ref h, .int (xs (i + 1)), .ref o]) (st := []) (fr := R) C hE hH gL_law_L_unfold rfl ⟨rfl, rfl⟩ (by decide +kernel) ⟨Nat.le_of_ble_eq_true rfl, Nat.le_of_ble_eq_true rfl⟩ rfl rfl (List.Perm.of_eq (List.append_assoc _ _ _).symm) (Nat.le_of_ble_eq_true rfl) ⟨by show c9 + 3 ≤ 601024; omega, by show s9 + 18 ≤ 7293034; omega⟩ dL_law_396 (fun r1 w1 hp1 => ?_)
  obtain ⟨k9, f1, G1, rfl, rfl, hp9⟩ := hEnd r1 w1 hp1
  refine (show zG E Q (c9 + 3) (s9 + 18) ([(o, lr cL 1 f1)] ++ (G1 ++ R)) [some (.ref b), some (.ref h), some (.ref r), some (.ref o), some (.int (iI ↑i)), none, none] 399 [.int (iI k9)] from ?_)
  refine z_istore (lv' := [some (.ref b), some (.ref h), some (.ref r), some (.ref o), some (.int (iI ↑i)), some (.int (iI k9)), none]) C dL_law_399 rfl rfl ?_
  refine z_aload_n (i := 2) C dL_law_401 rfl rfl ?_
  refine z_aload_n (i := 0) C dL_law_402 rfl rfl ?_
  refine z_iload C dL_law_403 rfl ?_
  refine z_iconst (v := iI 1) C dL_law_405 rfl ?_
  refine z_iaddI (v := (↑i) + 1) C dL_law_406 (by omega) ?_
  refine z_sldN C hS (z := (↑i) + 1) (i + 1) (by omega) (by omega) (by omega) dL_law_407 ?_
  refine z_callV (n := 1) (As := [.int (xs (i + 1))]) (st := []) (fr := [(o, lr cL 1 f1)] ++ G1) C hE hF gL_law_X5_unfold rfl ⟨rfl, rfl⟩ (by decide +kernel) ⟨Nat.le_of_ble_eq_true rfl, Nat.le_of_ble_eq_true rfl⟩ rfl rfl ((List.Perm.of_eq (List.append_assoc _ _ _).symm).trans List.perm_append_comm) 0 hR0 rfl rfl (Nat.le_of_ble_eq_true rfl) ⟨by show c9 + 3 + 0 ≤ 601024; omega, by show s9 + 18 + 0 ≤ 7293034; omega⟩ dL_law_408 (fun r2 w2 hp2 => ?_)
  obtain ⟨v9, rfl, hk9, hv9, hrel1⟩ := hp9 r2 w2 hp2
  obtain ⟨fsT, hT0⟩ := hrel1.r0
  have hT9 := REL.thrown l D cL hrel1
  refine z_perm (ws' := [(o, lr cL 1 f1)] ++ (G1 ++ w2)) (List.perm_append_comm.trans (List.Perm.of_eq (List.append_assoc _ _ _))) ?_
  refine (show zG E Q (c9 + 3 + 0) (s9 + 18 + 0) ([(o, lr cL 1 f1)] ++ (G1 ++ w2)) [some (.ref b), some (.ref h), some (.ref r), some (.ref o), some (.int (iI ↑i)), some (.int (iI k9)), none] 411 [.int v9] from ?_)
  refine z_istore (lv' := [some (.ref b), some (.ref h), some (.ref r), some (.ref o), some (.int (iI ↑i)), some (.int (iI k9)), some (.int v9)]) C dL_law_411 rfl rfl ?_
  refine z_aload_n (i := 2) C dL_law_413 rfl rfl ?_
  refine z_callV (n := 0) (As := []) (st := []) (fr := [(o, lr cL 1 f1)] ++ G1) C hE hT9 gL_law_X5_thrown rfl ⟨rfl, rfl⟩ (by decide +kernel) ⟨Nat.le_of_ble_eq_true rfl, Nat.le_of_ble_eq_true rfl⟩ rfl rfl ((List.Perm.of_eq (List.append_assoc _ _ _).symm).trans List.perm_append_comm) 0 hT0 rfl rfl (Nat.le_of_ble_eq_true rfl) ⟨by show c9 + 3 + 0 + 0 ≤ 601024; omega, by show s9 + 18 + 0 + 0 ≤ 7293034; omega⟩ dL_law_414 (fun r3 w3 hp3 => ?_)
  obtain ⟨rfl, rfl⟩ := hp3
  refine z_perm (ws' := [(o, lr cL 1 f1)] ++ (G1 ++ w3)) (List.perm_append_comm.trans (List.Perm.of_eq (List.append_assoc _ _ _))) ?_
  refine (show zG E Q (c9 + 3 + 0 + 0) (s9 + 18 + 0 + 0) ([(o, lr cL 1 f1)] ++ (G1 ++ w3)) [some (.ref b), some (.ref h), some (.ref r), some (.ref o), some (.int (iI ↑i)), some (.int (iI k9)), some (.int v9)] 417 [.int (iI k9)] from ?_)
  refine z_iload C dL_law_417 rfl ?_
  refine z_icmp_eq (tgt := 424) C dL_law_419 (by decide) (fun _ => ?_) (fun h => absurd (rfl) h)
  refine z_iload C dL_law_424 rfl ?_
  refine z_if_neI (tgt := 441) C dL_law_426 (by decide) ⟨by omega, by omega⟩ (fun hz => ?_) (fun hz => ?_)
  · refine z_goto (tgt := 1484) C dL_law_441 (by decide) ?_
    refine z_le (r := [some (.ref b), some (.ref h), some (.ref r), some (.ref o), some (.int (iI ↑i)), none, none]) ⟨Or.inr rfl, Or.inr rfl, Or.inr rfl, Or.inr rfl, Or.inr rfl, Or.inl rfl, Or.inl rfl, trivial⟩ ?_
    exact z_widen (k := c9 + 40) (n := s9 + 400) (by omega) (by omega) (k k9 G1 w3 f1 hrel1)
  · refine z_aload_n (i := 3) C dL_law_429 rfl rfl ?_
    refine z_iconst (v := iI 0) C dL_law_430 rfl ?_
    refine z_laload C 0 rfl (zT_of hE (t0 := 3) rfl) (by omega) (by omega) (by decide) dL_law_431 ?_
    refine z_iload C dL_law_432 rfl ?_
    refine z_i2l C dL_law_434 rfl ?_
    refine z_lcmp C dL_law_435 ?_
    refine z_if_eq (tgt := 441) C dL_law_436 (by decide) (fun _ => ?_) (fun h => absurd (by rw [hv9 hz]; exact lg_same _) h)
    refine z_goto (tgt := 1484) C dL_law_441 (by decide) ?_
    refine z_le (r := [some (.ref b), some (.ref h), some (.ref r), some (.ref o), some (.int (iI ↑i)), none, none]) ⟨Or.inr rfl, Or.inr rfl, Or.inr rfl, Or.inr rfl, Or.inr rfl, Or.inl rfl, Or.inl rfl, trivial⟩ ?_
    exact z_widen (k := c9 + 40) (n := s9 + 400) (by omega) (by omega) (k k9 G1 w3 f1 hrel1)
set_option maxHeartbeats 1000000 in
set_option maxRecDepth 100000 in
theorem law_use {E : zE} {Q : State → Prop} {l : Launch} (hl : l.stackTraces = false) {D : va_G} {cI cZ cM cL : ClassId} {b h r o L i : Nat} {xs : Nat → Int32} {k0 : Int} {G R : va_W} {f : Int → Int64} {c9 s9 : Nat} (C : zC E cL_law RL wsL_law room_1) (hE : zOf E l D (zTy cI cZ cM cL)) (hS : zScr E b L xs) (hL : L ≤ 2560) (hi : i + 5 ≤ L) (hrel : REL cI cZ cM h r k0 G R) (hc9 : c9 + 40 ≤ 601024) (hs9 : s9 + 400 ≤ 7293034) (k : ∀ (k1 : Int) (G1 R1 : va_W) (f1 : Int → Int64), REL cI cZ cM h r k1 G1 R1 → zG E Q (c9 + 40) (s9 + 400) ([(o, lr cL 1 f1)] ++ (G1 ++ R1)) [some (.ref b), some (.ref h), some (.ref r), some (.ref o), some (.int (iI ↑i)), none, none] 1484 []) : zG E Q c9 s9 ([(o, lr cL 1 f)] ++ (G ++ R)) [some (.ref b), some (.ref h), some (.ref r), some (.ref o), some (.int (iI ↑i)), none, none] 444 [] := by
  obtain ⟨fsR, hR0⟩ := hrel.r0
  refine z_aload_n (i := 1) C dL_law_444 rfl rfl ?_
  refine z_aload_n (i := 0) C dL_law_445 rfl rfl ?_
  refine z_iload C dL_law_446 rfl ?_
  refine z_iconst (v := iI 1) C dL_law_448 rfl ?_
  refine z_iaddI (v := (↑i) + 1) C dL_law_449 (by omega) ?_
  refine z_sldN C hS (z := (↑i) + 1) (i + 1) (by omega) (by omega) (by omega) dL_law_450 ?_
  refine z_aload_n (i := 0) C dL_law_451 rfl rfl ?_
  refine z_iload C dL_law_452 rfl ?_
  refine z_iconst (v := iI 2) C dL_law_454 rfl ?_
  refine z_iaddI (v := (↑i) + 2) C dL_law_455 (by omega) ?_
  refine z_sldN C hS (z := (↑i) + 2) (i + 2) (by omega) (by omega) (by omega) dL_law_456 ?_
  refine z_aload_n (i := 3) C dL_law_457 rfl rfl ?_
  obtain ⟨PH, PF, hH, hF, hEnd⟩ := pair_use l hl D cI cZ cM cL h r o k0 G R hrel f (xs (i + 1)) (xs (i + 2))
  refine z_callSH (n := 4) (As := [.ref h, .int (xs (i + 1)), .int (xs (i + 2)), .ref o]) (st := []) (fr := R) C hE hH gL_law_L_use rfl ⟨rfl, rfl⟩ (by decide +kernel) ⟨Nat.le_of_ble_eq_true rfl, Nat.le_of_ble_eq_true rfl⟩ rfl rfl (List.Perm.of_eq (List.append_assoc _ _ _).symm) (Nat.le_of_ble_eq_true rfl) ⟨by show c9 + 3 ≤ 601024; omega, by show s9 + 18 ≤ 7293034; omega⟩ dL_law_458 (fun r1 w1 hp1 => ?_)
  obtain ⟨k9, f1, G1, rfl, rfl, hp9⟩ := hEnd r1 w1 hp1
  refine (show zG E Q (c9 + 3) (s9 + 18) ([(o, lr cL 1 f1)] ++ (G1 ++ R)) [some (.ref b), some (.ref h), some (.ref r), some (.ref o), some (.int (iI ↑i)), none, none] 461 [.int (iI k9)] from ?_)
  refine z_istore (lv' := [some (.ref b), some (.ref h), some (.ref r), some (.ref o), some (.int (iI ↑i)), some (.int (iI k9)), none]) C dL_law_461 rfl rfl ?_
  refine z_aload_n (i := 2) C dL_law_463 rfl rfl ?_
  refine z_aload_n (i := 0) C dL_law_464 rfl rfl ?_
  refine z_iload C dL_law_465 rfl ?_
  refine z_iconst (v := iI 1) C dL_law_467 rfl ?_
  refine z_iaddI (v := (↑i) + 1) C dL_law_468 (by omega) ?_
  refine z_sldN C hS (z := (↑i) + 1) (i + 1) (by omega) (by omega) (by omega) dL_law_469 ?_
  refine z_aload_n (i := 0) C dL_law_470 rfl rfl ?_
  refine z_iload C dL_law_471 rfl ?_
  refine z_iconst (v := iI 2) C dL_law_473 rfl ?_
  refine z_iaddI (v := (↑i) + 2) C dL_law_474 (by omega) ?_
  refine z_sldN C hS (z := (↑i) + 2) (i + 2) (by omega) (by omega) (by omega) dL_law_475 ?_
  refine z_callV (n := 2) (As := [.int (xs (i + 1)), .int (xs (i + 2))]) (st := []) (fr := [(o, lr cL 1 f1)] ++ G1) C hE hF gL_law_X5_use rfl ⟨rfl, rfl⟩ (by decide +kernel) ⟨Nat.le_of_ble_eq_true rfl, Nat.le_of_ble_eq_true rfl⟩ rfl rfl ((List.Perm.of_eq (List.append_assoc _ _ _).symm).trans List.perm_append_comm) 0 hR0 rfl rfl (Nat.le_of_ble_eq_true rfl) ⟨by show c9 + 3 + 0 ≤ 601024; omega, by show s9 + 18 + 0 ≤ 7293034; omega⟩ dL_law_476 (fun r2 w2 hp2 => ?_)
  obtain ⟨v9, rfl, hk9, hv9, hrel1⟩ := hp9 r2 w2 hp2
  obtain ⟨fsT, hT0⟩ := hrel1.r0
  have hT9 := REL.thrown l D cL hrel1
  refine z_perm (ws' := [(o, lr cL 1 f1)] ++ (G1 ++ w2)) (List.perm_append_comm.trans (List.Perm.of_eq (List.append_assoc _ _ _))) ?_
  refine (show zG E Q (c9 + 3 + 0) (s9 + 18 + 0) ([(o, lr cL 1 f1)] ++ (G1 ++ w2)) [some (.ref b), some (.ref h), some (.ref r), some (.ref o), some (.int (iI ↑i)), some (.int (iI k9)), none] 479 [.int v9] from ?_)
  refine z_istore (lv' := [some (.ref b), some (.ref h), some (.ref r), some (.ref o), some (.int (iI ↑i)), some (.int (iI k9)), some (.int v9)]) C dL_law_479 rfl rfl ?_
  refine z_aload_n (i := 2) C dL_law_481 rfl rfl ?_
  refine z_callV (n := 0) (As := []) (st := []) (fr := [(o, lr cL 1 f1)] ++ G1) C hE hT9 gL_law_X5_thrown rfl ⟨rfl, rfl⟩ (by decide +kernel) ⟨Nat.le_of_ble_eq_true rfl, Nat.le_of_ble_eq_true rfl⟩ rfl rfl ((List.Perm.of_eq (List.append_assoc _ _ _).symm).trans List.perm_append_comm) 0 hT0 rfl rfl (Nat.le_of_ble_eq_true rfl) ⟨by show c9 + 3 + 0 + 0 ≤ 601024; omega, by show s9 + 18 + 0 + 0 ≤ 7293034; omega⟩ dL_law_482 (fun r3 w3 hp3 => ?_)
  obtain ⟨rfl, rfl⟩ := hp3
  refine z_perm (ws' := [(o, lr cL 1 f1)] ++ (G1 ++ w3)) (List.perm_append_comm.trans (List.Perm.of_eq (List.append_assoc _ _ _))) ?_
  refine (show zG E Q (c9 + 3 + 0 + 0) (s9 + 18 + 0 + 0) ([(o, lr cL 1 f1)] ++ (G1 ++ w3)) [some (.ref b), some (.ref h), some (.ref r), some (.ref o), some (.int (iI ↑i)), some (.int (iI k9)), some (.int v9)] 485 [.int (iI k9)] from ?_)
  refine z_iload C dL_law_485 rfl ?_
  refine z_icmp_eq (tgt := 492) C dL_law_487 (by decide) (fun _ => ?_) (fun h => absurd (rfl) h)
  refine z_iload C dL_law_492 rfl ?_
  refine z_if_neI (tgt := 516) C dL_law_494 (by decide) ⟨by omega, by omega⟩ (fun hz => ?_) (fun hz => ?_)
  · refine z_goto (tgt := 1484) C dL_law_516 (by decide) ?_
    refine z_le (r := [some (.ref b), some (.ref h), some (.ref r), some (.ref o), some (.int (iI ↑i)), none, none]) ⟨Or.inr rfl, Or.inr rfl, Or.inr rfl, Or.inr rfl, Or.inr rfl, Or.inl rfl, Or.inl rfl, trivial⟩ ?_
    exact z_widen (k := c9 + 40) (n := s9 + 400) (by omega) (by omega) (k k9 G1 w3 f1 hrel1)
  · refine z_aload_n (i := 3) C dL_law_497 rfl rfl ?_
    refine z_iconst (v := iI 0) C dL_law_498 rfl ?_
    refine z_laload C 0 rfl (zT_of hE (t0 := 3) rfl) (by omega) (by omega) (by decide) dL_law_499 ?_
    refine z_iload C dL_law_500 rfl ?_
    refine z_if_eq (tgt := 509) C dL_law_502 (by decide) (fun hb => ?_) (fun hb => ?_)
    · refine z_lconst (v := 0) C dL_law_509 (by decide) ?_
      refine z_lcmp C dL_law_510 ?_
      refine z_if_eq (tgt := 516) C dL_law_511 (by decide) (fun _ => ?_) (fun h => absurd (by rw [hv9 hz, show LZ true v9 = 0 by unfold LZ; rw [if_pos rfl, if_pos hb]]; exact lg_same _) h)
      refine z_goto (tgt := 1484) C dL_law_516 (by decide) ?_
      refine z_le (r := [some (.ref b), some (.ref h), some (.ref r), some (.ref o), some (.int (iI ↑i)), none, none]) ⟨Or.inr rfl, Or.inr rfl, Or.inr rfl, Or.inr rfl, Or.inr rfl, Or.inl rfl, Or.inl rfl, trivial⟩ ?_
      exact z_widen (k := c9 + 40) (n := s9 + 400) (by omega) (by omega) (k k9 G1 w3 f1 hrel1)
    · refine z_lconst (v := 1) C dL_law_505 (by decide) ?_
      refine z_goto (tgt := 510) C dL_law_506 (by decide) ?_
      refine z_lcmp C dL_law_510 ?_
      refine z_if_eq (tgt := 516) C dL_law_511 (by decide) (fun _ => ?_) (fun h => absurd (by rw [hv9 hz, show LZ true v9 = 1 by unfold LZ; rw [if_pos rfl, if_neg hb]]; exact lg_same _) h)
      refine z_goto (tgt := 1484) C dL_law_516 (by decide) ?_
      refine z_le (r := [some (.ref b), some (.ref h), some (.ref r), some (.ref o), some (.int (iI ↑i)), none, none]) ⟨Or.inr rfl, Or.inr rfl, Or.inr rfl, Or.inr rfl, Or.inr rfl, Or.inl rfl, Or.inl rfl, trivial⟩ ?_
      exact z_widen (k := c9 + 40) (n := s9 + 400) (by omega) (by omega) (k k9 G1 w3 f1 hrel1)
set_option maxHeartbeats 1000000 in
set_option maxRecDepth 100000 in
theorem law_setRoll {E : zE} {Q : State → Prop} {l : Launch} (hl : l.stackTraces = false) {D : va_G} {cI cZ cM cL : ClassId} {b h r o L i : Nat} {xs : Nat → Int32} {k0 : Int} {G R : va_W} {f : Int → Int64} {c9 s9 : Nat} (C : zC E cL_law RL wsL_law room_1) (hE : zOf E l D (zTy cI cZ cM cL)) (hS : zScr E b L xs) (hL : L ≤ 2560) (hi : i + 5 ≤ L) (hrel : REL cI cZ cM h r k0 G R) (hc9 : c9 + 40 ≤ 601024) (hs9 : s9 + 400 ≤ 7293034) (k : ∀ (k1 : Int) (G1 R1 : va_W) (f1 : Int → Int64), REL cI cZ cM h r k1 G1 R1 → zG E Q (c9 + 40) (s9 + 400) ([(o, lr cL 1 f1)] ++ (G1 ++ R1)) [some (.ref b), some (.ref h), some (.ref r), some (.ref o), some (.int (iI ↑i)), none, none] 1484 []) : zG E Q c9 s9 ([(o, lr cL 1 f)] ++ (G ++ R)) [some (.ref b), some (.ref h), some (.ref r), some (.ref o), some (.int (iI ↑i)), none, none] 519 [] := by
  obtain ⟨fsR, hR0⟩ := hrel.r0
  refine z_aload_n (i := 1) C dL_law_519 rfl rfl ?_
  refine z_aload_n (i := 0) C dL_law_520 rfl rfl ?_
  refine z_iload C dL_law_521 rfl ?_
  refine z_iconst (v := iI 1) C dL_law_523 rfl ?_
  refine z_iaddI (v := (↑i) + 1) C dL_law_524 (by omega) ?_
  refine z_sldN C hS (z := (↑i) + 1) (i + 1) (by omega) (by omega) (by omega) dL_law_525 ?_
  refine z_aload_n (i := 0) C dL_law_526 rfl rfl ?_
  refine z_iload C dL_law_527 rfl ?_
  refine z_iconst (v := iI 2) C dL_law_529 rfl ?_
  refine z_iaddI (v := (↑i) + 2) C dL_law_530 (by omega) ?_
  refine z_sldN C hS (z := (↑i) + 2) (i + 2) (by omega) (by omega) (by omega) dL_law_531 ?_
  refine z_aload_n (i := 3) C dL_law_532 rfl rfl ?_
  obtain ⟨PH, PF, hH, hF, hEnd⟩ := pair_setRoll l hl D cI cZ cM cL h r o k0 G R hrel f (xs (i + 1)) (xs (i + 2))
  refine z_callSH (n := 4) (As := [.ref h, .int (xs (i + 1)), .int (xs (i + 2)), .ref o]) (st := []) (fr := R) C hE hH gL_law_L_setRoll rfl ⟨rfl, rfl⟩ (by decide +kernel) ⟨Nat.le_of_ble_eq_true rfl, Nat.le_of_ble_eq_true rfl⟩ rfl rfl (List.Perm.of_eq (List.append_assoc _ _ _).symm) (Nat.le_of_ble_eq_true rfl) ⟨by show c9 + 1 ≤ 601024; omega, by show s9 + 6 ≤ 7293034; omega⟩ dL_law_533 (fun r1 w1 hp1 => ?_)
  obtain ⟨k9, f1, G1, rfl, rfl, hp9⟩ := hEnd r1 w1 hp1
  refine (show zG E Q (c9 + 1) (s9 + 6) ([(o, lr cL 1 f1)] ++ (G1 ++ R)) [some (.ref b), some (.ref h), some (.ref r), some (.ref o), some (.int (iI ↑i)), none, none] 536 [.int (iI k9)] from ?_)
  refine z_istore (lv' := [some (.ref b), some (.ref h), some (.ref r), some (.ref o), some (.int (iI ↑i)), some (.int (iI k9)), none]) C dL_law_536 rfl rfl ?_
  refine z_aload_n (i := 2) C dL_law_538 rfl rfl ?_
  refine z_aload_n (i := 0) C dL_law_539 rfl rfl ?_
  refine z_iload C dL_law_540 rfl ?_
  refine z_iconst (v := iI 1) C dL_law_542 rfl ?_
  refine z_iaddI (v := (↑i) + 1) C dL_law_543 (by omega) ?_
  refine z_sldN C hS (z := (↑i) + 1) (i + 1) (by omega) (by omega) (by omega) dL_law_544 ?_
  refine z_aload_n (i := 0) C dL_law_545 rfl rfl ?_
  refine z_iload C dL_law_546 rfl ?_
  refine z_iconst (v := iI 2) C dL_law_548 rfl ?_
  refine z_iaddI (v := (↑i) + 2) C dL_law_549 (by omega) ?_
  refine z_sldN C hS (z := (↑i) + 2) (i + 2) (by omega) (by omega) (by omega) dL_law_550 ?_
  refine z_callV (n := 2) (As := [.int (xs (i + 1)), .int (xs (i + 2))]) (st := []) (fr := [(o, lr cL 1 f1)] ++ G1) C hE hF gL_law_X5_setRoll rfl ⟨rfl, rfl⟩ (by decide +kernel) ⟨Nat.le_of_ble_eq_true rfl, Nat.le_of_ble_eq_true rfl⟩ rfl rfl ((List.Perm.of_eq (List.append_assoc _ _ _).symm).trans List.perm_append_comm) 0 hR0 rfl rfl (Nat.le_of_ble_eq_true rfl) ⟨by show c9 + 1 + 0 ≤ 601024; omega, by show s9 + 6 + 0 ≤ 7293034; omega⟩ dL_law_551 (fun r2 w2 hp2 => ?_)
  obtain ⟨v9, rfl, hk9, hv9, hrel1⟩ := hp9 r2 w2 hp2
  obtain ⟨fsT, hT0⟩ := hrel1.r0
  have hT9 := REL.thrown l D cL hrel1
  refine z_perm (ws' := [(o, lr cL 1 f1)] ++ (G1 ++ w2)) (List.perm_append_comm.trans (List.Perm.of_eq (List.append_assoc _ _ _))) ?_
  refine (show zG E Q (c9 + 1 + 0) (s9 + 6 + 0) ([(o, lr cL 1 f1)] ++ (G1 ++ w2)) [some (.ref b), some (.ref h), some (.ref r), some (.ref o), some (.int (iI ↑i)), some (.int (iI k9)), none] 554 [.int v9] from ?_)
  refine z_istore (lv' := [some (.ref b), some (.ref h), some (.ref r), some (.ref o), some (.int (iI ↑i)), some (.int (iI k9)), some (.int v9)]) C dL_law_554 rfl rfl ?_
  refine z_aload_n (i := 2) C dL_law_556 rfl rfl ?_
  refine z_callV (n := 0) (As := []) (st := []) (fr := [(o, lr cL 1 f1)] ++ G1) C hE hT9 gL_law_X5_thrown rfl ⟨rfl, rfl⟩ (by decide +kernel) ⟨Nat.le_of_ble_eq_true rfl, Nat.le_of_ble_eq_true rfl⟩ rfl rfl ((List.Perm.of_eq (List.append_assoc _ _ _).symm).trans List.perm_append_comm) 0 hT0 rfl rfl (Nat.le_of_ble_eq_true rfl) ⟨by show c9 + 1 + 0 + 0 ≤ 601024; omega, by show s9 + 6 + 0 + 0 ≤ 7293034; omega⟩ dL_law_557 (fun r3 w3 hp3 => ?_)
  obtain ⟨rfl, rfl⟩ := hp3
  refine z_perm (ws' := [(o, lr cL 1 f1)] ++ (G1 ++ w3)) (List.perm_append_comm.trans (List.Perm.of_eq (List.append_assoc _ _ _))) ?_
  refine (show zG E Q (c9 + 1 + 0 + 0) (s9 + 6 + 0 + 0) ([(o, lr cL 1 f1)] ++ (G1 ++ w3)) [some (.ref b), some (.ref h), some (.ref r), some (.ref o), some (.int (iI ↑i)), some (.int (iI k9)), some (.int v9)] 560 [.int (iI k9)] from ?_)
  refine z_iload C dL_law_560 rfl ?_
  refine z_icmp_eq (tgt := 567) C dL_law_562 (by decide) (fun _ => ?_) (fun h => absurd (rfl) h)
  refine z_iload C dL_law_567 rfl ?_
  refine z_if_neI (tgt := 584) C dL_law_569 (by decide) ⟨by omega, by omega⟩ (fun hz => ?_) (fun hz => ?_)
  · refine z_goto (tgt := 1484) C dL_law_584 (by decide) ?_
    refine z_le (r := [some (.ref b), some (.ref h), some (.ref r), some (.ref o), some (.int (iI ↑i)), none, none]) ⟨Or.inr rfl, Or.inr rfl, Or.inr rfl, Or.inr rfl, Or.inr rfl, Or.inl rfl, Or.inl rfl, trivial⟩ ?_
    exact z_widen (k := c9 + 40) (n := s9 + 400) (by omega) (by omega) (k k9 G1 w3 f1 hrel1)
  · refine z_aload_n (i := 3) C dL_law_572 rfl rfl ?_
    refine z_iconst (v := iI 0) C dL_law_573 rfl ?_
    refine z_laload C 0 rfl (zT_of hE (t0 := 3) rfl) (by omega) (by omega) (by decide) dL_law_574 ?_
    refine z_iload C dL_law_575 rfl ?_
    refine z_i2l C dL_law_577 rfl ?_
    refine z_lcmp C dL_law_578 ?_
    refine z_if_eq (tgt := 584) C dL_law_579 (by decide) (fun _ => ?_) (fun h => absurd (by rw [hv9 hz]; exact lg_same _) h)
    refine z_goto (tgt := 1484) C dL_law_584 (by decide) ?_
    refine z_le (r := [some (.ref b), some (.ref h), some (.ref r), some (.ref o), some (.int (iI ↑i)), none, none]) ⟨Or.inr rfl, Or.inr rfl, Or.inr rfl, Or.inr rfl, Or.inr rfl, Or.inl rfl, Or.inl rfl, trivial⟩ ?_
    exact z_widen (k := c9 + 40) (n := s9 + 400) (by omega) (by omega) (k k9 G1 w3 f1 hrel1)
set_option maxHeartbeats 1000000 in
set_option maxRecDepth 100000 in
theorem law_teach {E : zE} {Q : State → Prop} {l : Launch} (hl : l.stackTraces = false) {D : va_G} {cI cZ cM cL : ClassId} {b h r o L i : Nat} {xs : Nat → Int32} {k0 : Int} {G R : va_W} {f : Int → Int64} {c9 s9 : Nat} (C : zC E cL_law RL wsL_law room_1) (hE : zOf E l D (zTy cI cZ cM cL)) (hS : zScr E b L xs) (hL : L ≤ 2560) (hi : i + 5 ≤ L) (hrel : REL cI cZ cM h r k0 G R) (hc9 : c9 + 40 ≤ 601024) (hs9 : s9 + 400 ≤ 7293034) (k : ∀ (k1 : Int) (G1 R1 : va_W) (f1 : Int → Int64), REL cI cZ cM h r k1 G1 R1 → zG E Q (c9 + 40) (s9 + 400) ([(o, lr cL 1 f1)] ++ (G1 ++ R1)) [some (.ref b), some (.ref h), some (.ref r), some (.ref o), some (.int (iI ↑i)), none, none] 1484 []) : zG E Q c9 s9 ([(o, lr cL 1 f)] ++ (G ++ R)) [some (.ref b), some (.ref h), some (.ref r), some (.ref o), some (.int (iI ↑i)), none, none] 587 [] := by
  obtain ⟨fsR, hR0⟩ := hrel.r0
  refine z_aload_n (i := 1) C dL_law_587 rfl rfl ?_
  refine z_aload_n (i := 0) C dL_law_588 rfl rfl ?_
  refine z_iload C dL_law_589 rfl ?_
  refine z_iconst (v := iI 1) C dL_law_591 rfl ?_
  refine z_iaddI (v := (↑i) + 1) C dL_law_592 (by omega) ?_
  refine z_sldN C hS (z := (↑i) + 1) (i + 1) (by omega) (by omega) (by omega) dL_law_593 ?_
  refine z_aload_n (i := 0) C dL_law_594 rfl rfl ?_
  refine z_iload C dL_law_595 rfl ?_
  refine z_iconst (v := iI 2) C dL_law_597 rfl ?_
  refine z_iaddI (v := (↑i) + 2) C dL_law_598 (by omega) ?_
  refine z_sldN C hS (z := (↑i) + 2) (i + 2) (by omega) (by omega) (by omega) dL_law_599 ?_
  refine z_aload_n (i := 3) C dL_law_600 rfl rfl ?_
  obtain ⟨PH, PF, hH, hF, hEnd⟩ := pair_teach l hl D cI cZ cM cL h r o k0 G R hrel f (xs (i + 1)) (xs (i + 2))
  refine z_callSH (n := 4) (As := [.ref h, .int (xs (i + 1)), .int (xs (i + 2)), .ref o]) (st := []) (fr := R) C hE hH gL_law_L_teach rfl ⟨rfl, rfl⟩ (by decide +kernel) ⟨Nat.le_of_ble_eq_true rfl, Nat.le_of_ble_eq_true rfl⟩ rfl rfl (List.Perm.of_eq (List.append_assoc _ _ _).symm) (Nat.le_of_ble_eq_true rfl) ⟨by show c9 + 3 ≤ 601024; omega, by show s9 + 18 ≤ 7293034; omega⟩ dL_law_601 (fun r1 w1 hp1 => ?_)
  obtain ⟨k9, f1, G1, rfl, rfl, hp9⟩ := hEnd r1 w1 hp1
  refine (show zG E Q (c9 + 3) (s9 + 18) ([(o, lr cL 1 f1)] ++ (G1 ++ R)) [some (.ref b), some (.ref h), some (.ref r), some (.ref o), some (.int (iI ↑i)), none, none] 604 [.int (iI k9)] from ?_)
  refine z_istore (lv' := [some (.ref b), some (.ref h), some (.ref r), some (.ref o), some (.int (iI ↑i)), some (.int (iI k9)), none]) C dL_law_604 rfl rfl ?_
  refine z_aload_n (i := 2) C dL_law_606 rfl rfl ?_
  refine z_aload_n (i := 0) C dL_law_607 rfl rfl ?_
  refine z_iload C dL_law_608 rfl ?_
  refine z_iconst (v := iI 1) C dL_law_610 rfl ?_
  refine z_iaddI (v := (↑i) + 1) C dL_law_611 (by omega) ?_
  refine z_sldN C hS (z := (↑i) + 1) (i + 1) (by omega) (by omega) (by omega) dL_law_612 ?_
  refine z_aload_n (i := 0) C dL_law_613 rfl rfl ?_
  refine z_iload C dL_law_614 rfl ?_
  refine z_iconst (v := iI 2) C dL_law_616 rfl ?_
  refine z_iaddI (v := (↑i) + 2) C dL_law_617 (by omega) ?_
  refine z_sldN C hS (z := (↑i) + 2) (i + 2) (by omega) (by omega) (by omega) dL_law_618 ?_
  refine z_callV (n := 2) (As := [.int (xs (i + 1)), .int (xs (i + 2))]) (st := []) (fr := [(o, lr cL 1 f1)] ++ G1) C hE hF gL_law_X5_teach rfl ⟨rfl, rfl⟩ (by decide +kernel) ⟨Nat.le_of_ble_eq_true rfl, Nat.le_of_ble_eq_true rfl⟩ rfl rfl ((List.Perm.of_eq (List.append_assoc _ _ _).symm).trans List.perm_append_comm) 0 hR0 rfl rfl (Nat.le_of_ble_eq_true rfl) ⟨by show c9 + 3 + 0 ≤ 601024; omega, by show s9 + 18 + 0 ≤ 7293034; omega⟩ dL_law_619 (fun r2 w2 hp2 => ?_)
  obtain ⟨v9, rfl, hk9, hv9, hrel1⟩ := hp9 r2 w2 hp2
  obtain ⟨fsT, hT0⟩ := hrel1.r0
  have hT9 := REL.thrown l D cL hrel1
  refine z_perm (ws' := [(o, lr cL 1 f1)] ++ (G1 ++ w2)) (List.perm_append_comm.trans (List.Perm.of_eq (List.append_assoc _ _ _))) ?_
  refine (show zG E Q (c9 + 3 + 0) (s9 + 18 + 0) ([(o, lr cL 1 f1)] ++ (G1 ++ w2)) [some (.ref b), some (.ref h), some (.ref r), some (.ref o), some (.int (iI ↑i)), some (.int (iI k9)), none] 622 [.int v9] from ?_)
  refine z_istore (lv' := [some (.ref b), some (.ref h), some (.ref r), some (.ref o), some (.int (iI ↑i)), some (.int (iI k9)), some (.int v9)]) C dL_law_622 rfl rfl ?_
  refine z_aload_n (i := 2) C dL_law_624 rfl rfl ?_
  refine z_callV (n := 0) (As := []) (st := []) (fr := [(o, lr cL 1 f1)] ++ G1) C hE hT9 gL_law_X5_thrown rfl ⟨rfl, rfl⟩ (by decide +kernel) ⟨Nat.le_of_ble_eq_true rfl, Nat.le_of_ble_eq_true rfl⟩ rfl rfl ((List.Perm.of_eq (List.append_assoc _ _ _).symm).trans List.perm_append_comm) 0 hT0 rfl rfl (Nat.le_of_ble_eq_true rfl) ⟨by show c9 + 3 + 0 + 0 ≤ 601024; omega, by show s9 + 18 + 0 + 0 ≤ 7293034; omega⟩ dL_law_625 (fun r3 w3 hp3 => ?_)
  obtain ⟨rfl, rfl⟩ := hp3
  refine z_perm (ws' := [(o, lr cL 1 f1)] ++ (G1 ++ w3)) (List.perm_append_comm.trans (List.Perm.of_eq (List.append_assoc _ _ _))) ?_
  refine (show zG E Q (c9 + 3 + 0 + 0) (s9 + 18 + 0 + 0) ([(o, lr cL 1 f1)] ++ (G1 ++ w3)) [some (.ref b), some (.ref h), some (.ref r), some (.ref o), some (.int (iI ↑i)), some (.int (iI k9)), some (.int v9)] 628 [.int (iI k9)] from ?_)
  refine z_iload C dL_law_628 rfl ?_
  refine z_icmp_eq (tgt := 635) C dL_law_630 (by decide) (fun _ => ?_) (fun h => absurd (rfl) h)
  refine z_iload C dL_law_635 rfl ?_
  refine z_if_neI (tgt := 652) C dL_law_637 (by decide) ⟨by omega, by omega⟩ (fun hz => ?_) (fun hz => ?_)
  · refine z_goto (tgt := 1484) C dL_law_652 (by decide) ?_
    refine z_le (r := [some (.ref b), some (.ref h), some (.ref r), some (.ref o), some (.int (iI ↑i)), none, none]) ⟨Or.inr rfl, Or.inr rfl, Or.inr rfl, Or.inr rfl, Or.inr rfl, Or.inl rfl, Or.inl rfl, trivial⟩ ?_
    exact z_widen (k := c9 + 40) (n := s9 + 400) (by omega) (by omega) (k k9 G1 w3 f1 hrel1)
  · refine z_aload_n (i := 3) C dL_law_640 rfl rfl ?_
    refine z_iconst (v := iI 0) C dL_law_641 rfl ?_
    refine z_laload C 0 rfl (zT_of hE (t0 := 3) rfl) (by omega) (by omega) (by decide) dL_law_642 ?_
    refine z_iload C dL_law_643 rfl ?_
    refine z_i2l C dL_law_645 rfl ?_
    refine z_lcmp C dL_law_646 ?_
    refine z_if_eq (tgt := 652) C dL_law_647 (by decide) (fun _ => ?_) (fun h => absurd (by rw [hv9 hz]; exact lg_same _) h)
    refine z_goto (tgt := 1484) C dL_law_652 (by decide) ?_
    refine z_le (r := [some (.ref b), some (.ref h), some (.ref r), some (.ref o), some (.int (iI ↑i)), none, none]) ⟨Or.inr rfl, Or.inr rfl, Or.inr rfl, Or.inr rfl, Or.inr rfl, Or.inl rfl, Or.inl rfl, trivial⟩ ?_
    exact z_widen (k := c9 + 40) (n := s9 + 400) (by omega) (by omega) (k k9 G1 w3 f1 hrel1)
set_option maxHeartbeats 1000000 in
set_option maxRecDepth 100000 in
theorem law_steps {E : zE} {Q : State → Prop} {l : Launch} (hl : l.stackTraces = false) {D : va_G} {cI cZ cM cL : ClassId} {b h r o L i : Nat} {xs : Nat → Int32} {k0 : Int} {G R : va_W} {f : Int → Int64} {c9 s9 : Nat} (C : zC E cL_law RL wsL_law room_1) (hE : zOf E l D (zTy cI cZ cM cL)) (hS : zScr E b L xs) (hL : L ≤ 2560) (hi : i + 5 ≤ L) (hrel : REL cI cZ cM h r k0 G R) (hc9 : c9 + 40 ≤ 601024) (hs9 : s9 + 400 ≤ 7293034) (k : ∀ (k1 : Int) (G1 R1 : va_W) (f1 : Int → Int64), REL cI cZ cM h r k1 G1 R1 → zG E Q (c9 + 40) (s9 + 400) ([(o, lr cL 1 f1)] ++ (G1 ++ R1)) [some (.ref b), some (.ref h), some (.ref r), some (.ref o), some (.int (iI ↑i)), none, none] 1484 []) : zG E Q c9 s9 ([(o, lr cL 1 f)] ++ (G ++ R)) [some (.ref b), some (.ref h), some (.ref r), some (.ref o), some (.int (iI ↑i)), none, none] 668 [] := by
  obtain ⟨fsR, hR0⟩ := hrel.r0
  refine z_aload_n (i := 1) C dL_law_668 rfl rfl ?_
  refine z_aload_n (i := 0) C dL_law_669 rfl rfl ?_
  refine z_iload C dL_law_670 rfl ?_
  refine z_iconst (v := iI 1) C dL_law_672 rfl ?_
  refine z_iaddI (v := (↑i) + 1) C dL_law_673 (by omega) ?_
  refine z_sldN C hS (z := (↑i) + 1) (i + 1) (by omega) (by omega) (by omega) dL_law_674 ?_
  refine z_aload_n (i := 3) C dL_law_675 rfl rfl ?_
  obtain ⟨PH, PF, hH, hF, hEnd⟩ := pair_steps l hl D cI cZ cM cL h r o k0 G R hrel f (xs (i + 1))
  refine z_callSH (n := 3) (As := [.ref h, .int (xs (i + 1)), .ref o]) (st := []) (fr := R) C hE hH gL_law_L_steps rfl ⟨rfl, rfl⟩ (by decide +kernel) ⟨Nat.le_of_ble_eq_true rfl, Nat.le_of_ble_eq_true rfl⟩ rfl rfl (List.Perm.of_eq (List.append_assoc _ _ _).symm) (Nat.le_of_ble_eq_true rfl) ⟨by show c9 + 2 ≤ 601024; omega, by show s9 + 12 ≤ 7293034; omega⟩ dL_law_676 (fun r1 w1 hp1 => ?_)
  obtain ⟨k9, f1, G1, rfl, rfl, hp9⟩ := hEnd r1 w1 hp1
  refine (show zG E Q (c9 + 2) (s9 + 12) ([(o, lr cL 1 f1)] ++ (G1 ++ R)) [some (.ref b), some (.ref h), some (.ref r), some (.ref o), some (.int (iI ↑i)), none, none] 679 [.int (iI k9)] from ?_)
  refine z_istore (lv' := [some (.ref b), some (.ref h), some (.ref r), some (.ref o), some (.int (iI ↑i)), some (.int (iI k9)), none]) C dL_law_679 rfl rfl ?_
  refine z_aload_n (i := 2) C dL_law_681 rfl rfl ?_
  refine z_aload_n (i := 0) C dL_law_682 rfl rfl ?_
  refine z_iload C dL_law_683 rfl ?_
  refine z_iconst (v := iI 1) C dL_law_685 rfl ?_
  refine z_iaddI (v := (↑i) + 1) C dL_law_686 (by omega) ?_
  refine z_sldN C hS (z := (↑i) + 1) (i + 1) (by omega) (by omega) (by omega) dL_law_687 ?_
  refine z_callV (n := 1) (As := [.int (xs (i + 1))]) (st := []) (fr := [(o, lr cL 1 f1)] ++ G1) C hE hF gL_law_X5_steps rfl ⟨rfl, rfl⟩ (by decide +kernel) ⟨Nat.le_of_ble_eq_true rfl, Nat.le_of_ble_eq_true rfl⟩ rfl rfl ((List.Perm.of_eq (List.append_assoc _ _ _).symm).trans List.perm_append_comm) 0 hR0 rfl rfl (Nat.le_of_ble_eq_true rfl) ⟨by show c9 + 2 + 0 ≤ 601024; omega, by show s9 + 12 + 0 ≤ 7293034; omega⟩ dL_law_688 (fun r2 w2 hp2 => ?_)
  obtain ⟨v9, rfl, hk9, hv9, hrel1⟩ := hp9 r2 w2 hp2
  obtain ⟨fsT, hT0⟩ := hrel1.r0
  have hT9 := REL.thrown l D cL hrel1
  refine z_perm (ws' := [(o, lr cL 1 f1)] ++ (G1 ++ w2)) (List.perm_append_comm.trans (List.Perm.of_eq (List.append_assoc _ _ _))) ?_
  refine (show zG E Q (c9 + 2 + 0) (s9 + 12 + 0) ([(o, lr cL 1 f1)] ++ (G1 ++ w2)) [some (.ref b), some (.ref h), some (.ref r), some (.ref o), some (.int (iI ↑i)), some (.int (iI k9)), none] 691 [.int v9] from ?_)
  refine z_istore (lv' := [some (.ref b), some (.ref h), some (.ref r), some (.ref o), some (.int (iI ↑i)), some (.int (iI k9)), some (.int v9)]) C dL_law_691 rfl rfl ?_
  refine z_aload_n (i := 2) C dL_law_693 rfl rfl ?_
  refine z_callV (n := 0) (As := []) (st := []) (fr := [(o, lr cL 1 f1)] ++ G1) C hE hT9 gL_law_X5_thrown rfl ⟨rfl, rfl⟩ (by decide +kernel) ⟨Nat.le_of_ble_eq_true rfl, Nat.le_of_ble_eq_true rfl⟩ rfl rfl ((List.Perm.of_eq (List.append_assoc _ _ _).symm).trans List.perm_append_comm) 0 hT0 rfl rfl (Nat.le_of_ble_eq_true rfl) ⟨by show c9 + 2 + 0 + 0 ≤ 601024; omega, by show s9 + 12 + 0 + 0 ≤ 7293034; omega⟩ dL_law_694 (fun r3 w3 hp3 => ?_)
  obtain ⟨rfl, rfl⟩ := hp3
  refine z_perm (ws' := [(o, lr cL 1 f1)] ++ (G1 ++ w3)) (List.perm_append_comm.trans (List.Perm.of_eq (List.append_assoc _ _ _))) ?_
  refine (show zG E Q (c9 + 2 + 0 + 0) (s9 + 12 + 0 + 0) ([(o, lr cL 1 f1)] ++ (G1 ++ w3)) [some (.ref b), some (.ref h), some (.ref r), some (.ref o), some (.int (iI ↑i)), some (.int (iI k9)), some (.int v9)] 697 [.int (iI k9)] from ?_)
  refine z_iload C dL_law_697 rfl ?_
  refine z_icmp_eq (tgt := 704) C dL_law_699 (by decide) (fun _ => ?_) (fun h => absurd (rfl) h)
  refine z_iload C dL_law_704 rfl ?_
  refine z_if_neI (tgt := 721) C dL_law_706 (by decide) ⟨by omega, by omega⟩ (fun hz => ?_) (fun hz => ?_)
  · refine z_goto (tgt := 1484) C dL_law_721 (by decide) ?_
    refine z_le (r := [some (.ref b), some (.ref h), some (.ref r), some (.ref o), some (.int (iI ↑i)), none, none]) ⟨Or.inr rfl, Or.inr rfl, Or.inr rfl, Or.inr rfl, Or.inr rfl, Or.inl rfl, Or.inl rfl, trivial⟩ ?_
    exact z_widen (k := c9 + 40) (n := s9 + 400) (by omega) (by omega) (k k9 G1 w3 f1 hrel1)
  · refine z_aload_n (i := 3) C dL_law_709 rfl rfl ?_
    refine z_iconst (v := iI 0) C dL_law_710 rfl ?_
    refine z_laload C 0 rfl (zT_of hE (t0 := 3) rfl) (by omega) (by omega) (by decide) dL_law_711 ?_
    refine z_iload C dL_law_712 rfl ?_
    refine z_i2l C dL_law_714 rfl ?_
    refine z_lcmp C dL_law_715 ?_
    refine z_if_eq (tgt := 721) C dL_law_716 (by decide) (fun _ => ?_) (fun h => absurd (by rw [hv9 hz]; exact lg_same _) h)
    refine z_goto (tgt := 1484) C dL_law_721 (by decide) ?_
    refine z_le (r := [some (.ref b), some (.ref h), some (.ref r), some (.ref o), some (.int (iI ↑i)), none, none]) ⟨Or.inr rfl, Or.inr rfl, Or.inr rfl, Or.inr rfl, Or.inr rfl, Or.inl rfl, Or.inl rfl, trivial⟩ ?_
    exact z_widen (k := c9 + 40) (n := s9 + 400) (by omega) (by omega) (k k9 G1 w3 f1 hrel1)
set_option maxHeartbeats 1000000 in
set_option maxRecDepth 100000 in
theorem law_places {E : zE} {Q : State → Prop} {l : Launch} (hl : l.stackTraces = false) {D : va_G} {cI cZ cM cL : ClassId} {b h r o L i : Nat} {xs : Nat → Int32} {k0 : Int} {G R : va_W} {f : Int → Int64} {c9 s9 : Nat} (C : zC E cL_law RL wsL_law room_1) (hE : zOf E l D (zTy cI cZ cM cL)) (hS : zScr E b L xs) (hL : L ≤ 2560) (hi : i + 5 ≤ L) (hrel : REL cI cZ cM h r k0 G R) (hc9 : c9 + 40 ≤ 601024) (hs9 : s9 + 400 ≤ 7293034) (k : ∀ (k1 : Int) (G1 R1 : va_W) (f1 : Int → Int64), REL cI cZ cM h r k1 G1 R1 → zG E Q (c9 + 40) (s9 + 400) ([(o, lr cL 1 f1)] ++ (G1 ++ R1)) [some (.ref b), some (.ref h), some (.ref r), some (.ref o), some (.int (iI ↑i)), none, none] 1484 []) : zG E Q c9 s9 ([(o, lr cL 1 f)] ++ (G ++ R)) [some (.ref b), some (.ref h), some (.ref r), some (.ref o), some (.int (iI ↑i)), none, none] 724 [] := by
  obtain ⟨fsR, hR0⟩ := hrel.r0
  refine z_aload_n (i := 1) C dL_law_724 rfl rfl ?_
  refine z_aload_n (i := 0) C dL_law_725 rfl rfl ?_
  refine z_iload C dL_law_726 rfl ?_
  refine z_iconst (v := iI 1) C dL_law_728 rfl ?_
  refine z_iaddI (v := (↑i) + 1) C dL_law_729 (by omega) ?_
  refine z_sldN C hS (z := (↑i) + 1) (i + 1) (by omega) (by omega) (by omega) dL_law_730 ?_
  refine z_aload_n (i := 3) C dL_law_731 rfl rfl ?_
  obtain ⟨PH, PF, hH, hF, hEnd⟩ := pair_places l hl D cI cZ cM cL h r o k0 G R hrel f (xs (i + 1))
  refine z_callSH (n := 3) (As := [.ref h, .int (xs (i + 1)), .ref o]) (st := []) (fr := R) C hE hH gL_law_L_places rfl ⟨rfl, rfl⟩ (by decide +kernel) ⟨Nat.le_of_ble_eq_true rfl, Nat.le_of_ble_eq_true rfl⟩ rfl rfl (List.Perm.of_eq (List.append_assoc _ _ _).symm) (Nat.le_of_ble_eq_true rfl) ⟨by show c9 + 2 ≤ 601024; omega, by show s9 + 12 ≤ 7293034; omega⟩ dL_law_732 (fun r1 w1 hp1 => ?_)
  obtain ⟨k9, f1, G1, rfl, rfl, hp9⟩ := hEnd r1 w1 hp1
  refine (show zG E Q (c9 + 2) (s9 + 12) ([(o, lr cL 1 f1)] ++ (G1 ++ R)) [some (.ref b), some (.ref h), some (.ref r), some (.ref o), some (.int (iI ↑i)), none, none] 735 [.int (iI k9)] from ?_)
  refine z_istore (lv' := [some (.ref b), some (.ref h), some (.ref r), some (.ref o), some (.int (iI ↑i)), some (.int (iI k9)), none]) C dL_law_735 rfl rfl ?_
  refine z_aload_n (i := 2) C dL_law_737 rfl rfl ?_
  refine z_aload_n (i := 0) C dL_law_738 rfl rfl ?_
  refine z_iload C dL_law_739 rfl ?_
  refine z_iconst (v := iI 1) C dL_law_741 rfl ?_
  refine z_iaddI (v := (↑i) + 1) C dL_law_742 (by omega) ?_
  refine z_sldN C hS (z := (↑i) + 1) (i + 1) (by omega) (by omega) (by omega) dL_law_743 ?_
  refine z_callV (n := 1) (As := [.int (xs (i + 1))]) (st := []) (fr := [(o, lr cL 1 f1)] ++ G1) C hE hF gL_law_X5_places rfl ⟨rfl, rfl⟩ (by decide +kernel) ⟨Nat.le_of_ble_eq_true rfl, Nat.le_of_ble_eq_true rfl⟩ rfl rfl ((List.Perm.of_eq (List.append_assoc _ _ _).symm).trans List.perm_append_comm) 0 hR0 rfl rfl (Nat.le_of_ble_eq_true rfl) ⟨by show c9 + 2 + 0 ≤ 601024; omega, by show s9 + 12 + 0 ≤ 7293034; omega⟩ dL_law_744 (fun r2 w2 hp2 => ?_)
  obtain ⟨v9, rfl, hk9, hv9, hrel1⟩ := hp9 r2 w2 hp2
  obtain ⟨fsT, hT0⟩ := hrel1.r0
  have hT9 := REL.thrown l D cL hrel1
  refine z_perm (ws' := [(o, lr cL 1 f1)] ++ (G1 ++ w2)) (List.perm_append_comm.trans (List.Perm.of_eq (List.append_assoc _ _ _))) ?_
  refine (show zG E Q (c9 + 2 + 0) (s9 + 12 + 0) ([(o, lr cL 1 f1)] ++ (G1 ++ w2)) [some (.ref b), some (.ref h), some (.ref r), some (.ref o), some (.int (iI ↑i)), some (.int (iI k9)), none] 747 [.int v9] from ?_)
  refine z_istore (lv' := [some (.ref b), some (.ref h), some (.ref r), some (.ref o), some (.int (iI ↑i)), some (.int (iI k9)), some (.int v9)]) C dL_law_747 rfl rfl ?_
  refine z_aload_n (i := 2) C dL_law_749 rfl rfl ?_
  refine z_callV (n := 0) (As := []) (st := []) (fr := [(o, lr cL 1 f1)] ++ G1) C hE hT9 gL_law_X5_thrown rfl ⟨rfl, rfl⟩ (by decide +kernel) ⟨Nat.le_of_ble_eq_true rfl, Nat.le_of_ble_eq_true rfl⟩ rfl rfl ((List.Perm.of_eq (List.append_assoc _ _ _).symm).trans List.perm_append_comm) 0 hT0 rfl rfl (Nat.le_of_ble_eq_true rfl) ⟨by show c9 + 2 + 0 + 0 ≤ 601024; omega, by show s9 + 12 + 0 + 0 ≤ 7293034; omega⟩ dL_law_750 (fun r3 w3 hp3 => ?_)
  obtain ⟨rfl, rfl⟩ := hp3
  refine z_perm (ws' := [(o, lr cL 1 f1)] ++ (G1 ++ w3)) (List.perm_append_comm.trans (List.Perm.of_eq (List.append_assoc _ _ _))) ?_
  refine (show zG E Q (c9 + 2 + 0 + 0) (s9 + 12 + 0 + 0) ([(o, lr cL 1 f1)] ++ (G1 ++ w3)) [some (.ref b), some (.ref h), some (.ref r), some (.ref o), some (.int (iI ↑i)), some (.int (iI k9)), some (.int v9)] 753 [.int (iI k9)] from ?_)
  refine z_iload C dL_law_753 rfl ?_
  refine z_icmp_eq (tgt := 760) C dL_law_755 (by decide) (fun _ => ?_) (fun h => absurd (rfl) h)
  refine z_iload C dL_law_760 rfl ?_
  refine z_if_neI (tgt := 777) C dL_law_762 (by decide) ⟨by omega, by omega⟩ (fun hz => ?_) (fun hz => ?_)
  · refine z_goto (tgt := 1484) C dL_law_777 (by decide) ?_
    refine z_le (r := [some (.ref b), some (.ref h), some (.ref r), some (.ref o), some (.int (iI ↑i)), none, none]) ⟨Or.inr rfl, Or.inr rfl, Or.inr rfl, Or.inr rfl, Or.inr rfl, Or.inl rfl, Or.inl rfl, trivial⟩ ?_
    exact z_widen (k := c9 + 40) (n := s9 + 400) (by omega) (by omega) (k k9 G1 w3 f1 hrel1)
  · refine z_aload_n (i := 3) C dL_law_765 rfl rfl ?_
    refine z_iconst (v := iI 0) C dL_law_766 rfl ?_
    refine z_laload C 0 rfl (zT_of hE (t0 := 3) rfl) (by omega) (by omega) (by decide) dL_law_767 ?_
    refine z_iload C dL_law_768 rfl ?_
    refine z_i2l C dL_law_770 rfl ?_
    refine z_lcmp C dL_law_771 ?_
    refine z_if_eq (tgt := 777) C dL_law_772 (by decide) (fun _ => ?_) (fun h => absurd (by rw [hv9 hz]; exact lg_same _) h)
    refine z_goto (tgt := 1484) C dL_law_777 (by decide) ?_
    refine z_le (r := [some (.ref b), some (.ref h), some (.ref r), some (.ref o), some (.int (iI ↑i)), none, none]) ⟨Or.inr rfl, Or.inr rfl, Or.inr rfl, Or.inr rfl, Or.inr rfl, Or.inl rfl, Or.inl rfl, trivial⟩ ?_
    exact z_widen (k := c9 + 40) (n := s9 + 400) (by omega) (by omega) (k k9 G1 w3 f1 hrel1)
set_option maxHeartbeats 1000000 in
set_option maxRecDepth 100000 in
theorem law_layers {E : zE} {Q : State → Prop} {l : Launch} (hl : l.stackTraces = false) {D : va_G} {cI cZ cM cL : ClassId} {b h r o L i : Nat} {xs : Nat → Int32} {k0 : Int} {G R : va_W} {f : Int → Int64} {c9 s9 : Nat} (C : zC E cL_law RL wsL_law room_1) (hE : zOf E l D (zTy cI cZ cM cL)) (hS : zScr E b L xs) (hL : L ≤ 2560) (hi : i + 5 ≤ L) (hrel : REL cI cZ cM h r k0 G R) (hc9 : c9 + 40 ≤ 601024) (hs9 : s9 + 400 ≤ 7293034) (k : ∀ (k1 : Int) (G1 R1 : va_W) (f1 : Int → Int64), REL cI cZ cM h r k1 G1 R1 → zG E Q (c9 + 40) (s9 + 400) ([(o, lr cL 1 f1)] ++ (G1 ++ R1)) [some (.ref b), some (.ref h), some (.ref r), some (.ref o), some (.int (iI ↑i)), none, none] 1484 []) : zG E Q c9 s9 ([(o, lr cL 1 f)] ++ (G ++ R)) [some (.ref b), some (.ref h), some (.ref r), some (.ref o), some (.int (iI ↑i)), none, none] 780 [] := by
  obtain ⟨fsR, hR0⟩ := hrel.r0
  refine z_aload_n (i := 1) C dL_law_780 rfl rfl ?_
  refine z_aload_n (i := 0) C dL_law_781 rfl rfl ?_
  refine z_iload C dL_law_782 rfl ?_
  refine z_iconst (v := iI 1) C dL_law_784 rfl ?_
  refine z_iaddI (v := (↑i) + 1) C dL_law_785 (by omega) ?_
  refine z_sldN C hS (z := (↑i) + 1) (i + 1) (by omega) (by omega) (by omega) dL_law_786 ?_
  refine z_aload_n (i := 3) C dL_law_787 rfl rfl ?_
  obtain ⟨PH, PF, hH, hF, hEnd⟩ := pair_layers l hl D cI cZ cM cL h r o k0 G R hrel f (xs (i + 1))
  refine z_callSH (n := 3) (As := [.ref h, .int (xs (i + 1)), .ref o]) (st := []) (fr := R) C hE hH gL_law_L_layers rfl ⟨rfl, rfl⟩ (by decide +kernel) ⟨Nat.le_of_ble_eq_true rfl, Nat.le_of_ble_eq_true rfl⟩ rfl rfl (List.Perm.of_eq (List.append_assoc _ _ _).symm) (Nat.le_of_ble_eq_true rfl) ⟨by show c9 + 2 ≤ 601024; omega, by show s9 + 12 ≤ 7293034; omega⟩ dL_law_788 (fun r1 w1 hp1 => ?_)
  obtain ⟨k9, f1, G1, rfl, rfl, hp9⟩ := hEnd r1 w1 hp1
  refine (show zG E Q (c9 + 2) (s9 + 12) ([(o, lr cL 1 f1)] ++ (G1 ++ R)) [some (.ref b), some (.ref h), some (.ref r), some (.ref o), some (.int (iI ↑i)), none, none] 791 [.int (iI k9)] from ?_)
  refine z_istore (lv' := [some (.ref b), some (.ref h), some (.ref r), some (.ref o), some (.int (iI ↑i)), some (.int (iI k9)), none]) C dL_law_791 rfl rfl ?_
  refine z_aload_n (i := 2) C dL_law_793 rfl rfl ?_
  refine z_aload_n (i := 0) C dL_law_794 rfl rfl ?_
  refine z_iload C dL_law_795 rfl ?_
  refine z_iconst (v := iI 1) C dL_law_797 rfl ?_
  refine z_iaddI (v := (↑i) + 1) C dL_law_798 (by omega) ?_
  refine z_sldN C hS (z := (↑i) + 1) (i + 1) (by omega) (by omega) (by omega) dL_law_799 ?_
  refine z_callV (n := 1) (As := [.int (xs (i + 1))]) (st := []) (fr := [(o, lr cL 1 f1)] ++ G1) C hE hF gL_law_X5_layers rfl ⟨rfl, rfl⟩ (by decide +kernel) ⟨Nat.le_of_ble_eq_true rfl, Nat.le_of_ble_eq_true rfl⟩ rfl rfl ((List.Perm.of_eq (List.append_assoc _ _ _).symm).trans List.perm_append_comm) 0 hR0 rfl rfl (Nat.le_of_ble_eq_true rfl) ⟨by show c9 + 2 + 0 ≤ 601024; omega, by show s9 + 12 + 0 ≤ 7293034; omega⟩ dL_law_800 (fun r2 w2 hp2 => ?_)
  obtain ⟨v9, rfl, hk9, hv9, hrel1⟩ := hp9 r2 w2 hp2
  obtain ⟨fsT, hT0⟩ := hrel1.r0
  have hT9 := REL.thrown l D cL hrel1
  refine z_perm (ws' := [(o, lr cL 1 f1)] ++ (G1 ++ w2)) (List.perm_append_comm.trans (List.Perm.of_eq (List.append_assoc _ _ _))) ?_
  refine (show zG E Q (c9 + 2 + 0) (s9 + 12 + 0) ([(o, lr cL 1 f1)] ++ (G1 ++ w2)) [some (.ref b), some (.ref h), some (.ref r), some (.ref o), some (.int (iI ↑i)), some (.int (iI k9)), none] 803 [.int v9] from ?_)
  refine z_istore (lv' := [some (.ref b), some (.ref h), some (.ref r), some (.ref o), some (.int (iI ↑i)), some (.int (iI k9)), some (.int v9)]) C dL_law_803 rfl rfl ?_
  refine z_aload_n (i := 2) C dL_law_805 rfl rfl ?_
  refine z_callV (n := 0) (As := []) (st := []) (fr := [(o, lr cL 1 f1)] ++ G1) C hE hT9 gL_law_X5_thrown rfl ⟨rfl, rfl⟩ (by decide +kernel) ⟨Nat.le_of_ble_eq_true rfl, Nat.le_of_ble_eq_true rfl⟩ rfl rfl ((List.Perm.of_eq (List.append_assoc _ _ _).symm).trans List.perm_append_comm) 0 hT0 rfl rfl (Nat.le_of_ble_eq_true rfl) ⟨by show c9 + 2 + 0 + 0 ≤ 601024; omega, by show s9 + 12 + 0 + 0 ≤ 7293034; omega⟩ dL_law_806 (fun r3 w3 hp3 => ?_)
  obtain ⟨rfl, rfl⟩ := hp3
  refine z_perm (ws' := [(o, lr cL 1 f1)] ++ (G1 ++ w3)) (List.perm_append_comm.trans (List.Perm.of_eq (List.append_assoc _ _ _))) ?_
  refine (show zG E Q (c9 + 2 + 0 + 0) (s9 + 12 + 0 + 0) ([(o, lr cL 1 f1)] ++ (G1 ++ w3)) [some (.ref b), some (.ref h), some (.ref r), some (.ref o), some (.int (iI ↑i)), some (.int (iI k9)), some (.int v9)] 809 [.int (iI k9)] from ?_)
  refine z_iload C dL_law_809 rfl ?_
  refine z_icmp_eq (tgt := 816) C dL_law_811 (by decide) (fun _ => ?_) (fun h => absurd (rfl) h)
  refine z_iload C dL_law_816 rfl ?_
  refine z_if_neI (tgt := 833) C dL_law_818 (by decide) ⟨by omega, by omega⟩ (fun hz => ?_) (fun hz => ?_)
  · refine z_goto (tgt := 1484) C dL_law_833 (by decide) ?_
    refine z_le (r := [some (.ref b), some (.ref h), some (.ref r), some (.ref o), some (.int (iI ↑i)), none, none]) ⟨Or.inr rfl, Or.inr rfl, Or.inr rfl, Or.inr rfl, Or.inr rfl, Or.inl rfl, Or.inl rfl, trivial⟩ ?_
    exact z_widen (k := c9 + 40) (n := s9 + 400) (by omega) (by omega) (k k9 G1 w3 f1 hrel1)
  · refine z_aload_n (i := 3) C dL_law_821 rfl rfl ?_
    refine z_iconst (v := iI 0) C dL_law_822 rfl ?_
    refine z_laload C 0 rfl (zT_of hE (t0 := 3) rfl) (by omega) (by omega) (by decide) dL_law_823 ?_
    refine z_iload C dL_law_824 rfl ?_
    refine z_i2l C dL_law_826 rfl ?_
    refine z_lcmp C dL_law_827 ?_
    refine z_if_eq (tgt := 833) C dL_law_828 (by decide) (fun _ => ?_) (fun h => absurd (by rw [hv9 hz]; exact lg_same _) h)
    refine z_goto (tgt := 1484) C dL_law_833 (by decide) ?_
    refine z_le (r := [some (.ref b), some (.ref h), some (.ref r), some (.ref o), some (.int (iI ↑i)), none, none]) ⟨Or.inr rfl, Or.inr rfl, Or.inr rfl, Or.inr rfl, Or.inr rfl, Or.inl rfl, Or.inl rfl, trivial⟩ ?_
    exact z_widen (k := c9 + 40) (n := s9 + 400) (by omega) (by omega) (k k9 G1 w3 f1 hrel1)
set_option maxHeartbeats 1000000 in
set_option maxRecDepth 100000 in
theorem law_cellAt {E : zE} {Q : State → Prop} {l : Launch} (hl : l.stackTraces = false) {D : va_G} {cI cZ cM cL : ClassId} {b h r o L i : Nat} {xs : Nat → Int32} {k0 : Int} {G R : va_W} {f : Int → Int64} {c9 s9 : Nat} (C : zC E cL_law RL wsL_law room_1) (hE : zOf E l D (zTy cI cZ cM cL)) (hS : zScr E b L xs) (hL : L ≤ 2560) (hi : i + 5 ≤ L) (hrel : REL cI cZ cM h r k0 G R) (hc9 : c9 + 40 ≤ 601024) (hs9 : s9 + 400 ≤ 7293034) (k : ∀ (k1 : Int) (G1 R1 : va_W) (f1 : Int → Int64), REL cI cZ cM h r k1 G1 R1 → zG E Q (c9 + 40) (s9 + 400) ([(o, lr cL 1 f1)] ++ (G1 ++ R1)) [some (.ref b), some (.ref h), some (.ref r), some (.ref o), some (.int (iI ↑i)), none, none] 1484 []) : zG E Q c9 s9 ([(o, lr cL 1 f)] ++ (G ++ R)) [some (.ref b), some (.ref h), some (.ref r), some (.ref o), some (.int (iI ↑i)), none, none] 836 [] := by
  obtain ⟨fsR, hR0⟩ := hrel.r0
  refine z_aload_n (i := 1) C dL_law_836 rfl rfl ?_
  refine z_aload_n (i := 0) C dL_law_837 rfl rfl ?_
  refine z_iload C dL_law_838 rfl ?_
  refine z_iconst (v := iI 1) C dL_law_840 rfl ?_
  refine z_iaddI (v := (↑i) + 1) C dL_law_841 (by omega) ?_
  refine z_sldN C hS (z := (↑i) + 1) (i + 1) (by omega) (by omega) (by omega) dL_law_842 ?_
  refine z_aload_n (i := 0) C dL_law_843 rfl rfl ?_
  refine z_iload C dL_law_844 rfl ?_
  refine z_iconst (v := iI 2) C dL_law_846 rfl ?_
  refine z_iaddI (v := (↑i) + 2) C dL_law_847 (by omega) ?_
  refine z_sldN C hS (z := (↑i) + 2) (i + 2) (by omega) (by omega) (by omega) dL_law_848 ?_
  refine z_aload_n (i := 0) C dL_law_849 rfl rfl ?_
  refine z_iload C dL_law_850 rfl ?_
  refine z_iconst (v := iI 3) C dL_law_852 rfl ?_
  refine z_iaddI (v := (↑i) + 3) C dL_law_853 (by omega) ?_
  refine z_sldN C hS (z := (↑i) + 3) (i + 3) (by omega) (by omega) (by omega) dL_law_854 ?_
  refine z_aload_n (i := 3) C dL_law_855 rfl rfl ?_
  obtain ⟨PH, PF, hH, hF, hEnd⟩ := pair_cellAt l hl D cI cZ cM cL h r o k0 G R hrel f (xs (i + 1)) (xs (i + 2)) (xs (i + 3))
  refine z_callSH (n := 5) (As := [.ref h, .int (xs (i + 1)), .int (xs (i + 2)), .int (xs (i + 3)), .ref o]) (st := []) (fr := R) C hE hH gL_law_L_cellAt rfl ⟨rfl, rfl⟩ (by decide +kernel) ⟨Nat.le_of_ble_eq_true rfl, Nat.le_of_ble_eq_true rfl⟩ rfl rfl (List.Perm.of_eq (List.append_assoc _ _ _).symm) (Nat.le_of_ble_eq_true rfl) ⟨by show c9 + 3 ≤ 601024; omega, by show s9 + 18 ≤ 7293034; omega⟩ dL_law_856 (fun r1 w1 hp1 => ?_)
  obtain ⟨k9, f1, G1, rfl, rfl, hp9⟩ := hEnd r1 w1 hp1
  refine (show zG E Q (c9 + 3) (s9 + 18) ([(o, lr cL 1 f1)] ++ (G1 ++ R)) [some (.ref b), some (.ref h), some (.ref r), some (.ref o), some (.int (iI ↑i)), none, none] 859 [.int (iI k9)] from ?_)
  refine z_istore (lv' := [some (.ref b), some (.ref h), some (.ref r), some (.ref o), some (.int (iI ↑i)), some (.int (iI k9)), none]) C dL_law_859 rfl rfl ?_
  refine z_aload_n (i := 2) C dL_law_861 rfl rfl ?_
  refine z_aload_n (i := 0) C dL_law_862 rfl rfl ?_
  refine z_iload C dL_law_863 rfl ?_
  refine z_iconst (v := iI 1) C dL_law_865 rfl ?_
  refine z_iaddI (v := (↑i) + 1) C dL_law_866 (by omega) ?_
  refine z_sldN C hS (z := (↑i) + 1) (i + 1) (by omega) (by omega) (by omega) dL_law_867 ?_
  refine z_aload_n (i := 0) C dL_law_868 rfl rfl ?_
  refine z_iload C dL_law_869 rfl ?_
  refine z_iconst (v := iI 2) C dL_law_871 rfl ?_
  refine z_iaddI (v := (↑i) + 2) C dL_law_872 (by omega) ?_
  refine z_sldN C hS (z := (↑i) + 2) (i + 2) (by omega) (by omega) (by omega) dL_law_873 ?_
  refine z_aload_n (i := 0) C dL_law_874 rfl rfl ?_
  refine z_iload C dL_law_875 rfl ?_
  refine z_iconst (v := iI 3) C dL_law_877 rfl ?_
  refine z_iaddI (v := (↑i) + 3) C dL_law_878 (by omega) ?_
  refine z_sldN C hS (z := (↑i) + 3) (i + 3) (by omega) (by omega) (by omega) dL_law_879 ?_
  refine z_callV (n := 3) (As := [.int (xs (i + 1)), .int (xs (i + 2)), .int (xs (i + 3))]) (st := []) (fr := [(o, lr cL 1 f1)] ++ G1) C hE hF gL_law_X5_cellAt rfl ⟨rfl, rfl⟩ (by decide +kernel) ⟨Nat.le_of_ble_eq_true rfl, Nat.le_of_ble_eq_true rfl⟩ rfl rfl ((List.Perm.of_eq (List.append_assoc _ _ _).symm).trans List.perm_append_comm) 0 hR0 rfl rfl (Nat.le_of_ble_eq_true rfl) ⟨by show c9 + 3 + 0 ≤ 601024; omega, by show s9 + 18 + 0 ≤ 7293034; omega⟩ dL_law_880 (fun r2 w2 hp2 => ?_)
  obtain ⟨v9, rfl, hk9, hv9, hrel1⟩ := hp9 r2 w2 hp2
  obtain ⟨fsT, hT0⟩ := hrel1.r0
  have hT9 := REL.thrown l D cL hrel1
  refine z_perm (ws' := [(o, lr cL 1 f1)] ++ (G1 ++ w2)) (List.perm_append_comm.trans (List.Perm.of_eq (List.append_assoc _ _ _))) ?_
  refine (show zG E Q (c9 + 3 + 0) (s9 + 18 + 0) ([(o, lr cL 1 f1)] ++ (G1 ++ w2)) [some (.ref b), some (.ref h), some (.ref r), some (.ref o), some (.int (iI ↑i)), some (.int (iI k9)), none] 883 [.int v9] from ?_)
  refine z_istore (lv' := [some (.ref b), some (.ref h), some (.ref r), some (.ref o), some (.int (iI ↑i)), some (.int (iI k9)), some (.int v9)]) C dL_law_883 rfl rfl ?_
  refine z_aload_n (i := 2) C dL_law_885 rfl rfl ?_
  refine z_callV (n := 0) (As := []) (st := []) (fr := [(o, lr cL 1 f1)] ++ G1) C hE hT9 gL_law_X5_thrown rfl ⟨rfl, rfl⟩ (by decide +kernel) ⟨Nat.le_of_ble_eq_true rfl, Nat.le_of_ble_eq_true rfl⟩ rfl rfl ((List.Perm.of_eq (List.append_assoc _ _ _).symm).trans List.perm_append_comm) 0 hT0 rfl rfl (Nat.le_of_ble_eq_true rfl) ⟨by show c9 + 3 + 0 + 0 ≤ 601024; omega, by show s9 + 18 + 0 + 0 ≤ 7293034; omega⟩ dL_law_886 (fun r3 w3 hp3 => ?_)
  obtain ⟨rfl, rfl⟩ := hp3
  refine z_perm (ws' := [(o, lr cL 1 f1)] ++ (G1 ++ w3)) (List.perm_append_comm.trans (List.Perm.of_eq (List.append_assoc _ _ _))) ?_
  refine (show zG E Q (c9 + 3 + 0 + 0) (s9 + 18 + 0 + 0) ([(o, lr cL 1 f1)] ++ (G1 ++ w3)) [some (.ref b), some (.ref h), some (.ref r), some (.ref o), some (.int (iI ↑i)), some (.int (iI k9)), some (.int v9)] 889 [.int (iI k9)] from ?_)
  refine z_iload C dL_law_889 rfl ?_
  refine z_icmp_eq (tgt := 896) C dL_law_891 (by decide) (fun _ => ?_) (fun h => absurd (rfl) h)
  refine z_iload C dL_law_896 rfl ?_
  refine z_if_neI (tgt := 913) C dL_law_898 (by decide) ⟨by omega, by omega⟩ (fun hz => ?_) (fun hz => ?_)
  · refine z_goto (tgt := 1484) C dL_law_913 (by decide) ?_
    refine z_le (r := [some (.ref b), some (.ref h), some (.ref r), some (.ref o), some (.int (iI ↑i)), none, none]) ⟨Or.inr rfl, Or.inr rfl, Or.inr rfl, Or.inr rfl, Or.inr rfl, Or.inl rfl, Or.inl rfl, trivial⟩ ?_
    exact z_widen (k := c9 + 40) (n := s9 + 400) (by omega) (by omega) (k k9 G1 w3 f1 hrel1)
  · refine z_aload_n (i := 3) C dL_law_901 rfl rfl ?_
    refine z_iconst (v := iI 0) C dL_law_902 rfl ?_
    refine z_laload C 0 rfl (zT_of hE (t0 := 3) rfl) (by omega) (by omega) (by decide) dL_law_903 ?_
    refine z_iload C dL_law_904 rfl ?_
    refine z_i2l C dL_law_906 rfl ?_
    refine z_lcmp C dL_law_907 ?_
    refine z_if_eq (tgt := 913) C dL_law_908 (by decide) (fun _ => ?_) (fun h => absurd (by rw [hv9 hz]; exact lg_same _) h)
    refine z_goto (tgt := 1484) C dL_law_913 (by decide) ?_
    refine z_le (r := [some (.ref b), some (.ref h), some (.ref r), some (.ref o), some (.int (iI ↑i)), none, none]) ⟨Or.inr rfl, Or.inr rfl, Or.inr rfl, Or.inr rfl, Or.inr rfl, Or.inl rfl, Or.inl rfl, trivial⟩ ?_
    exact z_widen (k := c9 + 40) (n := s9 + 400) (by omega) (by omega) (k k9 G1 w3 f1 hrel1)
set_option maxHeartbeats 1000000 in
set_option maxRecDepth 100000 in
theorem law_placeOf {E : zE} {Q : State → Prop} {l : Launch} (hl : l.stackTraces = false) {D : va_G} {cI cZ cM cL : ClassId} {b h r o L i : Nat} {xs : Nat → Int32} {k0 : Int} {G R : va_W} {f : Int → Int64} {c9 s9 : Nat} (C : zC E cL_law RL wsL_law room_1) (hE : zOf E l D (zTy cI cZ cM cL)) (hS : zScr E b L xs) (hL : L ≤ 2560) (hi : i + 5 ≤ L) (hrel : REL cI cZ cM h r k0 G R) (hc9 : c9 + 40 ≤ 601024) (hs9 : s9 + 400 ≤ 7293034) (k : ∀ (k1 : Int) (G1 R1 : va_W) (f1 : Int → Int64), REL cI cZ cM h r k1 G1 R1 → zG E Q (c9 + 40) (s9 + 400) ([(o, lr cL 1 f1)] ++ (G1 ++ R1)) [some (.ref b), some (.ref h), some (.ref r), some (.ref o), some (.int (iI ↑i)), none, none] 1484 []) : zG E Q c9 s9 ([(o, lr cL 1 f)] ++ (G ++ R)) [some (.ref b), some (.ref h), some (.ref r), some (.ref o), some (.int (iI ↑i)), none, none] 916 [] := by
  obtain ⟨fsR, hR0⟩ := hrel.r0
  refine z_aload_n (i := 1) C dL_law_916 rfl rfl ?_
  refine z_aload_n (i := 0) C dL_law_917 rfl rfl ?_
  refine z_iload C dL_law_918 rfl ?_
  refine z_iconst (v := iI 1) C dL_law_920 rfl ?_
  refine z_iaddI (v := (↑i) + 1) C dL_law_921 (by omega) ?_
  refine z_sldN C hS (z := (↑i) + 1) (i + 1) (by omega) (by omega) (by omega) dL_law_922 ?_
  refine z_aload_n (i := 0) C dL_law_923 rfl rfl ?_
  refine z_iload C dL_law_924 rfl ?_
  refine z_iconst (v := iI 2) C dL_law_926 rfl ?_
  refine z_iaddI (v := (↑i) + 2) C dL_law_927 (by omega) ?_
  refine z_sldN C hS (z := (↑i) + 2) (i + 2) (by omega) (by omega) (by omega) dL_law_928 ?_
  refine z_aload_n (i := 3) C dL_law_929 rfl rfl ?_
  obtain ⟨PH, PF, hH, hF, hEnd⟩ := pair_placeOf l hl D cI cZ cM cL h r o k0 G R hrel f (xs (i + 1)) (xs (i + 2))
  refine z_callSH (n := 4) (As := [.ref h, .int (xs (i + 1)), .int (xs (i + 2)), .ref o]) (st := []) (fr := R) C hE hH gL_law_L_placeOf rfl ⟨rfl, rfl⟩ (by decide +kernel) ⟨Nat.le_of_ble_eq_true rfl, Nat.le_of_ble_eq_true rfl⟩ rfl rfl (List.Perm.of_eq (List.append_assoc _ _ _).symm) (Nat.le_of_ble_eq_true rfl) ⟨by show c9 + 3 ≤ 601024; omega, by show s9 + 18 ≤ 7293034; omega⟩ dL_law_930 (fun r1 w1 hp1 => ?_)
  obtain ⟨k9, f1, G1, rfl, rfl, hp9⟩ := hEnd r1 w1 hp1
  refine (show zG E Q (c9 + 3) (s9 + 18) ([(o, lr cL 1 f1)] ++ (G1 ++ R)) [some (.ref b), some (.ref h), some (.ref r), some (.ref o), some (.int (iI ↑i)), none, none] 933 [.int (iI k9)] from ?_)
  refine z_istore (lv' := [some (.ref b), some (.ref h), some (.ref r), some (.ref o), some (.int (iI ↑i)), some (.int (iI k9)), none]) C dL_law_933 rfl rfl ?_
  refine z_aload_n (i := 2) C dL_law_935 rfl rfl ?_
  refine z_aload_n (i := 0) C dL_law_936 rfl rfl ?_
  refine z_iload C dL_law_937 rfl ?_
  refine z_iconst (v := iI 1) C dL_law_939 rfl ?_
  refine z_iaddI (v := (↑i) + 1) C dL_law_940 (by omega) ?_
  refine z_sldN C hS (z := (↑i) + 1) (i + 1) (by omega) (by omega) (by omega) dL_law_941 ?_
  refine z_aload_n (i := 0) C dL_law_942 rfl rfl ?_
  refine z_iload C dL_law_943 rfl ?_
  refine z_iconst (v := iI 2) C dL_law_945 rfl ?_
  refine z_iaddI (v := (↑i) + 2) C dL_law_946 (by omega) ?_
  refine z_sldN C hS (z := (↑i) + 2) (i + 2) (by omega) (by omega) (by omega) dL_law_947 ?_
  refine z_callV (n := 2) (As := [.int (xs (i + 1)), .int (xs (i + 2))]) (st := []) (fr := [(o, lr cL 1 f1)] ++ G1) C hE hF gL_law_X5_placeOf rfl ⟨rfl, rfl⟩ (by decide +kernel) ⟨Nat.le_of_ble_eq_true rfl, Nat.le_of_ble_eq_true rfl⟩ rfl rfl ((List.Perm.of_eq (List.append_assoc _ _ _).symm).trans List.perm_append_comm) 0 hR0 rfl rfl (Nat.le_of_ble_eq_true rfl) ⟨by show c9 + 3 + 0 ≤ 601024; omega, by show s9 + 18 + 0 ≤ 7293034; omega⟩ dL_law_948 (fun r2 w2 hp2 => ?_)
  obtain ⟨v9, rfl, hk9, hv9, hrel1⟩ := hp9 r2 w2 hp2
  obtain ⟨fsT, hT0⟩ := hrel1.r0
  have hT9 := REL.thrown l D cL hrel1
  refine z_perm (ws' := [(o, lr cL 1 f1)] ++ (G1 ++ w2)) (List.perm_append_comm.trans (List.Perm.of_eq (List.append_assoc _ _ _))) ?_
  refine (show zG E Q (c9 + 3 + 0) (s9 + 18 + 0) ([(o, lr cL 1 f1)] ++ (G1 ++ w2)) [some (.ref b), some (.ref h), some (.ref r), some (.ref o), some (.int (iI ↑i)), some (.int (iI k9)), none] 951 [.int v9] from ?_)
  refine z_istore (lv' := [some (.ref b), some (.ref h), some (.ref r), some (.ref o), some (.int (iI ↑i)), some (.int (iI k9)), some (.int v9)]) C dL_law_951 rfl rfl ?_
  refine z_aload_n (i := 2) C dL_law_953 rfl rfl ?_
  refine z_callV (n := 0) (As := []) (st := []) (fr := [(o, lr cL 1 f1)] ++ G1) C hE hT9 gL_law_X5_thrown rfl ⟨rfl, rfl⟩ (by decide +kernel) ⟨Nat.le_of_ble_eq_true rfl, Nat.le_of_ble_eq_true rfl⟩ rfl rfl ((List.Perm.of_eq (List.append_assoc _ _ _).symm).trans List.perm_append_comm) 0 hT0 rfl rfl (Nat.le_of_ble_eq_true rfl) ⟨by show c9 + 3 + 0 + 0 ≤ 601024; omega, by show s9 + 18 + 0 + 0 ≤ 7293034; omega⟩ dL_law_954 (fun r3 w3 hp3 => ?_)
  obtain ⟨rfl, rfl⟩ := hp3
  refine z_perm (ws' := [(o, lr cL 1 f1)] ++ (G1 ++ w3)) (List.perm_append_comm.trans (List.Perm.of_eq (List.append_assoc _ _ _))) ?_
  refine (show zG E Q (c9 + 3 + 0 + 0) (s9 + 18 + 0 + 0) ([(o, lr cL 1 f1)] ++ (G1 ++ w3)) [some (.ref b), some (.ref h), some (.ref r), some (.ref o), some (.int (iI ↑i)), some (.int (iI k9)), some (.int v9)] 957 [.int (iI k9)] from ?_)
  refine z_iload C dL_law_957 rfl ?_
  refine z_icmp_eq (tgt := 964) C dL_law_959 (by decide) (fun _ => ?_) (fun h => absurd (rfl) h)
  refine z_iload C dL_law_964 rfl ?_
  refine z_if_neI (tgt := 981) C dL_law_966 (by decide) ⟨by omega, by omega⟩ (fun hz => ?_) (fun hz => ?_)
  · refine z_goto (tgt := 1484) C dL_law_981 (by decide) ?_
    refine z_le (r := [some (.ref b), some (.ref h), some (.ref r), some (.ref o), some (.int (iI ↑i)), none, none]) ⟨Or.inr rfl, Or.inr rfl, Or.inr rfl, Or.inr rfl, Or.inr rfl, Or.inl rfl, Or.inl rfl, trivial⟩ ?_
    exact z_widen (k := c9 + 40) (n := s9 + 400) (by omega) (by omega) (k k9 G1 w3 f1 hrel1)
  · refine z_aload_n (i := 3) C dL_law_969 rfl rfl ?_
    refine z_iconst (v := iI 0) C dL_law_970 rfl ?_
    refine z_laload C 0 rfl (zT_of hE (t0 := 3) rfl) (by omega) (by omega) (by decide) dL_law_971 ?_
    refine z_iload C dL_law_972 rfl ?_
    refine z_i2l C dL_law_974 rfl ?_
    refine z_lcmp C dL_law_975 ?_
    refine z_if_eq (tgt := 981) C dL_law_976 (by decide) (fun _ => ?_) (fun h => absurd (by rw [hv9 hz]; exact lg_same _) h)
    refine z_goto (tgt := 1484) C dL_law_981 (by decide) ?_
    refine z_le (r := [some (.ref b), some (.ref h), some (.ref r), some (.ref o), some (.int (iI ↑i)), none, none]) ⟨Or.inr rfl, Or.inr rfl, Or.inr rfl, Or.inr rfl, Or.inr rfl, Or.inl rfl, Or.inl rfl, trivial⟩ ?_
    exact z_widen (k := c9 + 40) (n := s9 + 400) (by omega) (by omega) (k k9 G1 w3 f1 hrel1)
set_option maxHeartbeats 1000000 in
set_option maxRecDepth 100000 in
theorem law_isTurned {E : zE} {Q : State → Prop} {l : Launch} (hl : l.stackTraces = false) {D : va_G} {cI cZ cM cL : ClassId} {b h r o L i : Nat} {xs : Nat → Int32} {k0 : Int} {G R : va_W} {f : Int → Int64} {c9 s9 : Nat} (C : zC E cL_law RL wsL_law room_1) (hE : zOf E l D (zTy cI cZ cM cL)) (hS : zScr E b L xs) (hL : L ≤ 2560) (hi : i + 5 ≤ L) (hrel : REL cI cZ cM h r k0 G R) (hc9 : c9 + 40 ≤ 601024) (hs9 : s9 + 400 ≤ 7293034) (k : ∀ (k1 : Int) (G1 R1 : va_W) (f1 : Int → Int64), REL cI cZ cM h r k1 G1 R1 → zG E Q (c9 + 40) (s9 + 400) ([(o, lr cL 1 f1)] ++ (G1 ++ R1)) [some (.ref b), some (.ref h), some (.ref r), some (.ref o), some (.int (iI ↑i)), none, none] 1484 []) : zG E Q c9 s9 ([(o, lr cL 1 f)] ++ (G ++ R)) [some (.ref b), some (.ref h), some (.ref r), some (.ref o), some (.int (iI ↑i)), none, none] 984 [] := by
  obtain ⟨fsR, hR0⟩ := hrel.r0
  refine z_aload_n (i := 1) C dL_law_984 rfl rfl ?_
  refine z_aload_n (i := 0) C dL_law_985 rfl rfl ?_
  refine z_iload C dL_law_986 rfl ?_
  refine z_iconst (v := iI 1) C dL_law_988 rfl ?_
  refine z_iaddI (v := (↑i) + 1) C dL_law_989 (by omega) ?_
  refine z_sldN C hS (z := (↑i) + 1) (i + 1) (by omega) (by omega) (by omega) dL_law_990 ?_
  refine z_aload_n (i := 0) C dL_law_991 rfl rfl ?_
  refine z_iload C dL_law_992 rfl ?_
  refine z_iconst (v := iI 2) C dL_law_994 rfl ?_
  refine z_iaddI (v := (↑i) + 2) C dL_law_995 (by omega) ?_
  refine z_sldN C hS (z := (↑i) + 2) (i + 2) (by omega) (by omega) (by omega) dL_law_996 ?_
  refine z_aload_n (i := 3) C dL_law_997 rfl rfl ?_
  obtain ⟨PH, PF, hH, hF, hEnd⟩ := pair_isTurned l hl D cI cZ cM cL h r o k0 G R hrel f (xs (i + 1)) (xs (i + 2))
  refine z_callSH (n := 4) (As := [.ref h, .int (xs (i + 1)), .int (xs (i + 2)), .ref o]) (st := []) (fr := R) C hE hH gL_law_L_isTurned rfl ⟨rfl, rfl⟩ (by decide +kernel) ⟨Nat.le_of_ble_eq_true rfl, Nat.le_of_ble_eq_true rfl⟩ rfl rfl (List.Perm.of_eq (List.append_assoc _ _ _).symm) (Nat.le_of_ble_eq_true rfl) ⟨by show c9 + 3 ≤ 601024; omega, by show s9 + 18 ≤ 7293034; omega⟩ dL_law_998 (fun r1 w1 hp1 => ?_)
  obtain ⟨k9, f1, G1, rfl, rfl, hp9⟩ := hEnd r1 w1 hp1
  refine (show zG E Q (c9 + 3) (s9 + 18) ([(o, lr cL 1 f1)] ++ (G1 ++ R)) [some (.ref b), some (.ref h), some (.ref r), some (.ref o), some (.int (iI ↑i)), none, none] 1001 [.int (iI k9)] from ?_)
  refine z_istore (lv' := [some (.ref b), some (.ref h), some (.ref r), some (.ref o), some (.int (iI ↑i)), some (.int (iI k9)), none]) C dL_law_1001 rfl rfl ?_
  refine z_aload_n (i := 2) C dL_law_1003 rfl rfl ?_
  refine z_aload_n (i := 0) C dL_law_1004 rfl rfl ?_
  refine z_iload C dL_law_1005 rfl ?_
  refine z_iconst (v := iI 1) C dL_law_1007 rfl ?_
  refine z_iaddI (v := (↑i) + 1) C dL_law_1008 (by omega) ?_
  refine z_sldN C hS (z := (↑i) + 1) (i + 1) (by omega) (by omega) (by omega) dL_law_1009 ?_
  refine z_aload_n (i := 0) C dL_law_1010 rfl rfl ?_
  refine z_iload C dL_law_1011 rfl ?_
  refine z_iconst (v := iI 2) C dL_law_1013 rfl ?_
  refine z_iaddI (v := (↑i) + 2) C dL_law_1014 (by omega) ?_
  refine z_sldN C hS (z := (↑i) + 2) (i + 2) (by omega) (by omega) (by omega) dL_law_1015 ?_
  refine z_callV (n := 2) (As := [.int (xs (i + 1)), .int (xs (i + 2))]) (st := []) (fr := [(o, lr cL 1 f1)] ++ G1) C hE hF gL_law_X5_isTurned rfl ⟨rfl, rfl⟩ (by decide +kernel) ⟨Nat.le_of_ble_eq_true rfl, Nat.le_of_ble_eq_true rfl⟩ rfl rfl ((List.Perm.of_eq (List.append_assoc _ _ _).symm).trans List.perm_append_comm) 0 hR0 rfl rfl (Nat.le_of_ble_eq_true rfl) ⟨by show c9 + 3 + 0 ≤ 601024; omega, by show s9 + 18 + 0 ≤ 7293034; omega⟩ dL_law_1016 (fun r2 w2 hp2 => ?_)
  obtain ⟨v9, rfl, hk9, hv9, hrel1⟩ := hp9 r2 w2 hp2
  obtain ⟨fsT, hT0⟩ := hrel1.r0
  have hT9 := REL.thrown l D cL hrel1
  refine z_perm (ws' := [(o, lr cL 1 f1)] ++ (G1 ++ w2)) (List.perm_append_comm.trans (List.Perm.of_eq (List.append_assoc _ _ _))) ?_
  refine (show zG E Q (c9 + 3 + 0) (s9 + 18 + 0) ([(o, lr cL 1 f1)] ++ (G1 ++ w2)) [some (.ref b), some (.ref h), some (.ref r), some (.ref o), some (.int (iI ↑i)), some (.int (iI k9)), none] 1019 [.int v9] from ?_)
  refine z_istore (lv' := [some (.ref b), some (.ref h), some (.ref r), some (.ref o), some (.int (iI ↑i)), some (.int (iI k9)), some (.int v9)]) C dL_law_1019 rfl rfl ?_
  refine z_aload_n (i := 2) C dL_law_1021 rfl rfl ?_
  refine z_callV (n := 0) (As := []) (st := []) (fr := [(o, lr cL 1 f1)] ++ G1) C hE hT9 gL_law_X5_thrown rfl ⟨rfl, rfl⟩ (by decide +kernel) ⟨Nat.le_of_ble_eq_true rfl, Nat.le_of_ble_eq_true rfl⟩ rfl rfl ((List.Perm.of_eq (List.append_assoc _ _ _).symm).trans List.perm_append_comm) 0 hT0 rfl rfl (Nat.le_of_ble_eq_true rfl) ⟨by show c9 + 3 + 0 + 0 ≤ 601024; omega, by show s9 + 18 + 0 + 0 ≤ 7293034; omega⟩ dL_law_1022 (fun r3 w3 hp3 => ?_)
  obtain ⟨rfl, rfl⟩ := hp3
  refine z_perm (ws' := [(o, lr cL 1 f1)] ++ (G1 ++ w3)) (List.perm_append_comm.trans (List.Perm.of_eq (List.append_assoc _ _ _))) ?_
  refine (show zG E Q (c9 + 3 + 0 + 0) (s9 + 18 + 0 + 0) ([(o, lr cL 1 f1)] ++ (G1 ++ w3)) [some (.ref b), some (.ref h), some (.ref r), some (.ref o), some (.int (iI ↑i)), some (.int (iI k9)), some (.int v9)] 1025 [.int (iI k9)] from ?_)
  refine z_iload C dL_law_1025 rfl ?_
  refine z_icmp_eq (tgt := 1032) C dL_law_1027 (by decide) (fun _ => ?_) (fun h => absurd (rfl) h)
  refine z_iload C dL_law_1032 rfl ?_
  refine z_if_neI (tgt := 1056) C dL_law_1034 (by decide) ⟨by omega, by omega⟩ (fun hz => ?_) (fun hz => ?_)
  · refine z_goto (tgt := 1484) C dL_law_1056 (by decide) ?_
    refine z_le (r := [some (.ref b), some (.ref h), some (.ref r), some (.ref o), some (.int (iI ↑i)), none, none]) ⟨Or.inr rfl, Or.inr rfl, Or.inr rfl, Or.inr rfl, Or.inr rfl, Or.inl rfl, Or.inl rfl, trivial⟩ ?_
    exact z_widen (k := c9 + 40) (n := s9 + 400) (by omega) (by omega) (k k9 G1 w3 f1 hrel1)
  · refine z_aload_n (i := 3) C dL_law_1037 rfl rfl ?_
    refine z_iconst (v := iI 0) C dL_law_1038 rfl ?_
    refine z_laload C 0 rfl (zT_of hE (t0 := 3) rfl) (by omega) (by omega) (by decide) dL_law_1039 ?_
    refine z_iload C dL_law_1040 rfl ?_
    refine z_if_eq (tgt := 1049) C dL_law_1042 (by decide) (fun hb => ?_) (fun hb => ?_)
    · refine z_lconst (v := 0) C dL_law_1049 (by decide) ?_
      refine z_lcmp C dL_law_1050 ?_
      refine z_if_eq (tgt := 1056) C dL_law_1051 (by decide) (fun _ => ?_) (fun h => absurd (by rw [hv9 hz, show LZ true v9 = 0 by unfold LZ; rw [if_pos rfl, if_pos hb]]; exact lg_same _) h)
      refine z_goto (tgt := 1484) C dL_law_1056 (by decide) ?_
      refine z_le (r := [some (.ref b), some (.ref h), some (.ref r), some (.ref o), some (.int (iI ↑i)), none, none]) ⟨Or.inr rfl, Or.inr rfl, Or.inr rfl, Or.inr rfl, Or.inr rfl, Or.inl rfl, Or.inl rfl, trivial⟩ ?_
      exact z_widen (k := c9 + 40) (n := s9 + 400) (by omega) (by omega) (k k9 G1 w3 f1 hrel1)
    · refine z_lconst (v := 1) C dL_law_1045 (by decide) ?_
      refine z_goto (tgt := 1050) C dL_law_1046 (by decide) ?_
      refine z_lcmp C dL_law_1050 ?_
      refine z_if_eq (tgt := 1056) C dL_law_1051 (by decide) (fun _ => ?_) (fun h => absurd (by rw [hv9 hz, show LZ true v9 = 1 by unfold LZ; rw [if_pos rfl, if_neg hb]]; exact lg_same _) h)
      refine z_goto (tgt := 1484) C dL_law_1056 (by decide) ?_
      refine z_le (r := [some (.ref b), some (.ref h), some (.ref r), some (.ref o), some (.int (iI ↑i)), none, none]) ⟨Or.inr rfl, Or.inr rfl, Or.inr rfl, Or.inr rfl, Or.inr rfl, Or.inl rfl, Or.inl rfl, trivial⟩ ?_
      exact z_widen (k := c9 + 40) (n := s9 + 400) (by omega) (by omega) (k k9 G1 w3 f1 hrel1)
set_option maxHeartbeats 1000000 in
set_option maxRecDepth 100000 in
theorem law_layersByFollowing {E : zE} {Q : State → Prop} {l : Launch} (hl : l.stackTraces = false) {D : va_G} {cI cZ cM cL : ClassId} {b h r o L i : Nat} {xs : Nat → Int32} {k0 : Int} {G R : va_W} {f : Int → Int64} {c9 s9 : Nat} (C : zC E cL_law RL wsL_law room_1) (hE : zOf E l D (zTy cI cZ cM cL)) (hS : zScr E b L xs) (hL : L ≤ 2560) (hi : i + 5 ≤ L) (hrel : REL cI cZ cM h r k0 G R) (hc9 : c9 + 40 ≤ 601024) (hs9 : s9 + 400 ≤ 7293034) (k : ∀ (k1 : Int) (G1 R1 : va_W) (f1 : Int → Int64), REL cI cZ cM h r k1 G1 R1 → zG E Q (c9 + 40) (s9 + 400) ([(o, lr cL 1 f1)] ++ (G1 ++ R1)) [some (.ref b), some (.ref h), some (.ref r), some (.ref o), some (.int (iI ↑i)), none, none] 1484 []) : zG E Q c9 s9 ([(o, lr cL 1 f)] ++ (G ++ R)) [some (.ref b), some (.ref h), some (.ref r), some (.ref o), some (.int (iI ↑i)), none, none] 1059 [] := by
  obtain ⟨fsR, hR0⟩ := hrel.r0
  refine z_aload_n (i := 1) C dL_law_1059 rfl rfl ?_
  refine z_aload_n (i := 0) C dL_law_1060 rfl rfl ?_
  refine z_iload C dL_law_1061 rfl ?_
  refine z_iconst (v := iI 1) C dL_law_1063 rfl ?_
  refine z_iaddI (v := (↑i) + 1) C dL_law_1064 (by omega) ?_
  refine z_sldN C hS (z := (↑i) + 1) (i + 1) (by omega) (by omega) (by omega) dL_law_1065 ?_
  refine z_aload_n (i := 3) C dL_law_1066 rfl rfl ?_
  obtain ⟨PH, PF, hH, hF, hEnd⟩ := pair_layersByFollowing l hl D cI cZ cM cL h r o k0 G R hrel f (xs (i + 1))
  refine z_callSH (n := 3) (As := [.ref h, .int (xs (i + 1)), .ref o]) (st := []) (fr := R) C hE hH gL_law_L_layersByFollowing rfl ⟨rfl, rfl⟩ (by decide +kernel) ⟨Nat.le_of_ble_eq_true rfl, Nat.le_of_ble_eq_true rfl⟩ rfl rfl (List.Perm.of_eq (List.append_assoc _ _ _).symm) (Nat.le_of_ble_eq_true rfl) ⟨by show c9 + 2 ≤ 601024; omega, by show s9 + 12 ≤ 7293034; omega⟩ dL_law_1067 (fun r1 w1 hp1 => ?_)
  obtain ⟨k9, f1, G1, rfl, rfl, hp9⟩ := hEnd r1 w1 hp1
  refine (show zG E Q (c9 + 2) (s9 + 12) ([(o, lr cL 1 f1)] ++ (G1 ++ R)) [some (.ref b), some (.ref h), some (.ref r), some (.ref o), some (.int (iI ↑i)), none, none] 1070 [.int (iI k9)] from ?_)
  refine z_istore (lv' := [some (.ref b), some (.ref h), some (.ref r), some (.ref o), some (.int (iI ↑i)), some (.int (iI k9)), none]) C dL_law_1070 rfl rfl ?_
  refine z_aload_n (i := 2) C dL_law_1072 rfl rfl ?_
  refine z_aload_n (i := 0) C dL_law_1073 rfl rfl ?_
  refine z_iload C dL_law_1074 rfl ?_
  refine z_iconst (v := iI 1) C dL_law_1076 rfl ?_
  refine z_iaddI (v := (↑i) + 1) C dL_law_1077 (by omega) ?_
  refine z_sldN C hS (z := (↑i) + 1) (i + 1) (by omega) (by omega) (by omega) dL_law_1078 ?_
  refine z_callV (n := 1) (As := [.int (xs (i + 1))]) (st := []) (fr := [(o, lr cL 1 f1)] ++ G1) C hE hF gL_law_X5_layersByFollowing rfl ⟨rfl, rfl⟩ (by decide +kernel) ⟨Nat.le_of_ble_eq_true rfl, Nat.le_of_ble_eq_true rfl⟩ rfl rfl ((List.Perm.of_eq (List.append_assoc _ _ _).symm).trans List.perm_append_comm) 0 hR0 rfl rfl (Nat.le_of_ble_eq_true rfl) ⟨by show c9 + 2 + 0 ≤ 601024; omega, by show s9 + 12 + 0 ≤ 7293034; omega⟩ dL_law_1079 (fun r2 w2 hp2 => ?_)
  obtain ⟨v9, rfl, hk9, hv9, hrel1⟩ := hp9 r2 w2 hp2
  obtain ⟨fsT, hT0⟩ := hrel1.r0
  have hT9 := REL.thrown l D cL hrel1
  refine z_perm (ws' := [(o, lr cL 1 f1)] ++ (G1 ++ w2)) (List.perm_append_comm.trans (List.Perm.of_eq (List.append_assoc _ _ _))) ?_
  refine (show zG E Q (c9 + 2 + 0) (s9 + 12 + 0) ([(o, lr cL 1 f1)] ++ (G1 ++ w2)) [some (.ref b), some (.ref h), some (.ref r), some (.ref o), some (.int (iI ↑i)), some (.int (iI k9)), none] 1082 [.int v9] from ?_)
  refine z_istore (lv' := [some (.ref b), some (.ref h), some (.ref r), some (.ref o), some (.int (iI ↑i)), some (.int (iI k9)), some (.int v9)]) C dL_law_1082 rfl rfl ?_
  refine z_aload_n (i := 2) C dL_law_1084 rfl rfl ?_
  refine z_callV (n := 0) (As := []) (st := []) (fr := [(o, lr cL 1 f1)] ++ G1) C hE hT9 gL_law_X5_thrown rfl ⟨rfl, rfl⟩ (by decide +kernel) ⟨Nat.le_of_ble_eq_true rfl, Nat.le_of_ble_eq_true rfl⟩ rfl rfl ((List.Perm.of_eq (List.append_assoc _ _ _).symm).trans List.perm_append_comm) 0 hT0 rfl rfl (Nat.le_of_ble_eq_true rfl) ⟨by show c9 + 2 + 0 + 0 ≤ 601024; omega, by show s9 + 12 + 0 + 0 ≤ 7293034; omega⟩ dL_law_1085 (fun r3 w3 hp3 => ?_)
  obtain ⟨rfl, rfl⟩ := hp3
  refine z_perm (ws' := [(o, lr cL 1 f1)] ++ (G1 ++ w3)) (List.perm_append_comm.trans (List.Perm.of_eq (List.append_assoc _ _ _))) ?_
  refine (show zG E Q (c9 + 2 + 0 + 0) (s9 + 12 + 0 + 0) ([(o, lr cL 1 f1)] ++ (G1 ++ w3)) [some (.ref b), some (.ref h), some (.ref r), some (.ref o), some (.int (iI ↑i)), some (.int (iI k9)), some (.int v9)] 1088 [.int (iI k9)] from ?_)
  refine z_iload C dL_law_1088 rfl ?_
  refine z_icmp_eq (tgt := 1095) C dL_law_1090 (by decide) (fun _ => ?_) (fun h => absurd (rfl) h)
  refine z_iload C dL_law_1095 rfl ?_
  refine z_if_neI (tgt := 1112) C dL_law_1097 (by decide) ⟨by omega, by omega⟩ (fun hz => ?_) (fun hz => ?_)
  · refine z_goto (tgt := 1484) C dL_law_1112 (by decide) ?_
    refine z_le (r := [some (.ref b), some (.ref h), some (.ref r), some (.ref o), some (.int (iI ↑i)), none, none]) ⟨Or.inr rfl, Or.inr rfl, Or.inr rfl, Or.inr rfl, Or.inr rfl, Or.inl rfl, Or.inl rfl, trivial⟩ ?_
    exact z_widen (k := c9 + 40) (n := s9 + 400) (by omega) (by omega) (k k9 G1 w3 f1 hrel1)
  · refine z_aload_n (i := 3) C dL_law_1100 rfl rfl ?_
    refine z_iconst (v := iI 0) C dL_law_1101 rfl ?_
    refine z_laload C 0 rfl (zT_of hE (t0 := 3) rfl) (by omega) (by omega) (by decide) dL_law_1102 ?_
    refine z_iload C dL_law_1103 rfl ?_
    refine z_i2l C dL_law_1105 rfl ?_
    refine z_lcmp C dL_law_1106 ?_
    refine z_if_eq (tgt := 1112) C dL_law_1107 (by decide) (fun _ => ?_) (fun h => absurd (by rw [hv9 hz]; exact lg_same _) h)
    refine z_goto (tgt := 1484) C dL_law_1112 (by decide) ?_
    refine z_le (r := [some (.ref b), some (.ref h), some (.ref r), some (.ref o), some (.int (iI ↑i)), none, none]) ⟨Or.inr rfl, Or.inr rfl, Or.inr rfl, Or.inr rfl, Or.inr rfl, Or.inl rfl, Or.inl rfl, trivial⟩ ?_
    exact z_widen (k := c9 + 40) (n := s9 + 400) (by omega) (by omega) (k k9 G1 w3 f1 hrel1)
set_option maxHeartbeats 1000000 in
set_option maxRecDepth 100000 in
theorem law_bears {E : zE} {Q : State → Prop} {l : Launch} (hl : l.stackTraces = false) {D : va_G} {cI cZ cM cL : ClassId} {b h r o L i : Nat} {xs : Nat → Int32} {k0 : Int} {G R : va_W} {f : Int → Int64} {c9 s9 : Nat} (C : zC E cL_law RL wsL_law room_1) (hE : zOf E l D (zTy cI cZ cM cL)) (hS : zScr E b L xs) (hL : L ≤ 2560) (hi : i + 5 ≤ L) (hrel : REL cI cZ cM h r k0 G R) (hc9 : c9 + 40 ≤ 601024) (hs9 : s9 + 400 ≤ 7293034) (k : ∀ (k1 : Int) (G1 R1 : va_W) (f1 : Int → Int64), REL cI cZ cM h r k1 G1 R1 → zG E Q (c9 + 40) (s9 + 400) ([(o, lr cL 1 f1)] ++ (G1 ++ R1)) [some (.ref b), some (.ref h), some (.ref r), some (.ref o), some (.int (iI ↑i)), none, none] 1484 []) : zG E Q c9 s9 ([(o, lr cL 1 f)] ++ (G ++ R)) [some (.ref b), some (.ref h), some (.ref r), some (.ref o), some (.int (iI ↑i)), none, none] 1115 [] := by
  obtain ⟨fsR, hR0⟩ := hrel.r0
  refine z_aload_n (i := 1) C dL_law_1115 rfl rfl ?_
  refine z_aload_n (i := 0) C dL_law_1116 rfl rfl ?_
  refine z_iload C dL_law_1117 rfl ?_
  refine z_iconst (v := iI 1) C dL_law_1119 rfl ?_
  refine z_iaddI (v := (↑i) + 1) C dL_law_1120 (by omega) ?_
  refine z_sldN C hS (z := (↑i) + 1) (i + 1) (by omega) (by omega) (by omega) dL_law_1121 ?_
  refine z_aload_n (i := 0) C dL_law_1122 rfl rfl ?_
  refine z_iload C dL_law_1123 rfl ?_
  refine z_iconst (v := iI 2) C dL_law_1125 rfl ?_
  refine z_iaddI (v := (↑i) + 2) C dL_law_1126 (by omega) ?_
  refine z_sldN C hS (z := (↑i) + 2) (i + 2) (by omega) (by omega) (by omega) dL_law_1127 ?_
  refine z_aload_n (i := 3) C dL_law_1128 rfl rfl ?_
  obtain ⟨PH, PF, hH, hF, hEnd⟩ := pair_bears l hl D cI cZ cM cL h r o k0 G R hrel f (xs (i + 1)) (xs (i + 2))
  refine z_callSH (n := 4) (As := [.ref h, .int (xs (i + 1)), .int (xs (i + 2)), .ref o]) (st := []) (fr := R) C hE hH gL_law_L_bears rfl ⟨rfl, rfl⟩ (by decide +kernel) ⟨Nat.le_of_ble_eq_true rfl, Nat.le_of_ble_eq_true rfl⟩ rfl rfl (List.Perm.of_eq (List.append_assoc _ _ _).symm) (Nat.le_of_ble_eq_true rfl) ⟨by show c9 + 3 ≤ 601024; omega, by show s9 + 18 ≤ 7293034; omega⟩ dL_law_1129 (fun r1 w1 hp1 => ?_)
  obtain ⟨k9, f1, G1, rfl, rfl, hp9⟩ := hEnd r1 w1 hp1
  refine (show zG E Q (c9 + 3) (s9 + 18) ([(o, lr cL 1 f1)] ++ (G1 ++ R)) [some (.ref b), some (.ref h), some (.ref r), some (.ref o), some (.int (iI ↑i)), none, none] 1132 [.int (iI k9)] from ?_)
  refine z_istore (lv' := [some (.ref b), some (.ref h), some (.ref r), some (.ref o), some (.int (iI ↑i)), some (.int (iI k9)), none]) C dL_law_1132 rfl rfl ?_
  refine z_aload_n (i := 2) C dL_law_1134 rfl rfl ?_
  refine z_aload_n (i := 0) C dL_law_1135 rfl rfl ?_
  refine z_iload C dL_law_1136 rfl ?_
  refine z_iconst (v := iI 1) C dL_law_1138 rfl ?_
  refine z_iaddI (v := (↑i) + 1) C dL_law_1139 (by omega) ?_
  refine z_sldN C hS (z := (↑i) + 1) (i + 1) (by omega) (by omega) (by omega) dL_law_1140 ?_
  refine z_aload_n (i := 0) C dL_law_1141 rfl rfl ?_
  refine z_iload C dL_law_1142 rfl ?_
  refine z_iconst (v := iI 2) C dL_law_1144 rfl ?_
  refine z_iaddI (v := (↑i) + 2) C dL_law_1145 (by omega) ?_
  refine z_sldN C hS (z := (↑i) + 2) (i + 2) (by omega) (by omega) (by omega) dL_law_1146 ?_
  refine z_callV (n := 2) (As := [.int (xs (i + 1)), .int (xs (i + 2))]) (st := []) (fr := [(o, lr cL 1 f1)] ++ G1) C hE hF gL_law_X5_bears rfl ⟨rfl, rfl⟩ (by decide +kernel) ⟨Nat.le_of_ble_eq_true rfl, Nat.le_of_ble_eq_true rfl⟩ rfl rfl ((List.Perm.of_eq (List.append_assoc _ _ _).symm).trans List.perm_append_comm) 0 hR0 rfl rfl (Nat.le_of_ble_eq_true rfl) ⟨by show c9 + 3 + 0 ≤ 601024; omega, by show s9 + 18 + 0 ≤ 7293034; omega⟩ dL_law_1147 (fun r2 w2 hp2 => ?_)
  obtain ⟨v9, rfl, hk9, hv9, hrel1⟩ := hp9 r2 w2 hp2
  obtain ⟨fsT, hT0⟩ := hrel1.r0
  have hT9 := REL.thrown l D cL hrel1
  refine z_perm (ws' := [(o, lr cL 1 f1)] ++ (G1 ++ w2)) (List.perm_append_comm.trans (List.Perm.of_eq (List.append_assoc _ _ _))) ?_
  refine (show zG E Q (c9 + 3 + 0) (s9 + 18 + 0) ([(o, lr cL 1 f1)] ++ (G1 ++ w2)) [some (.ref b), some (.ref h), some (.ref r), some (.ref o), some (.int (iI ↑i)), some (.int (iI k9)), none] 1150 [.int v9] from ?_)
  refine z_istore (lv' := [some (.ref b), some (.ref h), some (.ref r), some (.ref o), some (.int (iI ↑i)), some (.int (iI k9)), some (.int v9)]) C dL_law_1150 rfl rfl ?_
  refine z_aload_n (i := 2) C dL_law_1152 rfl rfl ?_
  refine z_callV (n := 0) (As := []) (st := []) (fr := [(o, lr cL 1 f1)] ++ G1) C hE hT9 gL_law_X5_thrown rfl ⟨rfl, rfl⟩ (by decide +kernel) ⟨Nat.le_of_ble_eq_true rfl, Nat.le_of_ble_eq_true rfl⟩ rfl rfl ((List.Perm.of_eq (List.append_assoc _ _ _).symm).trans List.perm_append_comm) 0 hT0 rfl rfl (Nat.le_of_ble_eq_true rfl) ⟨by show c9 + 3 + 0 + 0 ≤ 601024; omega, by show s9 + 18 + 0 + 0 ≤ 7293034; omega⟩ dL_law_1153 (fun r3 w3 hp3 => ?_)
  obtain ⟨rfl, rfl⟩ := hp3
  refine z_perm (ws' := [(o, lr cL 1 f1)] ++ (G1 ++ w3)) (List.perm_append_comm.trans (List.Perm.of_eq (List.append_assoc _ _ _))) ?_
  refine (show zG E Q (c9 + 3 + 0 + 0) (s9 + 18 + 0 + 0) ([(o, lr cL 1 f1)] ++ (G1 ++ w3)) [some (.ref b), some (.ref h), some (.ref r), some (.ref o), some (.int (iI ↑i)), some (.int (iI k9)), some (.int v9)] 1156 [.int (iI k9)] from ?_)
  refine z_iload C dL_law_1156 rfl ?_
  refine z_icmp_eq (tgt := 1163) C dL_law_1158 (by decide) (fun _ => ?_) (fun h => absurd (rfl) h)
  refine z_iload C dL_law_1163 rfl ?_
  refine z_if_neI (tgt := 1187) C dL_law_1165 (by decide) ⟨by omega, by omega⟩ (fun hz => ?_) (fun hz => ?_)
  · refine z_goto (tgt := 1484) C dL_law_1187 (by decide) ?_
    refine z_le (r := [some (.ref b), some (.ref h), some (.ref r), some (.ref o), some (.int (iI ↑i)), none, none]) ⟨Or.inr rfl, Or.inr rfl, Or.inr rfl, Or.inr rfl, Or.inr rfl, Or.inl rfl, Or.inl rfl, trivial⟩ ?_
    exact z_widen (k := c9 + 40) (n := s9 + 400) (by omega) (by omega) (k k9 G1 w3 f1 hrel1)
  · refine z_aload_n (i := 3) C dL_law_1168 rfl rfl ?_
    refine z_iconst (v := iI 0) C dL_law_1169 rfl ?_
    refine z_laload C 0 rfl (zT_of hE (t0 := 3) rfl) (by omega) (by omega) (by decide) dL_law_1170 ?_
    refine z_iload C dL_law_1171 rfl ?_
    refine z_if_eq (tgt := 1180) C dL_law_1173 (by decide) (fun hb => ?_) (fun hb => ?_)
    · refine z_lconst (v := 0) C dL_law_1180 (by decide) ?_
      refine z_lcmp C dL_law_1181 ?_
      refine z_if_eq (tgt := 1187) C dL_law_1182 (by decide) (fun _ => ?_) (fun h => absurd (by rw [hv9 hz, show LZ true v9 = 0 by unfold LZ; rw [if_pos rfl, if_pos hb]]; exact lg_same _) h)
      refine z_goto (tgt := 1484) C dL_law_1187 (by decide) ?_
      refine z_le (r := [some (.ref b), some (.ref h), some (.ref r), some (.ref o), some (.int (iI ↑i)), none, none]) ⟨Or.inr rfl, Or.inr rfl, Or.inr rfl, Or.inr rfl, Or.inr rfl, Or.inl rfl, Or.inl rfl, trivial⟩ ?_
      exact z_widen (k := c9 + 40) (n := s9 + 400) (by omega) (by omega) (k k9 G1 w3 f1 hrel1)
    · refine z_lconst (v := 1) C dL_law_1176 (by decide) ?_
      refine z_goto (tgt := 1181) C dL_law_1177 (by decide) ?_
      refine z_lcmp C dL_law_1181 ?_
      refine z_if_eq (tgt := 1187) C dL_law_1182 (by decide) (fun _ => ?_) (fun h => absurd (by rw [hv9 hz, show LZ true v9 = 1 by unfold LZ; rw [if_pos rfl, if_neg hb]]; exact lg_same _) h)
      refine z_goto (tgt := 1484) C dL_law_1187 (by decide) ?_
      refine z_le (r := [some (.ref b), some (.ref h), some (.ref r), some (.ref o), some (.int (iI ↑i)), none, none]) ⟨Or.inr rfl, Or.inr rfl, Or.inr rfl, Or.inr rfl, Or.inr rfl, Or.inl rfl, Or.inl rfl, trivial⟩ ?_
      exact z_widen (k := c9 + 40) (n := s9 + 400) (by omega) (by omega) (k k9 G1 w3 f1 hrel1)
set_option maxHeartbeats 1000000 in
set_option maxRecDepth 100000 in
theorem law_kindsOf {E : zE} {Q : State → Prop} {l : Launch} (hl : l.stackTraces = false) {D : va_G} {cI cZ cM cL : ClassId} {b h r o L i : Nat} {xs : Nat → Int32} {k0 : Int} {G R : va_W} {f : Int → Int64} {c9 s9 : Nat} (C : zC E cL_law RL wsL_law room_1) (hE : zOf E l D (zTy cI cZ cM cL)) (hS : zScr E b L xs) (hL : L ≤ 2560) (hi : i + 5 ≤ L) (hrel : REL cI cZ cM h r k0 G R) (hc9 : c9 + 40 ≤ 601024) (hs9 : s9 + 400 ≤ 7293034) (k : ∀ (k1 : Int) (G1 R1 : va_W) (f1 : Int → Int64), REL cI cZ cM h r k1 G1 R1 → zG E Q (c9 + 40) (s9 + 400) ([(o, lr cL 1 f1)] ++ (G1 ++ R1)) [some (.ref b), some (.ref h), some (.ref r), some (.ref o), some (.int (iI ↑i)), none, none] 1484 []) : zG E Q c9 s9 ([(o, lr cL 1 f)] ++ (G ++ R)) [some (.ref b), some (.ref h), some (.ref r), some (.ref o), some (.int (iI ↑i)), none, none] 1190 [] := by
  obtain ⟨fsR, hR0⟩ := hrel.r0
  refine z_aload_n (i := 1) C dL_law_1190 rfl rfl ?_
  refine z_aload_n (i := 0) C dL_law_1191 rfl rfl ?_
  refine z_iload C dL_law_1192 rfl ?_
  refine z_iconst (v := iI 1) C dL_law_1194 rfl ?_
  refine z_iaddI (v := (↑i) + 1) C dL_law_1195 (by omega) ?_
  refine z_sldN C hS (z := (↑i) + 1) (i + 1) (by omega) (by omega) (by omega) dL_law_1196 ?_
  refine z_aload_n (i := 3) C dL_law_1197 rfl rfl ?_
  obtain ⟨PH, PF, hH, hF, hEnd⟩ := pair_kindsOf l hl D cI cZ cM cL h r o k0 G R hrel f (xs (i + 1))
  refine z_callSH (n := 3) (As := [.ref h, .int (xs (i + 1)), .ref o]) (st := []) (fr := R) C hE hH gL_law_L_kindsOf rfl ⟨rfl, rfl⟩ (by decide +kernel) ⟨Nat.le_of_ble_eq_true rfl, Nat.le_of_ble_eq_true rfl⟩ rfl rfl (List.Perm.of_eq (List.append_assoc _ _ _).symm) (Nat.le_of_ble_eq_true rfl) ⟨by show c9 + 17 ≤ 601024; omega, by show s9 + 102 ≤ 7293034; omega⟩ dL_law_1198 (fun r1 w1 hp1 => ?_)
  obtain ⟨k9, f1, G1, rfl, rfl, hp9⟩ := hEnd r1 w1 hp1
  refine (show zG E Q (c9 + 17) (s9 + 102) ([(o, lr cL 1 f1)] ++ (G1 ++ R)) [some (.ref b), some (.ref h), some (.ref r), some (.ref o), some (.int (iI ↑i)), none, none] 1201 [.int (iI k9)] from ?_)
  refine z_istore (lv' := [some (.ref b), some (.ref h), some (.ref r), some (.ref o), some (.int (iI ↑i)), some (.int (iI k9)), none]) C dL_law_1201 rfl rfl ?_
  refine z_aload_n (i := 2) C dL_law_1203 rfl rfl ?_
  refine z_aload_n (i := 0) C dL_law_1204 rfl rfl ?_
  refine z_iload C dL_law_1205 rfl ?_
  refine z_iconst (v := iI 1) C dL_law_1207 rfl ?_
  refine z_iaddI (v := (↑i) + 1) C dL_law_1208 (by omega) ?_
  refine z_sldN C hS (z := (↑i) + 1) (i + 1) (by omega) (by omega) (by omega) dL_law_1209 ?_
  refine z_callV (n := 1) (As := [.int (xs (i + 1))]) (st := []) (fr := [(o, lr cL 1 f1)] ++ G1) C hE hF gL_law_X5_kindsOf rfl ⟨rfl, rfl⟩ (by decide +kernel) ⟨Nat.le_of_ble_eq_true rfl, Nat.le_of_ble_eq_true rfl⟩ rfl rfl ((List.Perm.of_eq (List.append_assoc _ _ _).symm).trans List.perm_append_comm) 0 hR0 rfl rfl (Nat.le_of_ble_eq_true rfl) ⟨by show c9 + 17 + 0 ≤ 601024; omega, by show s9 + 102 + 0 ≤ 7293034; omega⟩ dL_law_1210 (fun r2 w2 hp2 => ?_)
  obtain ⟨v9, rfl, hk9, hv9, hrel1⟩ := hp9 r2 w2 hp2
  obtain ⟨fsT, hT0⟩ := hrel1.r0
  have hT9 := REL.thrown l D cL hrel1
  refine z_perm (ws' := [(o, lr cL 1 f1)] ++ (G1 ++ w2)) (List.perm_append_comm.trans (List.Perm.of_eq (List.append_assoc _ _ _))) ?_
  refine (show zG E Q (c9 + 17 + 0) (s9 + 102 + 0) ([(o, lr cL 1 f1)] ++ (G1 ++ w2)) [some (.ref b), some (.ref h), some (.ref r), some (.ref o), some (.int (iI ↑i)), some (.int (iI k9)), none] 1213 [.int v9] from ?_)
  refine z_istore (lv' := [some (.ref b), some (.ref h), some (.ref r), some (.ref o), some (.int (iI ↑i)), some (.int (iI k9)), some (.int v9)]) C dL_law_1213 rfl rfl ?_
  refine z_aload_n (i := 2) C dL_law_1215 rfl rfl ?_
  refine z_callV (n := 0) (As := []) (st := []) (fr := [(o, lr cL 1 f1)] ++ G1) C hE hT9 gL_law_X5_thrown rfl ⟨rfl, rfl⟩ (by decide +kernel) ⟨Nat.le_of_ble_eq_true rfl, Nat.le_of_ble_eq_true rfl⟩ rfl rfl ((List.Perm.of_eq (List.append_assoc _ _ _).symm).trans List.perm_append_comm) 0 hT0 rfl rfl (Nat.le_of_ble_eq_true rfl) ⟨by show c9 + 17 + 0 + 0 ≤ 601024; omega, by show s9 + 102 + 0 + 0 ≤ 7293034; omega⟩ dL_law_1216 (fun r3 w3 hp3 => ?_)
  obtain ⟨rfl, rfl⟩ := hp3
  refine z_perm (ws' := [(o, lr cL 1 f1)] ++ (G1 ++ w3)) (List.perm_append_comm.trans (List.Perm.of_eq (List.append_assoc _ _ _))) ?_
  refine (show zG E Q (c9 + 17 + 0 + 0) (s9 + 102 + 0 + 0) ([(o, lr cL 1 f1)] ++ (G1 ++ w3)) [some (.ref b), some (.ref h), some (.ref r), some (.ref o), some (.int (iI ↑i)), some (.int (iI k9)), some (.int v9)] 1219 [.int (iI k9)] from ?_)
  refine z_iload C dL_law_1219 rfl ?_
  refine z_icmp_eq (tgt := 1226) C dL_law_1221 (by decide) (fun _ => ?_) (fun h => absurd (rfl) h)
  refine z_iload C dL_law_1226 rfl ?_
  refine z_if_neI (tgt := 1243) C dL_law_1228 (by decide) ⟨by omega, by omega⟩ (fun hz => ?_) (fun hz => ?_)
  · refine z_goto (tgt := 1484) C dL_law_1243 (by decide) ?_
    refine z_le (r := [some (.ref b), some (.ref h), some (.ref r), some (.ref o), some (.int (iI ↑i)), none, none]) ⟨Or.inr rfl, Or.inr rfl, Or.inr rfl, Or.inr rfl, Or.inr rfl, Or.inl rfl, Or.inl rfl, trivial⟩ ?_
    exact z_widen (k := c9 + 40) (n := s9 + 400) (by omega) (by omega) (k k9 G1 w3 f1 hrel1)
  · refine z_aload_n (i := 3) C dL_law_1231 rfl rfl ?_
    refine z_iconst (v := iI 0) C dL_law_1232 rfl ?_
    refine z_laload C 0 rfl (zT_of hE (t0 := 3) rfl) (by omega) (by omega) (by decide) dL_law_1233 ?_
    refine z_iload C dL_law_1234 rfl ?_
    refine z_i2l C dL_law_1236 rfl ?_
    refine z_lcmp C dL_law_1237 ?_
    refine z_if_eq (tgt := 1243) C dL_law_1238 (by decide) (fun _ => ?_) (fun h => absurd (by rw [hv9 hz]; exact lg_same _) h)
    refine z_goto (tgt := 1484) C dL_law_1243 (by decide) ?_
    refine z_le (r := [some (.ref b), some (.ref h), some (.ref r), some (.ref o), some (.int (iI ↑i)), none, none]) ⟨Or.inr rfl, Or.inr rfl, Or.inr rfl, Or.inr rfl, Or.inr rfl, Or.inl rfl, Or.inl rfl, trivial⟩ ?_
    exact z_widen (k := c9 + 40) (n := s9 + 400) (by omega) (by omega) (k k9 G1 w3 f1 hrel1)
set_option maxHeartbeats 1000000 in
set_option maxRecDepth 100000 in
theorem law_mayFold {E : zE} {Q : State → Prop} {l : Launch} (hl : l.stackTraces = false) {D : va_G} {cI cZ cM cL : ClassId} {b h r o L i : Nat} {xs : Nat → Int32} {k0 : Int} {G R : va_W} {f : Int → Int64} {c9 s9 : Nat} (C : zC E cL_law RL wsL_law room_1) (hE : zOf E l D (zTy cI cZ cM cL)) (hS : zScr E b L xs) (hL : L ≤ 2560) (hi : i + 5 ≤ L) (hrel : REL cI cZ cM h r k0 G R) (hc9 : c9 + 40 ≤ 601024) (hs9 : s9 + 400 ≤ 7293034) (k : ∀ (k1 : Int) (G1 R1 : va_W) (f1 : Int → Int64), REL cI cZ cM h r k1 G1 R1 → zG E Q (c9 + 40) (s9 + 400) ([(o, lr cL 1 f1)] ++ (G1 ++ R1)) [some (.ref b), some (.ref h), some (.ref r), some (.ref o), some (.int (iI ↑i)), none, none] 1484 []) : zG E Q c9 s9 ([(o, lr cL 1 f)] ++ (G ++ R)) [some (.ref b), some (.ref h), some (.ref r), some (.ref o), some (.int (iI ↑i)), none, none] 1246 [] := by
  obtain ⟨fsR, hR0⟩ := hrel.r0
  refine z_aload_n (i := 1) C dL_law_1246 rfl rfl ?_
  refine z_aload_n (i := 0) C dL_law_1247 rfl rfl ?_
  refine z_iload C dL_law_1248 rfl ?_
  refine z_iconst (v := iI 1) C dL_law_1250 rfl ?_
  refine z_iaddI (v := (↑i) + 1) C dL_law_1251 (by omega) ?_
  refine z_sldN C hS (z := (↑i) + 1) (i + 1) (by omega) (by omega) (by omega) dL_law_1252 ?_
  refine z_aload_n (i := 0) C dL_law_1253 rfl rfl ?_
  refine z_iload C dL_law_1254 rfl ?_
  refine z_iconst (v := iI 2) C dL_law_1256 rfl ?_
  refine z_iaddI (v := (↑i) + 2) C dL_law_1257 (by omega) ?_
  refine z_sldN C hS (z := (↑i) + 2) (i + 2) (by omega) (by omega) (by omega) dL_law_1258 ?_
  refine z_aload_n (i := 3) C dL_law_1259 rfl rfl ?_
  obtain ⟨PH, PF, hH, hF, hEnd⟩ := pair_mayFold l hl D cI cZ cM cL h r o k0 G R hrel f (xs (i + 1)) (xs (i + 2))
  refine z_callSH (n := 4) (As := [.ref h, .int (xs (i + 1)), .int (xs (i + 2)), .ref o]) (st := []) (fr := R) C hE hH gL_law_L_mayFold rfl ⟨rfl, rfl⟩ (by decide +kernel) ⟨Nat.le_of_ble_eq_true rfl, Nat.le_of_ble_eq_true rfl⟩ rfl rfl (List.Perm.of_eq (List.append_assoc _ _ _).symm) (Nat.le_of_ble_eq_true rfl) ⟨by show c9 + 18 ≤ 601024; omega, by show s9 + 108 ≤ 7293034; omega⟩ dL_law_1260 (fun r1 w1 hp1 => ?_)
  obtain ⟨k9, f1, G1, rfl, rfl, hp9⟩ := hEnd r1 w1 hp1
  refine (show zG E Q (c9 + 18) (s9 + 108) ([(o, lr cL 1 f1)] ++ (G1 ++ R)) [some (.ref b), some (.ref h), some (.ref r), some (.ref o), some (.int (iI ↑i)), none, none] 1263 [.int (iI k9)] from ?_)
  refine z_istore (lv' := [some (.ref b), some (.ref h), some (.ref r), some (.ref o), some (.int (iI ↑i)), some (.int (iI k9)), none]) C dL_law_1263 rfl rfl ?_
  refine z_aload_n (i := 2) C dL_law_1265 rfl rfl ?_
  refine z_aload_n (i := 0) C dL_law_1266 rfl rfl ?_
  refine z_iload C dL_law_1267 rfl ?_
  refine z_iconst (v := iI 1) C dL_law_1269 rfl ?_
  refine z_iaddI (v := (↑i) + 1) C dL_law_1270 (by omega) ?_
  refine z_sldN C hS (z := (↑i) + 1) (i + 1) (by omega) (by omega) (by omega) dL_law_1271 ?_
  refine z_aload_n (i := 0) C dL_law_1272 rfl rfl ?_
  refine z_iload C dL_law_1273 rfl ?_
  refine z_iconst (v := iI 2) C dL_law_1275 rfl ?_
  refine z_iaddI (v := (↑i) + 2) C dL_law_1276 (by omega) ?_
  refine z_sldN C hS (z := (↑i) + 2) (i + 2) (by omega) (by omega) (by omega) dL_law_1277 ?_
  refine z_callV (n := 2) (As := [.int (xs (i + 1)), .int (xs (i + 2))]) (st := []) (fr := [(o, lr cL 1 f1)] ++ G1) C hE hF gL_law_X5_mayFold rfl ⟨rfl, rfl⟩ (by decide +kernel) ⟨Nat.le_of_ble_eq_true rfl, Nat.le_of_ble_eq_true rfl⟩ rfl rfl ((List.Perm.of_eq (List.append_assoc _ _ _).symm).trans List.perm_append_comm) 0 hR0 rfl rfl (Nat.le_of_ble_eq_true rfl) ⟨by show c9 + 18 + 0 ≤ 601024; omega, by show s9 + 108 + 0 ≤ 7293034; omega⟩ dL_law_1278 (fun r2 w2 hp2 => ?_)
  obtain ⟨v9, rfl, hk9, hv9, hrel1⟩ := hp9 r2 w2 hp2
  obtain ⟨fsT, hT0⟩ := hrel1.r0
  have hT9 := REL.thrown l D cL hrel1
  refine z_perm (ws' := [(o, lr cL 1 f1)] ++ (G1 ++ w2)) (List.perm_append_comm.trans (List.Perm.of_eq (List.append_assoc _ _ _))) ?_
  refine (show zG E Q (c9 + 18 + 0) (s9 + 108 + 0) ([(o, lr cL 1 f1)] ++ (G1 ++ w2)) [some (.ref b), some (.ref h), some (.ref r), some (.ref o), some (.int (iI ↑i)), some (.int (iI k9)), none] 1281 [.int v9] from ?_)
  refine z_istore (lv' := [some (.ref b), some (.ref h), some (.ref r), some (.ref o), some (.int (iI ↑i)), some (.int (iI k9)), some (.int v9)]) C dL_law_1281 rfl rfl ?_
  refine z_aload_n (i := 2) C dL_law_1283 rfl rfl ?_
  refine z_callV (n := 0) (As := []) (st := []) (fr := [(o, lr cL 1 f1)] ++ G1) C hE hT9 gL_law_X5_thrown rfl ⟨rfl, rfl⟩ (by decide +kernel) ⟨Nat.le_of_ble_eq_true rfl, Nat.le_of_ble_eq_true rfl⟩ rfl rfl ((List.Perm.of_eq (List.append_assoc _ _ _).symm).trans List.perm_append_comm) 0 hT0 rfl rfl (Nat.le_of_ble_eq_true rfl) ⟨by show c9 + 18 + 0 + 0 ≤ 601024; omega, by show s9 + 108 + 0 + 0 ≤ 7293034; omega⟩ dL_law_1284 (fun r3 w3 hp3 => ?_)
  obtain ⟨rfl, rfl⟩ := hp3
  refine z_perm (ws' := [(o, lr cL 1 f1)] ++ (G1 ++ w3)) (List.perm_append_comm.trans (List.Perm.of_eq (List.append_assoc _ _ _))) ?_
  refine (show zG E Q (c9 + 18 + 0 + 0) (s9 + 108 + 0 + 0) ([(o, lr cL 1 f1)] ++ (G1 ++ w3)) [some (.ref b), some (.ref h), some (.ref r), some (.ref o), some (.int (iI ↑i)), some (.int (iI k9)), some (.int v9)] 1287 [.int (iI k9)] from ?_)
  refine z_iload C dL_law_1287 rfl ?_
  refine z_icmp_eq (tgt := 1294) C dL_law_1289 (by decide) (fun _ => ?_) (fun h => absurd (rfl) h)
  refine z_iload C dL_law_1294 rfl ?_
  refine z_if_neI (tgt := 1318) C dL_law_1296 (by decide) ⟨by omega, by omega⟩ (fun hz => ?_) (fun hz => ?_)
  · refine z_goto (tgt := 1484) C dL_law_1318 (by decide) ?_
    refine z_le (r := [some (.ref b), some (.ref h), some (.ref r), some (.ref o), some (.int (iI ↑i)), none, none]) ⟨Or.inr rfl, Or.inr rfl, Or.inr rfl, Or.inr rfl, Or.inr rfl, Or.inl rfl, Or.inl rfl, trivial⟩ ?_
    exact z_widen (k := c9 + 40) (n := s9 + 400) (by omega) (by omega) (k k9 G1 w3 f1 hrel1)
  · refine z_aload_n (i := 3) C dL_law_1299 rfl rfl ?_
    refine z_iconst (v := iI 0) C dL_law_1300 rfl ?_
    refine z_laload C 0 rfl (zT_of hE (t0 := 3) rfl) (by omega) (by omega) (by decide) dL_law_1301 ?_
    refine z_iload C dL_law_1302 rfl ?_
    refine z_if_eq (tgt := 1311) C dL_law_1304 (by decide) (fun hb => ?_) (fun hb => ?_)
    · refine z_lconst (v := 0) C dL_law_1311 (by decide) ?_
      refine z_lcmp C dL_law_1312 ?_
      refine z_if_eq (tgt := 1318) C dL_law_1313 (by decide) (fun _ => ?_) (fun h => absurd (by rw [hv9 hz, show LZ true v9 = 0 by unfold LZ; rw [if_pos rfl, if_pos hb]]; exact lg_same _) h)
      refine z_goto (tgt := 1484) C dL_law_1318 (by decide) ?_
      refine z_le (r := [some (.ref b), some (.ref h), some (.ref r), some (.ref o), some (.int (iI ↑i)), none, none]) ⟨Or.inr rfl, Or.inr rfl, Or.inr rfl, Or.inr rfl, Or.inr rfl, Or.inl rfl, Or.inl rfl, trivial⟩ ?_
      exact z_widen (k := c9 + 40) (n := s9 + 400) (by omega) (by omega) (k k9 G1 w3 f1 hrel1)
    · refine z_lconst (v := 1) C dL_law_1307 (by decide) ?_
      refine z_goto (tgt := 1312) C dL_law_1308 (by decide) ?_
      refine z_lcmp C dL_law_1312 ?_
      refine z_if_eq (tgt := 1318) C dL_law_1313 (by decide) (fun _ => ?_) (fun h => absurd (by rw [hv9 hz, show LZ true v9 = 1 by unfold LZ; rw [if_pos rfl, if_neg hb]]; exact lg_same _) h)
      refine z_goto (tgt := 1484) C dL_law_1318 (by decide) ?_
      refine z_le (r := [some (.ref b), some (.ref h), some (.ref r), some (.ref o), some (.int (iI ↑i)), none, none]) ⟨Or.inr rfl, Or.inr rfl, Or.inr rfl, Or.inr rfl, Or.inr rfl, Or.inl rfl, Or.inl rfl, trivial⟩ ?_
      exact z_widen (k := c9 + 40) (n := s9 + 400) (by omega) (by omega) (k k9 G1 w3 f1 hrel1)
set_option maxHeartbeats 1000000 in
set_option maxRecDepth 100000 in
theorem law_lessons {E : zE} {Q : State → Prop} {l : Launch} (hl : l.stackTraces = false) {D : va_G} {cI cZ cM cL : ClassId} {b h r o L i : Nat} {xs : Nat → Int32} {k0 : Int} {G R : va_W} {f : Int → Int64} {c9 s9 : Nat} (C : zC E cL_law RL wsL_law room_1) (hE : zOf E l D (zTy cI cZ cM cL)) (hS : zScr E b L xs) (hL : L ≤ 2560) (hi : i + 5 ≤ L) (hrel : REL cI cZ cM h r k0 G R) (hc9 : c9 + 40 ≤ 601024) (hs9 : s9 + 400 ≤ 7293034) (k : ∀ (k1 : Int) (G1 R1 : va_W) (f1 : Int → Int64), REL cI cZ cM h r k1 G1 R1 → zG E Q (c9 + 40) (s9 + 400) ([(o, lr cL 1 f1)] ++ (G1 ++ R1)) [some (.ref b), some (.ref h), some (.ref r), some (.ref o), some (.int (iI ↑i)), none, none] 1484 []) : zG E Q c9 s9 ([(o, lr cL 1 f)] ++ (G ++ R)) [some (.ref b), some (.ref h), some (.ref r), some (.ref o), some (.int (iI ↑i)), none, none] 1321 [] := by
  obtain ⟨fsR, hR0⟩ := hrel.r0
  refine z_aload_n (i := 1) C dL_law_1321 rfl rfl ?_
  refine z_aload_n (i := 0) C dL_law_1322 rfl rfl ?_
  refine z_iload C dL_law_1323 rfl ?_
  refine z_iconst (v := iI 1) C dL_law_1325 rfl ?_
  refine z_iaddI (v := (↑i) + 1) C dL_law_1326 (by omega) ?_
  refine z_sldN C hS (z := (↑i) + 1) (i + 1) (by omega) (by omega) (by omega) dL_law_1327 ?_
  refine z_aload_n (i := 0) C dL_law_1328 rfl rfl ?_
  refine z_iload C dL_law_1329 rfl ?_
  refine z_iconst (v := iI 2) C dL_law_1331 rfl ?_
  refine z_iaddI (v := (↑i) + 2) C dL_law_1332 (by omega) ?_
  refine z_sldN C hS (z := (↑i) + 2) (i + 2) (by omega) (by omega) (by omega) dL_law_1333 ?_
  refine z_aload_n (i := 3) C dL_law_1334 rfl rfl ?_
  obtain ⟨PH, PF, hH, hF, hEnd⟩ := pair_lessons l hl D cI cZ cM cL h r o k0 G R hrel f (xs (i + 1)) (xs (i + 2))
  refine z_callSH (n := 4) (As := [.ref h, .int (xs (i + 1)), .int (xs (i + 2)), .ref o]) (st := []) (fr := R) C hE hH gL_law_L_lessons rfl ⟨rfl, rfl⟩ (by decide +kernel) ⟨Nat.le_of_ble_eq_true rfl, Nat.le_of_ble_eq_true rfl⟩ rfl rfl (List.Perm.of_eq (List.append_assoc _ _ _).symm) (Nat.le_of_ble_eq_true rfl) ⟨by show c9 + 18 ≤ 601024; omega, by show s9 + 108 ≤ 7293034; omega⟩ dL_law_1335 (fun r1 w1 hp1 => ?_)
  obtain ⟨k9, f1, G1, rfl, rfl, hp9⟩ := hEnd r1 w1 hp1
  refine (show zG E Q (c9 + 18) (s9 + 108) ([(o, lr cL 1 f1)] ++ (G1 ++ R)) [some (.ref b), some (.ref h), some (.ref r), some (.ref o), some (.int (iI ↑i)), none, none] 1338 [.int (iI k9)] from ?_)
  refine z_istore (lv' := [some (.ref b), some (.ref h), some (.ref r), some (.ref o), some (.int (iI ↑i)), some (.int (iI k9)), none]) C dL_law_1338 rfl rfl ?_
  refine z_aload_n (i := 2) C dL_law_1340 rfl rfl ?_
  refine z_aload_n (i := 0) C dL_law_1341 rfl rfl ?_
  refine z_iload C dL_law_1342 rfl ?_
  refine z_iconst (v := iI 1) C dL_law_1344 rfl ?_
  refine z_iaddI (v := (↑i) + 1) C dL_law_1345 (by omega) ?_
  refine z_sldN C hS (z := (↑i) + 1) (i + 1) (by omega) (by omega) (by omega) dL_law_1346 ?_
  refine z_aload_n (i := 0) C dL_law_1347 rfl rfl ?_
  refine z_iload C dL_law_1348 rfl ?_
  refine z_iconst (v := iI 2) C dL_law_1350 rfl ?_
  refine z_iaddI (v := (↑i) + 2) C dL_law_1351 (by omega) ?_
  refine z_sldN C hS (z := (↑i) + 2) (i + 2) (by omega) (by omega) (by omega) dL_law_1352 ?_
  refine z_callV (n := 2) (As := [.int (xs (i + 1)), .int (xs (i + 2))]) (st := []) (fr := [(o, lr cL 1 f1)] ++ G1) C hE hF gL_law_X5_lessons rfl ⟨rfl, rfl⟩ (by decide +kernel) ⟨Nat.le_of_ble_eq_true rfl, Nat.le_of_ble_eq_true rfl⟩ rfl rfl ((List.Perm.of_eq (List.append_assoc _ _ _).symm).trans List.perm_append_comm) 0 hR0 rfl rfl (Nat.le_of_ble_eq_true rfl) ⟨by show c9 + 18 + 0 ≤ 601024; omega, by show s9 + 108 + 0 ≤ 7293034; omega⟩ dL_law_1353 (fun r2 w2 hp2 => ?_)
  obtain ⟨v9, rfl, hk9, hv9, hrel1⟩ := hp9 r2 w2 hp2
  obtain ⟨fsT, hT0⟩ := hrel1.r0
  have hT9 := REL.thrown l D cL hrel1
  refine z_perm (ws' := [(o, lr cL 1 f1)] ++ (G1 ++ w2)) (List.perm_append_comm.trans (List.Perm.of_eq (List.append_assoc _ _ _))) ?_
  refine (show zG E Q (c9 + 18 + 0) (s9 + 108 + 0) ([(o, lr cL 1 f1)] ++ (G1 ++ w2)) [some (.ref b), some (.ref h), some (.ref r), some (.ref o), some (.int (iI ↑i)), some (.int (iI k9)), none] 1356 [.int v9] from ?_)
  refine z_istore (lv' := [some (.ref b), some (.ref h), some (.ref r), some (.ref o), some (.int (iI ↑i)), some (.int (iI k9)), some (.int v9)]) C dL_law_1356 rfl rfl ?_
  refine z_aload_n (i := 2) C dL_law_1358 rfl rfl ?_
  refine z_callV (n := 0) (As := []) (st := []) (fr := [(o, lr cL 1 f1)] ++ G1) C hE hT9 gL_law_X5_thrown rfl ⟨rfl, rfl⟩ (by decide +kernel) ⟨Nat.le_of_ble_eq_true rfl, Nat.le_of_ble_eq_true rfl⟩ rfl rfl ((List.Perm.of_eq (List.append_assoc _ _ _).symm).trans List.perm_append_comm) 0 hT0 rfl rfl (Nat.le_of_ble_eq_true rfl) ⟨by show c9 + 18 + 0 + 0 ≤ 601024; omega, by show s9 + 108 + 0 + 0 ≤ 7293034; omega⟩ dL_law_1359 (fun r3 w3 hp3 => ?_)
  obtain ⟨rfl, rfl⟩ := hp3
  refine z_perm (ws' := [(o, lr cL 1 f1)] ++ (G1 ++ w3)) (List.perm_append_comm.trans (List.Perm.of_eq (List.append_assoc _ _ _))) ?_
  refine (show zG E Q (c9 + 18 + 0 + 0) (s9 + 108 + 0 + 0) ([(o, lr cL 1 f1)] ++ (G1 ++ w3)) [some (.ref b), some (.ref h), some (.ref r), some (.ref o), some (.int (iI ↑i)), some (.int (iI k9)), some (.int v9)] 1362 [.int (iI k9)] from ?_)
  refine z_iload C dL_law_1362 rfl ?_
  refine z_icmp_eq (tgt := 1369) C dL_law_1364 (by decide) (fun _ => ?_) (fun h => absurd (rfl) h)
  refine z_iload C dL_law_1369 rfl ?_
  refine z_if_neI (tgt := 1386) C dL_law_1371 (by decide) ⟨by omega, by omega⟩ (fun hz => ?_) (fun hz => ?_)
  · refine z_goto (tgt := 1484) C dL_law_1386 (by decide) ?_
    refine z_le (r := [some (.ref b), some (.ref h), some (.ref r), some (.ref o), some (.int (iI ↑i)), none, none]) ⟨Or.inr rfl, Or.inr rfl, Or.inr rfl, Or.inr rfl, Or.inr rfl, Or.inl rfl, Or.inl rfl, trivial⟩ ?_
    exact z_widen (k := c9 + 40) (n := s9 + 400) (by omega) (by omega) (k k9 G1 w3 f1 hrel1)
  · refine z_aload_n (i := 3) C dL_law_1374 rfl rfl ?_
    refine z_iconst (v := iI 0) C dL_law_1375 rfl ?_
    refine z_laload C 0 rfl (zT_of hE (t0 := 3) rfl) (by omega) (by omega) (by decide) dL_law_1376 ?_
    refine z_iload C dL_law_1377 rfl ?_
    refine z_i2l C dL_law_1379 rfl ?_
    refine z_lcmp C dL_law_1380 ?_
    refine z_if_eq (tgt := 1386) C dL_law_1381 (by decide) (fun _ => ?_) (fun h => absurd (by rw [hv9 hz]; exact lg_same _) h)
    refine z_goto (tgt := 1484) C dL_law_1386 (by decide) ?_
    refine z_le (r := [some (.ref b), some (.ref h), some (.ref r), some (.ref o), some (.int (iI ↑i)), none, none]) ⟨Or.inr rfl, Or.inr rfl, Or.inr rfl, Or.inr rfl, Or.inr rfl, Or.inl rfl, Or.inl rfl, trivial⟩ ?_
    exact z_widen (k := c9 + 40) (n := s9 + 400) (by omega) (by omega) (k k9 G1 w3 f1 hrel1)
set_option maxHeartbeats 1000000 in
set_option maxRecDepth 100000 in
theorem law_credit {E : zE} {Q : State → Prop} {l : Launch} (hl : l.stackTraces = false) {D : va_G} {cI cZ cM cL : ClassId} {b h r o L i : Nat} {xs : Nat → Int32} {k0 : Int} {G R : va_W} {f : Int → Int64} {c9 s9 : Nat} (C : zC E cL_law RL wsL_law room_1) (hE : zOf E l D (zTy cI cZ cM cL)) (hS : zScr E b L xs) (hL : L ≤ 2560) (hi : i + 5 ≤ L) (hrel : REL cI cZ cM h r k0 G R) (hc9 : c9 + 40 ≤ 601024) (hs9 : s9 + 400 ≤ 7293034) (k : ∀ (k1 : Int) (G1 R1 : va_W) (f1 : Int → Int64), REL cI cZ cM h r k1 G1 R1 → zG E Q (c9 + 40) (s9 + 400) ([(o, lr cL 1 f1)] ++ (G1 ++ R1)) [some (.ref b), some (.ref h), some (.ref r), some (.ref o), some (.int (iI ↑i)), none, none] 1484 []) : zG E Q c9 s9 ([(o, lr cL 1 f)] ++ (G ++ R)) [some (.ref b), some (.ref h), some (.ref r), some (.ref o), some (.int (iI ↑i)), none, none] 1389 [] := by
  obtain ⟨fsR, hR0⟩ := hrel.r0
  refine z_aload_n (i := 1) C dL_law_1389 rfl rfl ?_
  refine z_aload_n (i := 0) C dL_law_1390 rfl rfl ?_
  refine z_iload C dL_law_1391 rfl ?_
  refine z_iconst (v := iI 1) C dL_law_1393 rfl ?_
  refine z_iaddI (v := (↑i) + 1) C dL_law_1394 (by omega) ?_
  refine z_sldN C hS (z := (↑i) + 1) (i + 1) (by omega) (by omega) (by omega) dL_law_1395 ?_
  refine z_aload_n (i := 3) C dL_law_1396 rfl rfl ?_
  obtain ⟨PH, PF, hH, hF, hEnd⟩ := pair_credit l hl D cI cZ cM cL h r o k0 G R hrel f (xs (i + 1))
  refine z_callSH (n := 3) (As := [.ref h, .int (xs (i + 1)), .ref o]) (st := []) (fr := R) C hE hH gL_law_L_credit rfl ⟨rfl, rfl⟩ (by decide +kernel) ⟨Nat.le_of_ble_eq_true rfl, Nat.le_of_ble_eq_true rfl⟩ rfl rfl (List.Perm.of_eq (List.append_assoc _ _ _).symm) (Nat.le_of_ble_eq_true rfl) ⟨by show c9 + 17 ≤ 601024; omega, by show s9 + 102 ≤ 7293034; omega⟩ dL_law_1397 (fun r1 w1 hp1 => ?_)
  obtain ⟨k9, f1, G1, rfl, rfl, hp9⟩ := hEnd r1 w1 hp1
  refine (show zG E Q (c9 + 17) (s9 + 102) ([(o, lr cL 1 f1)] ++ (G1 ++ R)) [some (.ref b), some (.ref h), some (.ref r), some (.ref o), some (.int (iI ↑i)), none, none] 1400 [.int (iI k9)] from ?_)
  refine z_istore (lv' := [some (.ref b), some (.ref h), some (.ref r), some (.ref o), some (.int (iI ↑i)), some (.int (iI k9)), none]) C dL_law_1400 rfl rfl ?_
  refine z_aload_n (i := 2) C dL_law_1402 rfl rfl ?_
  refine z_aload_n (i := 0) C dL_law_1403 rfl rfl ?_
  refine z_iload C dL_law_1404 rfl ?_
  refine z_iconst (v := iI 1) C dL_law_1406 rfl ?_
  refine z_iaddI (v := (↑i) + 1) C dL_law_1407 (by omega) ?_
  refine z_sldN C hS (z := (↑i) + 1) (i + 1) (by omega) (by omega) (by omega) dL_law_1408 ?_
  refine z_callV (n := 1) (As := [.int (xs (i + 1))]) (st := []) (fr := [(o, lr cL 1 f1)] ++ G1) C hE hF gL_law_X5_credit rfl ⟨rfl, rfl⟩ (by decide +kernel) ⟨Nat.le_of_ble_eq_true rfl, Nat.le_of_ble_eq_true rfl⟩ rfl rfl ((List.Perm.of_eq (List.append_assoc _ _ _).symm).trans List.perm_append_comm) 0 hR0 rfl rfl (Nat.le_of_ble_eq_true rfl) ⟨by show c9 + 17 + 0 ≤ 601024; omega, by show s9 + 102 + 0 ≤ 7293034; omega⟩ dL_law_1409 (fun r2 w2 hp2 => ?_)
  obtain ⟨v9, rfl, hk9, hv9, hrel1⟩ := hp9 r2 w2 hp2
  obtain ⟨fsT, hT0⟩ := hrel1.r0
  have hT9 := REL.thrown l D cL hrel1
  refine z_perm (ws' := [(o, lr cL 1 f1)] ++ (G1 ++ w2)) (List.perm_append_comm.trans (List.Perm.of_eq (List.append_assoc _ _ _))) ?_
  refine (show zG E Q (c9 + 17 + 0) (s9 + 102 + 0) ([(o, lr cL 1 f1)] ++ (G1 ++ w2)) [some (.ref b), some (.ref h), some (.ref r), some (.ref o), some (.int (iI ↑i)), some (.int (iI k9)), none] 1412 [.int v9] from ?_)
  refine z_istore (lv' := [some (.ref b), some (.ref h), some (.ref r), some (.ref o), some (.int (iI ↑i)), some (.int (iI k9)), some (.int v9)]) C dL_law_1412 rfl rfl ?_
  refine z_aload_n (i := 2) C dL_law_1414 rfl rfl ?_
  refine z_callV (n := 0) (As := []) (st := []) (fr := [(o, lr cL 1 f1)] ++ G1) C hE hT9 gL_law_X5_thrown rfl ⟨rfl, rfl⟩ (by decide +kernel) ⟨Nat.le_of_ble_eq_true rfl, Nat.le_of_ble_eq_true rfl⟩ rfl rfl ((List.Perm.of_eq (List.append_assoc _ _ _).symm).trans List.perm_append_comm) 0 hT0 rfl rfl (Nat.le_of_ble_eq_true rfl) ⟨by show c9 + 17 + 0 + 0 ≤ 601024; omega, by show s9 + 102 + 0 + 0 ≤ 7293034; omega⟩ dL_law_1415 (fun r3 w3 hp3 => ?_)
  obtain ⟨rfl, rfl⟩ := hp3
  refine z_perm (ws' := [(o, lr cL 1 f1)] ++ (G1 ++ w3)) (List.perm_append_comm.trans (List.Perm.of_eq (List.append_assoc _ _ _))) ?_
  refine (show zG E Q (c9 + 17 + 0 + 0) (s9 + 102 + 0 + 0) ([(o, lr cL 1 f1)] ++ (G1 ++ w3)) [some (.ref b), some (.ref h), some (.ref r), some (.ref o), some (.int (iI ↑i)), some (.int (iI k9)), some (.int v9)] 1418 [.int (iI k9)] from ?_)
  refine z_iload C dL_law_1418 rfl ?_
  refine z_icmp_eq (tgt := 1425) C dL_law_1420 (by decide) (fun _ => ?_) (fun h => absurd (rfl) h)
  refine z_iload C dL_law_1425 rfl ?_
  refine z_if_neI (tgt := 1442) C dL_law_1427 (by decide) ⟨by omega, by omega⟩ (fun hz => ?_) (fun hz => ?_)
  · refine z_goto (tgt := 1484) C dL_law_1442 (by decide) ?_
    refine z_le (r := [some (.ref b), some (.ref h), some (.ref r), some (.ref o), some (.int (iI ↑i)), none, none]) ⟨Or.inr rfl, Or.inr rfl, Or.inr rfl, Or.inr rfl, Or.inr rfl, Or.inl rfl, Or.inl rfl, trivial⟩ ?_
    exact z_widen (k := c9 + 40) (n := s9 + 400) (by omega) (by omega) (k k9 G1 w3 f1 hrel1)
  · refine z_aload_n (i := 3) C dL_law_1430 rfl rfl ?_
    refine z_iconst (v := iI 0) C dL_law_1431 rfl ?_
    refine z_laload C 0 rfl (zT_of hE (t0 := 3) rfl) (by omega) (by omega) (by decide) dL_law_1432 ?_
    refine z_iload C dL_law_1433 rfl ?_
    refine z_i2l C dL_law_1435 rfl ?_
    refine z_lcmp C dL_law_1436 ?_
    refine z_if_eq (tgt := 1442) C dL_law_1437 (by decide) (fun _ => ?_) (fun h => absurd (by rw [hv9 hz]; exact lg_same _) h)
    refine z_goto (tgt := 1484) C dL_law_1442 (by decide) ?_
    refine z_le (r := [some (.ref b), some (.ref h), some (.ref r), some (.ref o), some (.int (iI ↑i)), none, none]) ⟨Or.inr rfl, Or.inr rfl, Or.inr rfl, Or.inr rfl, Or.inr rfl, Or.inl rfl, Or.inl rfl, trivial⟩ ?_
    exact z_widen (k := c9 + 40) (n := s9 + 400) (by omega) (by omega) (k k9 G1 w3 f1 hrel1)
set_option maxHeartbeats 1000000 in
set_option maxRecDepth 100000 in
theorem law_models {E : zE} {Q : State → Prop} {l : Launch} (hl : l.stackTraces = false) {D : va_G} {cI cZ cM cL : ClassId} {b h r o L i : Nat} {xs : Nat → Int32} {k0 : Int} {G R : va_W} {f : Int → Int64} {c9 s9 : Nat} (C : zC E cL_law RL wsL_law room_1) (hE : zOf E l D (zTy cI cZ cM cL)) (hS : zScr E b L xs) (hL : L ≤ 2560) (hi : i + 5 ≤ L) (hrel : REL cI cZ cM h r k0 G R) (hc9 : c9 + 40 ≤ 601024) (hs9 : s9 + 400 ≤ 7293034) (k : ∀ (k1 : Int) (G1 R1 : va_W) (f1 : Int → Int64), REL cI cZ cM h r k1 G1 R1 → zG E Q (c9 + 40) (s9 + 400) ([(o, lr cL 1 f1)] ++ (G1 ++ R1)) [some (.ref b), some (.ref h), some (.ref r), some (.ref o), some (.int (iI ↑i)), none, none] 1484 []) : zG E Q c9 s9 ([(o, lr cL 1 f)] ++ (G ++ R)) [some (.ref b), some (.ref h), some (.ref r), some (.ref o), some (.int (iI ↑i)), none, none] 655 [] := by
  obtain ⟨fsR, hR0⟩ := hrel.r0
  obtain ⟨fsG, hG0⟩ := hrel.g0
  obtain ⟨PH, PF, hH, hF, hEnd⟩ := pair_models l hl D cI cZ cM cL h r k0 G R hrel
  refine z_aload_n (i := 1) C dL_law_655 rfl rfl ?_
  refine z_callV (n := 0) (As := []) (st := []) (fr := [(o, lr cL 1 f)] ++ R) C hE hH gL_law_X4_models rfl ⟨rfl, rfl⟩ (by decide +kernel) ⟨Nat.le_of_ble_eq_true rfl, Nat.le_of_ble_eq_true rfl⟩ rfl rfl pm_mid 0 hG0 rfl rfl (Nat.le_of_ble_eq_true rfl) ⟨by show c9 + 0 ≤ 601024; omega, by show s9 + 0 ≤ 7293034; omega⟩ dL_law_656 (fun r1 w1 hp1 => ?_)
  obtain ⟨v9, rfl, hp9⟩ := hEnd r1 w1 hp1
  refine z_perm (ws' := [(o, lr cL 1 f)] ++ (w1 ++ R)) pm_mid.symm ?_
  refine (show zG E Q (c9 + 0) (s9 + 0) ([(o, lr cL 1 f)] ++ (w1 ++ R)) [some (.ref b), some (.ref h), some (.ref r), some (.ref o), some (.int (iI ↑i)), none, none] 659 [.int v9] from ?_)
  refine z_aload_n (i := 2) C dL_law_659 rfl rfl ?_
  refine z_callV (n := 0) (As := []) (st := [.int v9]) (fr := [(o, lr cL 1 f)] ++ w1) C hE hF gL_law_X5_models rfl ⟨rfl, rfl⟩ (by decide +kernel) ⟨Nat.le_of_ble_eq_true rfl, Nat.le_of_ble_eq_true rfl⟩ rfl rfl ((List.Perm.of_eq (List.append_assoc _ _ _).symm).trans List.perm_append_comm) 0 hR0 rfl rfl (Nat.le_of_ble_eq_true rfl) ⟨by show c9 + 0 + 0 ≤ 601024; omega, by show s9 + 0 + 0 ≤ 7293034; omega⟩ dL_law_660 (fun r2 w2 hp2 => ?_)
  obtain ⟨rfl, hrel1⟩ := hp9 r2 w2 hp2
  refine z_perm (ws' := [(o, lr cL 1 f)] ++ (w1 ++ w2)) (List.perm_append_comm.trans (List.Perm.of_eq (List.append_assoc _ _ _))) ?_
  refine (show zG E Q (c9 + 0 + 0) (s9 + 0 + 0) ([(o, lr cL 1 f)] ++ (w1 ++ w2)) [some (.ref b), some (.ref h), some (.ref r), some (.ref o), some (.int (iI ↑i)), none, none] 663 [.int v9, .int v9] from ?_)
  refine z_icmp_eq (tgt := 1484) C dL_law_663 (by decide) (fun _ => ?_) (fun h => absurd (rfl) h)
  exact z_widen (k := c9 + 40) (n := s9 + 400) (by omega) (by omega) (k 0 w1 w2 f hrel1)
set_option maxHeartbeats 1000000 in
set_option maxRecDepth 100000 in
theorem law_fewestPieces {E : zE} {Q : State → Prop} {l : Launch} (hl : l.stackTraces = false) {D : va_G} {cI cZ cM cL : ClassId} {b h r o L i : Nat} {xs : Nat → Int32} {k0 : Int} {G R : va_W} {f : Int → Int64} {c9 s9 : Nat} (C : zC E cL_law RL wsL_law room_1) (hE : zOf E l D (zTy cI cZ cM cL)) (hS : zScr E b L xs) (hL : L ≤ 2560) (hi : i + 5 ≤ L) (hrel : REL cI cZ cM h r k0 G R) (hc9 : c9 + 40 ≤ 601024) (hs9 : s9 + 400 ≤ 7293034) (k : ∀ (k1 : Int) (G1 R1 : va_W) (f1 : Int → Int64), REL cI cZ cM h r k1 G1 R1 → zG E Q (c9 + 40) (s9 + 400) ([(o, lr cL 1 f1)] ++ (G1 ++ R1)) [some (.ref b), some (.ref h), some (.ref r), some (.ref o), some (.int (iI ↑i)), none, none] 1484 []) : zG E Q c9 s9 ([(o, lr cL 1 f)] ++ (G ++ R)) [some (.ref b), some (.ref h), some (.ref r), some (.ref o), some (.int (iI ↑i)), none, none] 1445 [] := by
  obtain ⟨fsR, hR0⟩ := hrel.r0
  obtain ⟨fsG, hG0⟩ := hrel.g0
  obtain ⟨PH, PF, hH, hF, hEnd⟩ := pair_fewestPieces l hl D cI cZ cM cL h r k0 G R hrel
  refine z_aload_n (i := 1) C dL_law_1445 rfl rfl ?_
  refine z_callV (n := 0) (As := []) (st := []) (fr := [(o, lr cL 1 f)] ++ R) C hE hH gL_law_X4_fewestPieces rfl ⟨rfl, rfl⟩ (by decide +kernel) ⟨Nat.le_of_ble_eq_true rfl, Nat.le_of_ble_eq_true rfl⟩ rfl rfl pm_mid 0 hG0 rfl rfl (Nat.le_of_ble_eq_true rfl) ⟨by show c9 + 0 ≤ 601024; omega, by show s9 + 0 ≤ 7293034; omega⟩ dL_law_1446 (fun r1 w1 hp1 => ?_)
  obtain ⟨v9, rfl, hp9⟩ := hEnd r1 w1 hp1
  refine z_perm (ws' := [(o, lr cL 1 f)] ++ (w1 ++ R)) pm_mid.symm ?_
  refine (show zG E Q (c9 + 0) (s9 + 0) ([(o, lr cL 1 f)] ++ (w1 ++ R)) [some (.ref b), some (.ref h), some (.ref r), some (.ref o), some (.int (iI ↑i)), none, none] 1449 [.int v9] from ?_)
  refine z_aload_n (i := 2) C dL_law_1449 rfl rfl ?_
  refine z_callV (n := 0) (As := []) (st := [.int v9]) (fr := [(o, lr cL 1 f)] ++ w1) C hE hF gL_law_X5_fewestPieces rfl ⟨rfl, rfl⟩ (by decide +kernel) ⟨Nat.le_of_ble_eq_true rfl, Nat.le_of_ble_eq_true rfl⟩ rfl rfl ((List.Perm.of_eq (List.append_assoc _ _ _).symm).trans List.perm_append_comm) 0 hR0 rfl rfl (Nat.le_of_ble_eq_true rfl) ⟨by show c9 + 0 + 0 ≤ 601024; omega, by show s9 + 0 + 0 ≤ 7293034; omega⟩ dL_law_1450 (fun r2 w2 hp2 => ?_)
  obtain ⟨rfl, hrel1⟩ := hp9 r2 w2 hp2
  refine z_perm (ws' := [(o, lr cL 1 f)] ++ (w1 ++ w2)) (List.perm_append_comm.trans (List.Perm.of_eq (List.append_assoc _ _ _))) ?_
  refine (show zG E Q (c9 + 0 + 0) (s9 + 0 + 0) ([(o, lr cL 1 f)] ++ (w1 ++ w2)) [some (.ref b), some (.ref h), some (.ref r), some (.ref o), some (.int (iI ↑i)), none, none] 1453 [.int v9, .int v9] from ?_)
  refine z_icmp_eq (tgt := 1484) C dL_law_1453 (by decide) (fun _ => ?_) (fun h => absurd (rfl) h)
  exact z_widen (k := c9 + 40) (n := s9 + 400) (by omega) (by omega) (k 0 w1 w2 f hrel1)
set_option maxHeartbeats 1000000 in
set_option maxRecDepth 100000 in
theorem law_ways {E : zE} {Q : State → Prop} {l : Launch} (hl : l.stackTraces = false) {D : va_G} {cI cZ cM cL : ClassId} {b h r o L i : Nat} {xs : Nat → Int32} {k0 : Int} {G R : va_W} {f : Int → Int64} {c9 s9 : Nat} (C : zC E cL_law RL wsL_law room_1) (hE : zOf E l D (zTy cI cZ cM cL)) (hS : zScr E b L xs) (hL : L ≤ 2560) (hi : i + 5 ≤ L) (hrel : REL cI cZ cM h r k0 G R) (hc9 : c9 + 40 ≤ 601024) (hs9 : s9 + 400 ≤ 7293034) (k : ∀ (k1 : Int) (G1 R1 : va_W) (f1 : Int → Int64), REL cI cZ cM h r k1 G1 R1 → zG E Q (c9 + 40) (s9 + 400) ([(o, lr cL 1 f1)] ++ (G1 ++ R1)) [some (.ref b), some (.ref h), some (.ref r), some (.ref o), some (.int (iI ↑i)), none, none] 1484 []) : zG E Q c9 s9 ([(o, lr cL 1 f)] ++ (G ++ R)) [some (.ref b), some (.ref h), some (.ref r), some (.ref o), some (.int (iI ↑i)), none, none] 1458 [] := by
  obtain ⟨fsR, hR0⟩ := hrel.r0
  obtain ⟨fsG, hG0⟩ := hrel.g0
  obtain ⟨PH, PF, hH, hF, hEnd⟩ := pair_ways l hl D cI cZ cM cL h r k0 G R hrel
  refine z_aload_n (i := 1) C dL_law_1458 rfl rfl ?_
  refine z_callV (n := 0) (As := []) (st := []) (fr := [(o, lr cL 1 f)] ++ R) C hE hH gL_law_X4_ways rfl ⟨rfl, rfl⟩ (by decide +kernel) ⟨Nat.le_of_ble_eq_true rfl, Nat.le_of_ble_eq_true rfl⟩ rfl rfl pm_mid 0 hG0 rfl rfl (Nat.le_of_ble_eq_true rfl) ⟨by show c9 + 0 ≤ 601024; omega, by show s9 + 0 ≤ 7293034; omega⟩ dL_law_1459 (fun r1 w1 hp1 => ?_)
  obtain ⟨v9, rfl, hp9⟩ := hEnd r1 w1 hp1
  refine z_perm (ws' := [(o, lr cL 1 f)] ++ (w1 ++ R)) pm_mid.symm ?_
  refine (show zG E Q (c9 + 0) (s9 + 0) ([(o, lr cL 1 f)] ++ (w1 ++ R)) [some (.ref b), some (.ref h), some (.ref r), some (.ref o), some (.int (iI ↑i)), none, none] 1462 [.int v9] from ?_)
  refine z_aload_n (i := 2) C dL_law_1462 rfl rfl ?_
  refine z_callV (n := 0) (As := []) (st := [.int v9]) (fr := [(o, lr cL 1 f)] ++ w1) C hE hF gL_law_X5_ways rfl ⟨rfl, rfl⟩ (by decide +kernel) ⟨Nat.le_of_ble_eq_true rfl, Nat.le_of_ble_eq_true rfl⟩ rfl rfl ((List.Perm.of_eq (List.append_assoc _ _ _).symm).trans List.perm_append_comm) 0 hR0 rfl rfl (Nat.le_of_ble_eq_true rfl) ⟨by show c9 + 0 + 0 ≤ 601024; omega, by show s9 + 0 + 0 ≤ 7293034; omega⟩ dL_law_1463 (fun r2 w2 hp2 => ?_)
  obtain ⟨rfl, hrel1⟩ := hp9 r2 w2 hp2
  refine z_perm (ws' := [(o, lr cL 1 f)] ++ (w1 ++ w2)) (List.perm_append_comm.trans (List.Perm.of_eq (List.append_assoc _ _ _))) ?_
  refine (show zG E Q (c9 + 0 + 0) (s9 + 0 + 0) ([(o, lr cL 1 f)] ++ (w1 ++ w2)) [some (.ref b), some (.ref h), some (.ref r), some (.ref o), some (.int (iI ↑i)), none, none] 1466 [.int v9, .int v9] from ?_)
  refine z_icmp_eq (tgt := 1484) C dL_law_1466 (by decide) (fun _ => ?_) (fun h => absurd (rfl) h)
  exact z_widen (k := c9 + 40) (n := s9 + 400) (by omega) (by omega) (k 0 w1 w2 f hrel1)
set_option maxHeartbeats 1000000 in
set_option maxRecDepth 100000 in
theorem law_leastRest {E : zE} {Q : State → Prop} {l : Launch} (hl : l.stackTraces = false) {D : va_G} {cI cZ cM cL : ClassId} {b h r o L i : Nat} {xs : Nat → Int32} {k0 : Int} {G R : va_W} {f : Int → Int64} {c9 s9 : Nat} (C : zC E cL_law RL wsL_law room_1) (hE : zOf E l D (zTy cI cZ cM cL)) (hS : zScr E b L xs) (hL : L ≤ 2560) (hi : i + 5 ≤ L) (hrel : REL cI cZ cM h r k0 G R) (hc9 : c9 + 40 ≤ 601024) (hs9 : s9 + 400 ≤ 7293034) (k : ∀ (k1 : Int) (G1 R1 : va_W) (f1 : Int → Int64), REL cI cZ cM h r k1 G1 R1 → zG E Q (c9 + 40) (s9 + 400) ([(o, lr cL 1 f1)] ++ (G1 ++ R1)) [some (.ref b), some (.ref h), some (.ref r), some (.ref o), some (.int (iI ↑i)), none, none] 1484 []) : zG E Q c9 s9 ([(o, lr cL 1 f)] ++ (G ++ R)) [some (.ref b), some (.ref h), some (.ref r), some (.ref o), some (.int (iI ↑i)), none, none] 1471 [] := by
  obtain ⟨fsR, hR0⟩ := hrel.r0
  obtain ⟨fsG, hG0⟩ := hrel.g0
  obtain ⟨PH, PF, hH, hF, hEnd⟩ := pair_leastRest l hl D cI cZ cM cL h r k0 G R hrel
  refine z_aload_n (i := 1) C dL_law_1471 rfl rfl ?_
  refine z_callV (n := 0) (As := []) (st := []) (fr := [(o, lr cL 1 f)] ++ R) C hE hH gL_law_X4_leastRest rfl ⟨rfl, rfl⟩ (by decide +kernel) ⟨Nat.le_of_ble_eq_true rfl, Nat.le_of_ble_eq_true rfl⟩ rfl rfl pm_mid 0 hG0 rfl rfl (Nat.le_of_ble_eq_true rfl) ⟨by show c9 + 0 ≤ 601024; omega, by show s9 + 0 ≤ 7293034; omega⟩ dL_law_1472 (fun r1 w1 hp1 => ?_)
  obtain ⟨v9, rfl, hp9⟩ := hEnd r1 w1 hp1
  refine z_perm (ws' := [(o, lr cL 1 f)] ++ (w1 ++ R)) pm_mid.symm ?_
  refine (show zG E Q (c9 + 0) (s9 + 0) ([(o, lr cL 1 f)] ++ (w1 ++ R)) [some (.ref b), some (.ref h), some (.ref r), some (.ref o), some (.int (iI ↑i)), none, none] 1475 [.int v9] from ?_)
  refine z_aload_n (i := 2) C dL_law_1475 rfl rfl ?_
  refine z_callV (n := 0) (As := []) (st := [.int v9]) (fr := [(o, lr cL 1 f)] ++ w1) C hE hF gL_law_X5_leastRest rfl ⟨rfl, rfl⟩ (by decide +kernel) ⟨Nat.le_of_ble_eq_true rfl, Nat.le_of_ble_eq_true rfl⟩ rfl rfl ((List.Perm.of_eq (List.append_assoc _ _ _).symm).trans List.perm_append_comm) 0 hR0 rfl rfl (Nat.le_of_ble_eq_true rfl) ⟨by show c9 + 0 + 0 ≤ 601024; omega, by show s9 + 0 + 0 ≤ 7293034; omega⟩ dL_law_1476 (fun r2 w2 hp2 => ?_)
  obtain ⟨rfl, hrel1⟩ := hp9 r2 w2 hp2
  refine z_perm (ws' := [(o, lr cL 1 f)] ++ (w1 ++ w2)) (List.perm_append_comm.trans (List.Perm.of_eq (List.append_assoc _ _ _))) ?_
  refine (show zG E Q (c9 + 0 + 0) (s9 + 0 + 0) ([(o, lr cL 1 f)] ++ (w1 ++ w2)) [some (.ref b), some (.ref h), some (.ref r), some (.ref o), some (.int (iI ↑i)), none, none] 1479 [.int v9, .int v9] from ?_)
  refine z_icmp_eq (tgt := 1484) C dL_law_1479 (by decide) (fun _ => ?_) (fun h => absurd (rfl) h)
  exact z_widen (k := c9 + 40) (n := s9 + 400) (by omega) (by omega) (k 0 w1 w2 f hrel1)
