/-! P26: mill, school, strip. -/
set_option maxHeartbeats 2000000 in
set_option maxRecDepth 100000 in
theorem s_mill (l : Launch) (hl : l.stackTraces = false) (D : va_G) {cI cZ cM : ClassId} (cL : ClassId) {h n : Nat} {ND KN US : Int → Int32} {μ : Nat → zM} {L : Int} {d : Int32} {G : va_W} (hG : GI cI cZ cM h n ND KN US μ L d G)  : zN l yL_mill wsL_mill { frames := 6, cells := 0, slots := 0, locals := 128 } D (zTy cI cZ cM cL) [.ref h, .int (iI L)] G (fun r w => r = some (.int (iI 1)) ∧ GI cI cZ cM h n ND KN US μ L d w) 0 0 := by
  refine zN_of (cc := cL_mill) (maxL := 4) (lv0 := [some (.ref h), some (.int (iI L)), none, none]) (by decide) rfl rfl (Nat.le_of_ble_eq_true rfl) rfl ?_
  intro E Q C hE hR hI0
  obtain ⟨-, -, hL0, hL1⟩ := hG.O
  obtain ⟨pc, rs, wy, e1, e2, e3, f1, f2, f3, f4, f5, f6, f7, f8, f9⟩ := mill_z d hL0 hL1
  refine z_aload_n (i := 0) C dL_mill_0 rfl rfl ?_
  obtain ⟨PH, hM, hp⟩ := c_fewestPieces l hl D cL hG 
  obtain ⟨fs, hG0⟩ := hG.g0
  refine z_callV (n := 0) (As := []) (st := []) (fr := []) C hE hM gL_mill_X4_fewestPieces rfl ⟨rfl, rfl⟩ (by decide +kernel) ⟨Nat.le_of_ble_eq_true rfl, Nat.le_of_ble_eq_true rfl⟩ rfl rfl (by rw [List.append_nil]) 0 hG0 rfl rfl (Nat.le_of_ble_eq_true rfl) ⟨Nat.le_of_ble_eq_true rfl, Nat.le_of_ble_eq_true rfl⟩ dL_mill_1 (fun r G hpo => ?_)
  obtain ⟨rfl, hG⟩ := hp _ _ hpo
  rw [e1]
  refine (show zG E Q (0 + 0) (0 + 0) (G ++ []) [some (.ref h), some (.int (iI L)), none, none] 4 [.int (iI pc)] from ?_)
  refine z_eq (ws' := G) (st' := [.int (iI pc)]) (List.append_nil _) rfl ?_
  refine z_istore_n (i := 2) (lv' := [some (.ref h), some (.int (iI L)), some (.int (iI pc)), none]) C dL_mill_4 rfl rfl rfl ?_
  refine z_aload_n (i := 0) C dL_mill_5 rfl rfl ?_
  obtain ⟨PH, hM, hp⟩ := c_leastRest l hl D cL hG 
  obtain ⟨fs, hG0⟩ := hG.g0
  refine z_callV (n := 0) (As := []) (st := []) (fr := []) C hE hM gL_mill_X4_leastRest rfl ⟨rfl, rfl⟩ (by decide +kernel) ⟨Nat.le_of_ble_eq_true rfl, Nat.le_of_ble_eq_true rfl⟩ rfl rfl (by rw [List.append_nil]) 0 hG0 rfl rfl (Nat.le_of_ble_eq_true rfl) ⟨Nat.le_of_ble_eq_true rfl, Nat.le_of_ble_eq_true rfl⟩ dL_mill_6 (fun r G hpo => ?_)
  obtain ⟨rfl, hG⟩ := hp _ _ hpo
  rw [e2]
  refine (show zG E Q (0 + 0 + 0) (0 + 0 + 0) (G ++ []) [some (.ref h), some (.int (iI L)), some (.int (iI pc)), none] 9 [.int (iI rs)] from ?_)
  refine z_eq (ws' := G) (st' := [.int (iI rs)]) (List.append_nil _) rfl ?_
  refine z_istore_n (i := 3) (lv' := [some (.ref h), some (.int (iI L)), some (.int (iI pc)), some (.int (iI rs))]) C dL_mill_9 rfl rfl rfl ?_
  refine z_iload_n (i := 2) C dL_mill_10 rfl rfl ?_
  refine z_iconst (v := iI (-1)) C dL_mill_11 rfl ?_
  refine z_icmp_neI (tgt := 19) C dL_mill_12 (by decide) ⟨by omega, by omega⟩ ⟨by omega, by omega⟩ (fun hv12 => ?_) (fun hv12 => ?_)
  · refine z_iconst (v := iI 0) C dL_mill_19 rfl ?_
    refine z_iload_n (i := 3) C dL_mill_20 rfl rfl ?_
    refine z_if_leI (tgt := 28) C dL_mill_21 (by decide) ⟨by omega, by omega⟩ (fun hv21 => ?_) (fun hv21 => ?_)
    · refine z_iconst (v := iI 0) C dL_mill_28 rfl ?_
      refine z_icmp_neI (tgt := 74) C dL_mill_29 (by decide) ⟨by omega, by omega⟩ ⟨by omega, by omega⟩ (fun hv29 => ?_) (fun hv29 => ?_)
      · exfalso
        omega
      · refine z_iload_n (i := 3) C dL_mill_32 rfl rfl ?_
        refine z_iload_n (i := 1) C dL_mill_33 rfl rfl ?_
        refine z_icmp_gtI (tgt := 74) C dL_mill_34 (by decide) ⟨by omega, by omega⟩ ⟨by omega, by omega⟩ (fun hv34 => ?_) (fun hv34 => ?_)
        · exfalso
          omega
        · refine z_iload_n (i := 2) C dL_mill_37 rfl rfl ?_
          refine z_iload_n (i := 1) C dL_mill_38 rfl rfl ?_
          refine z_icmp_gtI (tgt := 74) C dL_mill_39 (by decide) ⟨by omega, by omega⟩ ⟨by omega, by omega⟩ (fun hv39 => ?_) (fun hv39 => ?_)
          · exfalso
            omega
          · refine z_iload_n (i := 2) C dL_mill_42 rfl rfl ?_
            refine z_iconst (v := iI (-1)) C dL_mill_43 rfl ?_
            refine z_icmp_neI (tgt := 54) C dL_mill_44 (by decide) ⟨by omega, by omega⟩ ⟨by omega, by omega⟩ (fun hv44 => ?_) (fun hv44 => ?_)
            · refine z_iload_n (i := 1) C dL_mill_54 rfl rfl ?_
              refine z_if_gtI (tgt := 70) C dL_mill_55 (by decide) ⟨by omega, by omega⟩ (fun hv55 => ?_) (fun hv55 => ?_)
              · refine z_iconst (v := iI 1) C dL_mill_70 rfl ?_
                refine z_goto (tgt := 75) C dL_mill_71 (by decide) ?_
                exact z_zret C hR (by decide) dL_mill_75 (Nat.le_of_ble_eq_true rfl) (Nat.le_of_ble_eq_true rfl) (⟨rfl, hG⟩)
              · refine z_iload_n (i := 2) C dL_mill_58 rfl rfl ?_
                refine z_if_neI (tgt := 74) C dL_mill_59 (by decide) ⟨by omega, by omega⟩ (fun hv59 => ?_) (fun hv59 => ?_)
                · exfalso
                  omega
                · refine z_aload_n (i := 0) C dL_mill_62 rfl rfl ?_
                  obtain ⟨PH, hM, hp⟩ := c_ways l hl D cL hG 
                  obtain ⟨fs, hG0⟩ := hG.g0
                  refine z_callV (n := 0) (As := []) (st := []) (fr := []) C hE hM gL_mill_X4_ways rfl ⟨rfl, rfl⟩ (by decide +kernel) ⟨Nat.le_of_ble_eq_true rfl, Nat.le_of_ble_eq_true rfl⟩ rfl rfl (by rw [List.append_nil]) 0 hG0 rfl rfl (Nat.le_of_ble_eq_true rfl) ⟨Nat.le_of_ble_eq_true rfl, Nat.le_of_ble_eq_true rfl⟩ dL_mill_63 (fun r G hpo => ?_)
                  obtain ⟨rfl, hG⟩ := hp _ _ hpo
                  rw [e3]
                  refine (show zG E Q (0 + 0 + 0 + 0) (0 + 0 + 0 + 0) (G ++ []) [some (.ref h), some (.int (iI L)), some (.int (iI pc)), some (.int (iI rs))] 66 [.int (iI wy)] from ?_)
                  refine z_eq (ws' := G) (st' := [.int (iI wy)]) (List.append_nil _) rfl ?_
                  refine z_iconst (v := iI 1) C dL_mill_66 rfl ?_
                  refine z_icmp_neI (tgt := 74) C dL_mill_67 (by decide) ⟨by omega, by omega⟩ ⟨by omega, by omega⟩ (fun hv67 => ?_) (fun hv67 => ?_)
                  · exfalso
                    omega
                  · refine z_iconst (v := iI 1) C dL_mill_70 rfl ?_
                    refine z_goto (tgt := 75) C dL_mill_71 (by decide) ?_
                    exact z_zret C hR (by decide) dL_mill_75 (Nat.le_of_ble_eq_true rfl) (Nat.le_of_ble_eq_true rfl) (⟨rfl, hG⟩)
            · refine z_aload_n (i := 0) C dL_mill_47 rfl rfl ?_
              obtain ⟨PH, hM, hp⟩ := c_ways l hl D cL hG 
              obtain ⟨fs, hG0⟩ := hG.g0
              refine z_callV (n := 0) (As := []) (st := []) (fr := []) C hE hM gL_mill_X4_ways rfl ⟨rfl, rfl⟩ (by decide +kernel) ⟨Nat.le_of_ble_eq_true rfl, Nat.le_of_ble_eq_true rfl⟩ rfl rfl (by rw [List.append_nil]) 0 hG0 rfl rfl (Nat.le_of_ble_eq_true rfl) ⟨Nat.le_of_ble_eq_true rfl, Nat.le_of_ble_eq_true rfl⟩ dL_mill_48 (fun r G hpo => ?_)
              obtain ⟨rfl, hG⟩ := hp _ _ hpo
              rw [e3]
              refine (show zG E Q (0 + 0 + 0 + 0) (0 + 0 + 0 + 0) (G ++ []) [some (.ref h), some (.int (iI L)), some (.int (iI pc)), some (.int (iI rs))] 51 [.int (iI wy)] from ?_)
              refine z_eq (ws' := G) (st' := [.int (iI wy)]) (List.append_nil _) rfl ?_
              refine z_if_neI (tgt := 74) C dL_mill_51 (by decide) ⟨by omega, by omega⟩ (fun hv51 => ?_) (fun hv51 => ?_)
              · exfalso
                omega
              · refine z_iload_n (i := 1) C dL_mill_54 rfl rfl ?_
                refine z_if_gtI (tgt := 70) C dL_mill_55 (by decide) ⟨by omega, by omega⟩ (fun hv55 => ?_) (fun hv55 => ?_)
                · refine z_iconst (v := iI 1) C dL_mill_70 rfl ?_
                  refine z_goto (tgt := 75) C dL_mill_71 (by decide) ?_
                  exact z_zret C hR (by decide) dL_mill_75 (Nat.le_of_ble_eq_true rfl) (Nat.le_of_ble_eq_true rfl) (⟨rfl, hG⟩)
                · refine z_iload_n (i := 2) C dL_mill_58 rfl rfl ?_
                  refine z_if_neI (tgt := 74) C dL_mill_59 (by decide) ⟨by omega, by omega⟩ (fun hv59 => ?_) (fun hv59 => ?_)
                  · exfalso
                    omega
                  · refine z_aload_n (i := 0) C dL_mill_62 rfl rfl ?_
                    obtain ⟨PH, hM, hp⟩ := c_ways l hl D cL hG 
                    obtain ⟨fs, hG0⟩ := hG.g0
                    refine z_callV (n := 0) (As := []) (st := []) (fr := []) C hE hM gL_mill_X4_ways rfl ⟨rfl, rfl⟩ (by decide +kernel) ⟨Nat.le_of_ble_eq_true rfl, Nat.le_of_ble_eq_true rfl⟩ rfl rfl (by rw [List.append_nil]) 0 hG0 rfl rfl (Nat.le_of_ble_eq_true rfl) ⟨Nat.le_of_ble_eq_true rfl, Nat.le_of_ble_eq_true rfl⟩ dL_mill_63 (fun r G hpo => ?_)
                    obtain ⟨rfl, hG⟩ := hp _ _ hpo
                    rw [e3]
                    refine (show zG E Q (0 + 0 + 0 + 0 + 0) (0 + 0 + 0 + 0 + 0) (G ++ []) [some (.ref h), some (.int (iI L)), some (.int (iI pc)), some (.int (iI rs))] 66 [.int (iI wy)] from ?_)
                    refine z_eq (ws' := G) (st' := [.int (iI wy)]) (List.append_nil _) rfl ?_
                    refine z_iconst (v := iI 1) C dL_mill_66 rfl ?_
                    refine z_icmp_neI (tgt := 74) C dL_mill_67 (by decide) ⟨by omega, by omega⟩ ⟨by omega, by omega⟩ (fun hv67 => ?_) (fun hv67 => ?_)
                    · exfalso
                      omega
                    · refine z_iconst (v := iI 1) C dL_mill_70 rfl ?_
                      refine z_goto (tgt := 75) C dL_mill_71 (by decide) ?_
                      exact z_zret C hR (by decide) dL_mill_75 (Nat.le_of_ble_eq_true rfl) (Nat.le_of_ble_eq_true rfl) (⟨rfl, hG⟩)
    · refine z_iconst (v := iI 1) C dL_mill_24 rfl ?_
      refine z_goto (tgt := 29) C dL_mill_25 (by decide) ?_
      refine z_icmp_neI (tgt := 74) C dL_mill_29 (by decide) ⟨by omega, by omega⟩ ⟨by omega, by omega⟩ (fun hv29 => ?_) (fun hv29 => ?_)
      · exfalso
        omega
      · refine z_iload_n (i := 3) C dL_mill_32 rfl rfl ?_
        refine z_iload_n (i := 1) C dL_mill_33 rfl rfl ?_
        refine z_icmp_gtI (tgt := 74) C dL_mill_34 (by decide) ⟨by omega, by omega⟩ ⟨by omega, by omega⟩ (fun hv34 => ?_) (fun hv34 => ?_)
        · exfalso
          omega
        · refine z_iload_n (i := 2) C dL_mill_37 rfl rfl ?_
          refine z_iload_n (i := 1) C dL_mill_38 rfl rfl ?_
          refine z_icmp_gtI (tgt := 74) C dL_mill_39 (by decide) ⟨by omega, by omega⟩ ⟨by omega, by omega⟩ (fun hv39 => ?_) (fun hv39 => ?_)
          · exfalso
            omega
          · refine z_iload_n (i := 2) C dL_mill_42 rfl rfl ?_
            refine z_iconst (v := iI (-1)) C dL_mill_43 rfl ?_
            refine z_icmp_neI (tgt := 54) C dL_mill_44 (by decide) ⟨by omega, by omega⟩ ⟨by omega, by omega⟩ (fun hv44 => ?_) (fun hv44 => ?_)
            · refine z_iload_n (i := 1) C dL_mill_54 rfl rfl ?_
              refine z_if_gtI (tgt := 70) C dL_mill_55 (by decide) ⟨by omega, by omega⟩ (fun hv55 => ?_) (fun hv55 => ?_)
              · refine z_iconst (v := iI 1) C dL_mill_70 rfl ?_
                refine z_goto (tgt := 75) C dL_mill_71 (by decide) ?_
                exact z_zret C hR (by decide) dL_mill_75 (Nat.le_of_ble_eq_true rfl) (Nat.le_of_ble_eq_true rfl) (⟨rfl, hG⟩)
              · refine z_iload_n (i := 2) C dL_mill_58 rfl rfl ?_
                refine z_if_neI (tgt := 74) C dL_mill_59 (by decide) ⟨by omega, by omega⟩ (fun hv59 => ?_) (fun hv59 => ?_)
                · exfalso
                  omega
                · refine z_aload_n (i := 0) C dL_mill_62 rfl rfl ?_
                  obtain ⟨PH, hM, hp⟩ := c_ways l hl D cL hG 
                  obtain ⟨fs, hG0⟩ := hG.g0
                  refine z_callV (n := 0) (As := []) (st := []) (fr := []) C hE hM gL_mill_X4_ways rfl ⟨rfl, rfl⟩ (by decide +kernel) ⟨Nat.le_of_ble_eq_true rfl, Nat.le_of_ble_eq_true rfl⟩ rfl rfl (by rw [List.append_nil]) 0 hG0 rfl rfl (Nat.le_of_ble_eq_true rfl) ⟨Nat.le_of_ble_eq_true rfl, Nat.le_of_ble_eq_true rfl⟩ dL_mill_63 (fun r G hpo => ?_)
                  obtain ⟨rfl, hG⟩ := hp _ _ hpo
                  rw [e3]
                  refine (show zG E Q (0 + 0 + 0 + 0) (0 + 0 + 0 + 0) (G ++ []) [some (.ref h), some (.int (iI L)), some (.int (iI pc)), some (.int (iI rs))] 66 [.int (iI wy)] from ?_)
                  refine z_eq (ws' := G) (st' := [.int (iI wy)]) (List.append_nil _) rfl ?_
                  refine z_iconst (v := iI 1) C dL_mill_66 rfl ?_
                  refine z_icmp_neI (tgt := 74) C dL_mill_67 (by decide) ⟨by omega, by omega⟩ ⟨by omega, by omega⟩ (fun hv67 => ?_) (fun hv67 => ?_)
                  · exfalso
                    omega
                  · refine z_iconst (v := iI 1) C dL_mill_70 rfl ?_
                    refine z_goto (tgt := 75) C dL_mill_71 (by decide) ?_
                    exact z_zret C hR (by decide) dL_mill_75 (Nat.le_of_ble_eq_true rfl) (Nat.le_of_ble_eq_true rfl) (⟨rfl, hG⟩)
            · refine z_aload_n (i := 0) C dL_mill_47 rfl rfl ?_
              obtain ⟨PH, hM, hp⟩ := c_ways l hl D cL hG 
              obtain ⟨fs, hG0⟩ := hG.g0
              refine z_callV (n := 0) (As := []) (st := []) (fr := []) C hE hM gL_mill_X4_ways rfl ⟨rfl, rfl⟩ (by decide +kernel) ⟨Nat.le_of_ble_eq_true rfl, Nat.le_of_ble_eq_true rfl⟩ rfl rfl (by rw [List.append_nil]) 0 hG0 rfl rfl (Nat.le_of_ble_eq_true rfl) ⟨Nat.le_of_ble_eq_true rfl, Nat.le_of_ble_eq_true rfl⟩ dL_mill_48 (fun r G hpo => ?_)
              obtain ⟨rfl, hG⟩ := hp _ _ hpo
              rw [e3]
              refine (show zG E Q (0 + 0 + 0 + 0) (0 + 0 + 0 + 0) (G ++ []) [some (.ref h), some (.int (iI L)), some (.int (iI pc)), some (.int (iI rs))] 51 [.int (iI wy)] from ?_)
              refine z_eq (ws' := G) (st' := [.int (iI wy)]) (List.append_nil _) rfl ?_
              refine z_if_neI (tgt := 74) C dL_mill_51 (by decide) ⟨by omega, by omega⟩ (fun hv51 => ?_) (fun hv51 => ?_)
              · exfalso
                omega
              · refine z_iload_n (i := 1) C dL_mill_54 rfl rfl ?_
                refine z_if_gtI (tgt := 70) C dL_mill_55 (by decide) ⟨by omega, by omega⟩ (fun hv55 => ?_) (fun hv55 => ?_)
                · refine z_iconst (v := iI 1) C dL_mill_70 rfl ?_
                  refine z_goto (tgt := 75) C dL_mill_71 (by decide) ?_
                  exact z_zret C hR (by decide) dL_mill_75 (Nat.le_of_ble_eq_true rfl) (Nat.le_of_ble_eq_true rfl) (⟨rfl, hG⟩)
                · refine z_iload_n (i := 2) C dL_mill_58 rfl rfl ?_
                  refine z_if_neI (tgt := 74) C dL_mill_59 (by decide) ⟨by omega, by omega⟩ (fun hv59 => ?_) (fun hv59 => ?_)
                  · exfalso
                    omega
                  · refine z_aload_n (i := 0) C dL_mill_62 rfl rfl ?_
                    obtain ⟨PH, hM, hp⟩ := c_ways l hl D cL hG 
                    obtain ⟨fs, hG0⟩ := hG.g0
                    refine z_callV (n := 0) (As := []) (st := []) (fr := []) C hE hM gL_mill_X4_ways rfl ⟨rfl, rfl⟩ (by decide +kernel) ⟨Nat.le_of_ble_eq_true rfl, Nat.le_of_ble_eq_true rfl⟩ rfl rfl (by rw [List.append_nil]) 0 hG0 rfl rfl (Nat.le_of_ble_eq_true rfl) ⟨Nat.le_of_ble_eq_true rfl, Nat.le_of_ble_eq_true rfl⟩ dL_mill_63 (fun r G hpo => ?_)
                    obtain ⟨rfl, hG⟩ := hp _ _ hpo
                    rw [e3]
                    refine (show zG E Q (0 + 0 + 0 + 0 + 0) (0 + 0 + 0 + 0 + 0) (G ++ []) [some (.ref h), some (.int (iI L)), some (.int (iI pc)), some (.int (iI rs))] 66 [.int (iI wy)] from ?_)
                    refine z_eq (ws' := G) (st' := [.int (iI wy)]) (List.append_nil _) rfl ?_
                    refine z_iconst (v := iI 1) C dL_mill_66 rfl ?_
                    refine z_icmp_neI (tgt := 74) C dL_mill_67 (by decide) ⟨by omega, by omega⟩ ⟨by omega, by omega⟩ (fun hv67 => ?_) (fun hv67 => ?_)
                    · exfalso
                      omega
                    · refine z_iconst (v := iI 1) C dL_mill_70 rfl ?_
                      refine z_goto (tgt := 75) C dL_mill_71 (by decide) ?_
                      exact z_zret C hR (by decide) dL_mill_75 (Nat.le_of_ble_eq_true rfl) (Nat.le_of_ble_eq_true rfl) (⟨rfl, hG⟩)
  · refine z_iconst (v := iI 1) C dL_mill_15 rfl ?_
    refine z_goto (tgt := 20) C dL_mill_16 (by decide) ?_
    refine z_iload_n (i := 3) C dL_mill_20 rfl rfl ?_
    refine z_if_leI (tgt := 28) C dL_mill_21 (by decide) ⟨by omega, by omega⟩ (fun hv21 => ?_) (fun hv21 => ?_)
    · refine z_iconst (v := iI 0) C dL_mill_28 rfl ?_
      refine z_icmp_neI (tgt := 74) C dL_mill_29 (by decide) ⟨by omega, by omega⟩ ⟨by omega, by omega⟩ (fun hv29 => ?_) (fun hv29 => ?_)
      · exfalso
        omega
      · refine z_iload_n (i := 3) C dL_mill_32 rfl rfl ?_
        refine z_iload_n (i := 1) C dL_mill_33 rfl rfl ?_
        refine z_icmp_gtI (tgt := 74) C dL_mill_34 (by decide) ⟨by omega, by omega⟩ ⟨by omega, by omega⟩ (fun hv34 => ?_) (fun hv34 => ?_)
        · exfalso
          omega
        · refine z_iload_n (i := 2) C dL_mill_37 rfl rfl ?_
          refine z_iload_n (i := 1) C dL_mill_38 rfl rfl ?_
          refine z_icmp_gtI (tgt := 74) C dL_mill_39 (by decide) ⟨by omega, by omega⟩ ⟨by omega, by omega⟩ (fun hv39 => ?_) (fun hv39 => ?_)
          · exfalso
            omega
          · refine z_iload_n (i := 2) C dL_mill_42 rfl rfl ?_
            refine z_iconst (v := iI (-1)) C dL_mill_43 rfl ?_
            refine z_icmp_neI (tgt := 54) C dL_mill_44 (by decide) ⟨by omega, by omega⟩ ⟨by omega, by omega⟩ (fun hv44 => ?_) (fun hv44 => ?_)
            · refine z_iload_n (i := 1) C dL_mill_54 rfl rfl ?_
              refine z_if_gtI (tgt := 70) C dL_mill_55 (by decide) ⟨by omega, by omega⟩ (fun hv55 => ?_) (fun hv55 => ?_)
              · refine z_iconst (v := iI 1) C dL_mill_70 rfl ?_
                refine z_goto (tgt := 75) C dL_mill_71 (by decide) ?_
                exact z_zret C hR (by decide) dL_mill_75 (Nat.le_of_ble_eq_true rfl) (Nat.le_of_ble_eq_true rfl) (⟨rfl, hG⟩)
              · refine z_iload_n (i := 2) C dL_mill_58 rfl rfl ?_
                refine z_if_neI (tgt := 74) C dL_mill_59 (by decide) ⟨by omega, by omega⟩ (fun hv59 => ?_) (fun hv59 => ?_)
                · exfalso
                  omega
                · refine z_aload_n (i := 0) C dL_mill_62 rfl rfl ?_
                  obtain ⟨PH, hM, hp⟩ := c_ways l hl D cL hG 
                  obtain ⟨fs, hG0⟩ := hG.g0
                  refine z_callV (n := 0) (As := []) (st := []) (fr := []) C hE hM gL_mill_X4_ways rfl ⟨rfl, rfl⟩ (by decide +kernel) ⟨Nat.le_of_ble_eq_true rfl, Nat.le_of_ble_eq_true rfl⟩ rfl rfl (by rw [List.append_nil]) 0 hG0 rfl rfl (Nat.le_of_ble_eq_true rfl) ⟨Nat.le_of_ble_eq_true rfl, Nat.le_of_ble_eq_true rfl⟩ dL_mill_63 (fun r G hpo => ?_)
                  obtain ⟨rfl, hG⟩ := hp _ _ hpo
                  rw [e3]
                  refine (show zG E Q (0 + 0 + 0 + 0) (0 + 0 + 0 + 0) (G ++ []) [some (.ref h), some (.int (iI L)), some (.int (iI pc)), some (.int (iI rs))] 66 [.int (iI wy)] from ?_)
                  refine z_eq (ws' := G) (st' := [.int (iI wy)]) (List.append_nil _) rfl ?_
                  refine z_iconst (v := iI 1) C dL_mill_66 rfl ?_
                  refine z_icmp_neI (tgt := 74) C dL_mill_67 (by decide) ⟨by omega, by omega⟩ ⟨by omega, by omega⟩ (fun hv67 => ?_) (fun hv67 => ?_)
                  · exfalso
                    omega
                  · refine z_iconst (v := iI 1) C dL_mill_70 rfl ?_
                    refine z_goto (tgt := 75) C dL_mill_71 (by decide) ?_
                    exact z_zret C hR (by decide) dL_mill_75 (Nat.le_of_ble_eq_true rfl) (Nat.le_of_ble_eq_true rfl) (⟨rfl, hG⟩)
            · refine z_aload_n (i := 0) C dL_mill_47 rfl rfl ?_
              obtain ⟨PH, hM, hp⟩ := c_ways l hl D cL hG 
              obtain ⟨fs, hG0⟩ := hG.g0
              refine z_callV (n := 0) (As := []) (st := []) (fr := []) C hE hM gL_mill_X4_ways rfl ⟨rfl, rfl⟩ (by decide +kernel) ⟨Nat.le_of_ble_eq_true rfl, Nat.le_of_ble_eq_true rfl⟩ rfl rfl (by rw [List.append_nil]) 0 hG0 rfl rfl (Nat.le_of_ble_eq_true rfl) ⟨Nat.le_of_ble_eq_true rfl, Nat.le_of_ble_eq_true rfl⟩ dL_mill_48 (fun r G hpo => ?_)
              obtain ⟨rfl, hG⟩ := hp _ _ hpo
              rw [e3]
              refine (show zG E Q (0 + 0 + 0 + 0) (0 + 0 + 0 + 0) (G ++ []) [some (.ref h), some (.int (iI L)), some (.int (iI pc)), some (.int (iI rs))] 51 [.int (iI wy)] from ?_)
              refine z_eq (ws' := G) (st' := [.int (iI wy)]) (List.append_nil _) rfl ?_
              refine z_if_neI (tgt := 74) C dL_mill_51 (by decide) ⟨by omega, by omega⟩ (fun hv51 => ?_) (fun hv51 => ?_)
              · exfalso
                omega
              · refine z_iload_n (i := 1) C dL_mill_54 rfl rfl ?_
                refine z_if_gtI (tgt := 70) C dL_mill_55 (by decide) ⟨by omega, by omega⟩ (fun hv55 => ?_) (fun hv55 => ?_)
                · refine z_iconst (v := iI 1) C dL_mill_70 rfl ?_
                  refine z_goto (tgt := 75) C dL_mill_71 (by decide) ?_
                  exact z_zret C hR (by decide) dL_mill_75 (Nat.le_of_ble_eq_true rfl) (Nat.le_of_ble_eq_true rfl) (⟨rfl, hG⟩)
                · refine z_iload_n (i := 2) C dL_mill_58 rfl rfl ?_
                  refine z_if_neI (tgt := 74) C dL_mill_59 (by decide) ⟨by omega, by omega⟩ (fun hv59 => ?_) (fun hv59 => ?_)
                  · exfalso
                    omega
                  · refine z_aload_n (i := 0) C dL_mill_62 rfl rfl ?_
                    obtain ⟨PH, hM, hp⟩ := c_ways l hl D cL hG 
                    obtain ⟨fs, hG0⟩ := hG.g0
                    refine z_callV (n := 0) (As := []) (st := []) (fr := []) C hE hM gL_mill_X4_ways rfl ⟨rfl, rfl⟩ (by decide +kernel) ⟨Nat.le_of_ble_eq_true rfl, Nat.le_of_ble_eq_true rfl⟩ rfl rfl (by rw [List.append_nil]) 0 hG0 rfl rfl (Nat.le_of_ble_eq_true rfl) ⟨Nat.le_of_ble_eq_true rfl, Nat.le_of_ble_eq_true rfl⟩ dL_mill_63 (fun r G hpo => ?_)
                    obtain ⟨rfl, hG⟩ := hp _ _ hpo
                    rw [e3]
                    refine (show zG E Q (0 + 0 + 0 + 0 + 0) (0 + 0 + 0 + 0 + 0) (G ++ []) [some (.ref h), some (.int (iI L)), some (.int (iI pc)), some (.int (iI rs))] 66 [.int (iI wy)] from ?_)
                    refine z_eq (ws' := G) (st' := [.int (iI wy)]) (List.append_nil _) rfl ?_
                    refine z_iconst (v := iI 1) C dL_mill_66 rfl ?_
                    refine z_icmp_neI (tgt := 74) C dL_mill_67 (by decide) ⟨by omega, by omega⟩ ⟨by omega, by omega⟩ (fun hv67 => ?_) (fun hv67 => ?_)
                    · exfalso
                      omega
                    · refine z_iconst (v := iI 1) C dL_mill_70 rfl ?_
                      refine z_goto (tgt := 75) C dL_mill_71 (by decide) ?_
                      exact z_zret C hR (by decide) dL_mill_75 (Nat.le_of_ble_eq_true rfl) (Nat.le_of_ble_eq_true rfl) (⟨rfl, hG⟩)
    · refine z_iconst (v := iI 1) C dL_mill_24 rfl ?_
      refine z_goto (tgt := 29) C dL_mill_25 (by decide) ?_
      refine z_icmp_neI (tgt := 74) C dL_mill_29 (by decide) ⟨by omega, by omega⟩ ⟨by omega, by omega⟩ (fun hv29 => ?_) (fun hv29 => ?_)
      · exfalso
        omega
      · refine z_iload_n (i := 3) C dL_mill_32 rfl rfl ?_
        refine z_iload_n (i := 1) C dL_mill_33 rfl rfl ?_
        refine z_icmp_gtI (tgt := 74) C dL_mill_34 (by decide) ⟨by omega, by omega⟩ ⟨by omega, by omega⟩ (fun hv34 => ?_) (fun hv34 => ?_)
        · exfalso
          omega
        · refine z_iload_n (i := 2) C dL_mill_37 rfl rfl ?_
          refine z_iload_n (i := 1) C dL_mill_38 rfl rfl ?_
          refine z_icmp_gtI (tgt := 74) C dL_mill_39 (by decide) ⟨by omega, by omega⟩ ⟨by omega, by omega⟩ (fun hv39 => ?_) (fun hv39 => ?_)
          · exfalso
            omega
          · refine z_iload_n (i := 2) C dL_mill_42 rfl rfl ?_
            refine z_iconst (v := iI (-1)) C dL_mill_43 rfl ?_
            refine z_icmp_neI (tgt := 54) C dL_mill_44 (by decide) ⟨by omega, by omega⟩ ⟨by omega, by omega⟩ (fun hv44 => ?_) (fun hv44 => ?_)
            · refine z_iload_n (i := 1) C dL_mill_54 rfl rfl ?_
              refine z_if_gtI (tgt := 70) C dL_mill_55 (by decide) ⟨by omega, by omega⟩ (fun hv55 => ?_) (fun hv55 => ?_)
              · refine z_iconst (v := iI 1) C dL_mill_70 rfl ?_
                refine z_goto (tgt := 75) C dL_mill_71 (by decide) ?_
                exact z_zret C hR (by decide) dL_mill_75 (Nat.le_of_ble_eq_true rfl) (Nat.le_of_ble_eq_true rfl) (⟨rfl, hG⟩)
              · refine z_iload_n (i := 2) C dL_mill_58 rfl rfl ?_
                refine z_if_neI (tgt := 74) C dL_mill_59 (by decide) ⟨by omega, by omega⟩ (fun hv59 => ?_) (fun hv59 => ?_)
                · exfalso
                  omega
                · refine z_aload_n (i := 0) C dL_mill_62 rfl rfl ?_
                  obtain ⟨PH, hM, hp⟩ := c_ways l hl D cL hG 
                  obtain ⟨fs, hG0⟩ := hG.g0
                  refine z_callV (n := 0) (As := []) (st := []) (fr := []) C hE hM gL_mill_X4_ways rfl ⟨rfl, rfl⟩ (by decide +kernel) ⟨Nat.le_of_ble_eq_true rfl, Nat.le_of_ble_eq_true rfl⟩ rfl rfl (by rw [List.append_nil]) 0 hG0 rfl rfl (Nat.le_of_ble_eq_true rfl) ⟨Nat.le_of_ble_eq_true rfl, Nat.le_of_ble_eq_true rfl⟩ dL_mill_63 (fun r G hpo => ?_)
                  obtain ⟨rfl, hG⟩ := hp _ _ hpo
                  rw [e3]
                  refine (show zG E Q (0 + 0 + 0 + 0) (0 + 0 + 0 + 0) (G ++ []) [some (.ref h), some (.int (iI L)), some (.int (iI pc)), some (.int (iI rs))] 66 [.int (iI wy)] from ?_)
                  refine z_eq (ws' := G) (st' := [.int (iI wy)]) (List.append_nil _) rfl ?_
                  refine z_iconst (v := iI 1) C dL_mill_66 rfl ?_
                  refine z_icmp_neI (tgt := 74) C dL_mill_67 (by decide) ⟨by omega, by omega⟩ ⟨by omega, by omega⟩ (fun hv67 => ?_) (fun hv67 => ?_)
                  · exfalso
                    omega
                  · refine z_iconst (v := iI 1) C dL_mill_70 rfl ?_
                    refine z_goto (tgt := 75) C dL_mill_71 (by decide) ?_
                    exact z_zret C hR (by decide) dL_mill_75 (Nat.le_of_ble_eq_true rfl) (Nat.le_of_ble_eq_true rfl) (⟨rfl, hG⟩)
            · refine z_aload_n (i := 0) C dL_mill_47 rfl rfl ?_
              obtain ⟨PH, hM, hp⟩ := c_ways l hl D cL hG 
              obtain ⟨fs, hG0⟩ := hG.g0
              refine z_callV (n := 0) (As := []) (st := []) (fr := []) C hE hM gL_mill_X4_ways rfl ⟨rfl, rfl⟩ (by decide +kernel) ⟨Nat.le_of_ble_eq_true rfl, Nat.le_of_ble_eq_true rfl⟩ rfl rfl (by rw [List.append_nil]) 0 hG0 rfl rfl (Nat.le_of_ble_eq_true rfl) ⟨Nat.le_of_ble_eq_true rfl, Nat.le_of_ble_eq_true rfl⟩ dL_mill_48 (fun r G hpo => ?_)
              obtain ⟨rfl, hG⟩ := hp _ _ hpo
              rw [e3]
              refine (show zG E Q (0 + 0 + 0 + 0) (0 + 0 + 0 + 0) (G ++ []) [some (.ref h), some (.int (iI L)), some (.int (iI pc)), some (.int (iI rs))] 51 [.int (iI wy)] from ?_)
              refine z_eq (ws' := G) (st' := [.int (iI wy)]) (List.append_nil _) rfl ?_
              refine z_if_neI (tgt := 74) C dL_mill_51 (by decide) ⟨by omega, by omega⟩ (fun hv51 => ?_) (fun hv51 => ?_)
              · exfalso
                omega
              · refine z_iload_n (i := 1) C dL_mill_54 rfl rfl ?_
                refine z_if_gtI (tgt := 70) C dL_mill_55 (by decide) ⟨by omega, by omega⟩ (fun hv55 => ?_) (fun hv55 => ?_)
                · refine z_iconst (v := iI 1) C dL_mill_70 rfl ?_
                  refine z_goto (tgt := 75) C dL_mill_71 (by decide) ?_
                  exact z_zret C hR (by decide) dL_mill_75 (Nat.le_of_ble_eq_true rfl) (Nat.le_of_ble_eq_true rfl) (⟨rfl, hG⟩)
                · refine z_iload_n (i := 2) C dL_mill_58 rfl rfl ?_
                  refine z_if_neI (tgt := 74) C dL_mill_59 (by decide) ⟨by omega, by omega⟩ (fun hv59 => ?_) (fun hv59 => ?_)
                  · exfalso
                    omega
                  · refine z_aload_n (i := 0) C dL_mill_62 rfl rfl ?_
                    obtain ⟨PH, hM, hp⟩ := c_ways l hl D cL hG 
                    obtain ⟨fs, hG0⟩ := hG.g0
                    refine z_callV (n := 0) (As := []) (st := []) (fr := []) C hE hM gL_mill_X4_ways rfl ⟨rfl, rfl⟩ (by decide +kernel) ⟨Nat.le_of_ble_eq_true rfl, Nat.le_of_ble_eq_true rfl⟩ rfl rfl (by rw [List.append_nil]) 0 hG0 rfl rfl (Nat.le_of_ble_eq_true rfl) ⟨Nat.le_of_ble_eq_true rfl, Nat.le_of_ble_eq_true rfl⟩ dL_mill_63 (fun r G hpo => ?_)
                    obtain ⟨rfl, hG⟩ := hp _ _ hpo
                    rw [e3]
                    refine (show zG E Q (0 + 0 + 0 + 0 + 0) (0 + 0 + 0 + 0 + 0) (G ++ []) [some (.ref h), some (.int (iI L)), some (.int (iI pc)), some (.int (iI rs))] 66 [.int (iI wy)] from ?_)
                    refine z_eq (ws' := G) (st' := [.int (iI wy)]) (List.append_nil _) rfl ?_
                    refine z_iconst (v := iI 1) C dL_mill_66 rfl ?_
                    refine z_icmp_neI (tgt := 74) C dL_mill_67 (by decide) ⟨by omega, by omega⟩ ⟨by omega, by omega⟩ (fun hv67 => ?_) (fun hv67 => ?_)
                    · exfalso
                      omega
                    · refine z_iconst (v := iI 1) C dL_mill_70 rfl ?_
                      refine z_goto (tgt := 75) C dL_mill_71 (by decide) ?_
                      exact z_zret C hR (by decide) dL_mill_75 (Nat.le_of_ble_eq_true rfl) (Nat.le_of_ble_eq_true rfl) (⟨rfl, hG⟩)
set_option maxHeartbeats 2000000 in
set_option maxRecDepth 100000 in
theorem s_school (l : Launch) (hl : l.stackTraces = false) (D : va_G) {cI cZ cM : ClassId} (cL : ClassId) {h n : Nat} {ND KN US : Int → Int32} {μ : Nat → zM} {L : Int} {d : Int32} {G : va_W} (hG : GI cI cZ cM h n ND KN US μ L d G) (p0 i0 : Int) (hpu : 0 ≤ p0 ∧ p0 < 6) (hi : 0 ≤ i0 ∧ i0 < n) : zN l yL_school wsL_school { frames := 10, cells := 90, slots := 540, locals := 180 } D (zTy cI cZ cM cL) [.ref h, .int (iI p0), .int (iI i0)] G (fun r w => r = some (.int (iI 1)) ∧ GI cI cZ cM h n ND KN US μ L d w) 90 540 := by
  refine zN_of (cc := cL_school) (maxL := 4) (lv0 := [some (.ref h), some (.int (iI p0)), some (.int (iI i0)), none]) (by decide) rfl rfl (Nat.le_of_ble_eq_true rfl) rfl ?_
  intro E Q C hE hR hI0
  have hn8 := hG.O.1
  have hK : byt (kcB μ (mcB US i0) n) := kcB_byt n (fun j hj => hG.O.2.1 j hj)
  obtain ⟨z, hz0, hz1, hz⟩ := byt_int hK
  obtain ⟨m, e1, f1, f2, f3, f4⟩ := les_z (ND := ND) (N := KN p0) hK
  have f5 : (m = 0 ∧ b2 (¬ lk (KN p0) (kcB μ (mcB US i0) n)) = 1) ∨ (¬ m = 0 ∧ b2 (¬ lk (KN p0) (kcB μ (mcB US i0) n)) = 0) := by
    by_cases h9 : lk (KN p0) (kcB μ (mcB US i0) n)
    · exact Or.inr ⟨fun h8 => f3.mp h8 h9, b2f (fun h8 => h8 h9)⟩
    · exact Or.inl ⟨f3.mpr h9, b2t h9⟩
  have f6 : z = 0 → m = 0 := fun h9 => f4 (by rw [hz, h9])
  refine z_aload_n (i := 0) C dL_school_0 rfl rfl ?_
  refine z_iload_n (i := 1) C dL_school_1 rfl rfl ?_
  refine z_iload_n (i := 2) C dL_school_2 rfl rfl ?_
  obtain ⟨PH, hM, hp⟩ := c_lessons l hl D cL hG p0 i0 ⟨by omega, by omega⟩ ⟨by omega, by omega⟩
  obtain ⟨fs, hG0⟩ := hG.g0
  refine z_callVx (n := 2) (As := [.int (iI p0), .int (iI i0)]) (st := []) (fr := []) C hE hM gL_school_X4_lessons rfl ⟨rfl, rfl⟩ (by decide +kernel) ⟨Nat.le_of_ble_eq_true rfl, Nat.le_of_ble_eq_true rfl⟩ rfl rfl (by rw [List.append_nil]) 0 hG0 rfl rfl (Nat.le_of_ble_eq_true rfl) ⟨Nat.le_of_ble_eq_true rfl, Nat.le_of_ble_eq_true rfl⟩ dL_school_3 (fun Ex hpx => absurd hpx (pX_no (cEX_ok hi hpu))) (fun r G hpo => ?_)
  obtain ⟨rfl, hG⟩ := hp _ _ hpo
  rw [e1]
  refine (show zG E Q (0 + 18) (0 + 108) (G ++ []) [some (.ref h), some (.int (iI p0)), some (.int (iI i0)), none] 6 [.int (iI m)] from ?_)
  refine z_eq (ws' := G) (st' := [.int (iI m)]) (List.append_nil _) rfl ?_
  refine z_istore_n (i := 3) (lv' := [some (.ref h), some (.int (iI p0)), some (.int (iI i0)), some (.int (iI m))]) C dL_school_6 rfl rfl rfl ?_
  refine z_aload_n (i := 0) C dL_school_7 rfl rfl ?_
  refine z_iload_n (i := 1) C dL_school_8 rfl rfl ?_
  refine z_iload_n (i := 2) C dL_school_9 rfl rfl ?_
  obtain ⟨PH, hM, hp⟩ := c_mayFold l hl D cL hG p0 i0 ⟨by omega, by omega⟩ ⟨by omega, by omega⟩
  obtain ⟨fs, hG0⟩ := hG.g0
  refine z_callVx (n := 2) (As := [.int (iI p0), .int (iI i0)]) (st := []) (fr := []) C hE hM gL_school_X4_mayFold rfl ⟨rfl, rfl⟩ (by decide +kernel) ⟨Nat.le_of_ble_eq_true rfl, Nat.le_of_ble_eq_true rfl⟩ rfl rfl (by rw [List.append_nil]) 0 hG0 rfl rfl (Nat.le_of_ble_eq_true rfl) ⟨Nat.le_of_ble_eq_true rfl, Nat.le_of_ble_eq_true rfl⟩ dL_school_10 (fun Ex hpx => absurd hpx (pX_no (cEX_ok hi hpu))) (fun r G hpo => ?_)
  obtain ⟨rfl, hG⟩ := hp _ _ hpo
  refine (show zG E Q (0 + 18 + 18) (0 + 108 + 108) (G ++ []) [some (.ref h), some (.int (iI p0)), some (.int (iI i0)), some (.int (iI m))] 13 [.int (iI (b2 (¬ lk (KN p0) (kcB μ (mcB US i0) n))))] from ?_)
  refine z_eq (ws' := G) (st' := [.int (iI (b2 (¬ lk (KN p0) (kcB μ (mcB US i0) n))))]) (List.append_nil _) rfl ?_
  refine z_iload_n (i := 3) C dL_school_13 rfl rfl ?_
  refine z_if_neI (tgt := 21) C dL_school_14 (by decide) ⟨by omega, by omega⟩ (fun hv14 => ?_) (fun hv14 => ?_)
  · refine z_iconst (v := iI 0) C dL_school_21 rfl ?_
    refine z_icmp_neI (tgt := 70) C dL_school_22 (by decide) ⟨by omega, by omega⟩ ⟨by omega, by omega⟩ (fun hv22 => ?_) (fun hv22 => ?_)
    · exfalso
      omega
    · refine z_iload_n (i := 3) C dL_school_25 rfl rfl ?_
      refine z_if_ltI (tgt := 70) C dL_school_26 (by decide) ⟨by omega, by omega⟩ (fun hv26 => ?_) (fun hv26 => ?_)
      · exfalso
        omega
      · refine z_iload_n (i := 3) C dL_school_29 rfl rfl ?_
        refine z_bipush (v := iI 8) C dL_school_30 (by decide) ?_
        refine z_icmp_gtI (tgt := 70) C dL_school_32 (by decide) ⟨by omega, by omega⟩ ⟨by omega, by omega⟩ (fun hv32 => ?_) (fun hv32 => ?_)
        · exfalso
          omega
        · refine z_aload_n (i := 0) C dL_school_35 rfl rfl ?_
          refine z_iload_n (i := 2) C dL_school_36 rfl rfl ?_
          obtain ⟨PH, hM, hp⟩ := c_kindsOf l hl D cL hG i0 ⟨by omega, by omega⟩
          obtain ⟨fs, hG0⟩ := hG.g0
          refine z_callVx (n := 1) (As := [.int (iI i0)]) (st := []) (fr := []) C hE hM gL_school_X4_kindsOf rfl ⟨rfl, rfl⟩ (by decide +kernel) ⟨Nat.le_of_ble_eq_true rfl, Nat.le_of_ble_eq_true rfl⟩ rfl rfl (by rw [List.append_nil]) 0 hG0 rfl rfl (Nat.le_of_ble_eq_true rfl) ⟨Nat.le_of_ble_eq_true rfl, Nat.le_of_ble_eq_true rfl⟩ dL_school_37 (fun Ex hpx => absurd hpx (pX_no (cM1_ok hi))) (fun r G hpo => ?_)
          obtain ⟨rfl, hG⟩ := hp _ _ hpo
          rw [hz]
          refine (show zG E Q (0 + 18 + 18 + 17) (0 + 108 + 108 + 102) (G ++ []) [some (.ref h), some (.int (iI p0)), some (.int (iI i0)), some (.int (iI m))] 40 [.int (iI z)] from ?_)
          refine z_eq (ws' := G) (st' := [.int (iI z)]) (List.append_nil _) rfl ?_
          refine z_if_ltI (tgt := 70) C dL_school_40 (by decide) ⟨by omega, by omega⟩ (fun hv40 => ?_) (fun hv40 => ?_)
          · exfalso
            omega
          · refine z_aload_n (i := 0) C dL_school_43 rfl rfl ?_
            refine z_iload_n (i := 2) C dL_school_44 rfl rfl ?_
            obtain ⟨PH, hM, hp⟩ := c_kindsOf l hl D cL hG i0 ⟨by omega, by omega⟩
            obtain ⟨fs, hG0⟩ := hG.g0
            refine z_callVx (n := 1) (As := [.int (iI i0)]) (st := []) (fr := []) C hE hM gL_school_X4_kindsOf rfl ⟨rfl, rfl⟩ (by decide +kernel) ⟨Nat.le_of_ble_eq_true rfl, Nat.le_of_ble_eq_true rfl⟩ rfl rfl (by rw [List.append_nil]) 0 hG0 rfl rfl (Nat.le_of_ble_eq_true rfl) ⟨Nat.le_of_ble_eq_true rfl, Nat.le_of_ble_eq_true rfl⟩ dL_school_45 (fun Ex hpx => absurd hpx (pX_no (cM1_ok hi))) (fun r G hpo => ?_)
            obtain ⟨rfl, hG⟩ := hp _ _ hpo
            rw [hz]
            refine (show zG E Q (0 + 18 + 18 + 17 + 17) (0 + 108 + 108 + 102 + 102) (G ++ []) [some (.ref h), some (.int (iI p0)), some (.int (iI i0)), some (.int (iI m))] 48 [.int (iI z)] from ?_)
            refine z_eq (ws' := G) (st' := [.int (iI z)]) (List.append_nil _) rfl ?_
            refine z_sipush (v := iI 255) C dL_school_48 (by decide) ?_
            refine z_icmp_gtI (tgt := 70) C dL_school_51 (by decide) ⟨by omega, by omega⟩ ⟨by omega, by omega⟩ (fun hv51 => ?_) (fun hv51 => ?_)
            · exfalso
              omega
            · refine z_aload_n (i := 0) C dL_school_54 rfl rfl ?_
              refine z_iload_n (i := 2) C dL_school_55 rfl rfl ?_
              obtain ⟨PH, hM, hp⟩ := c_kindsOf l hl D cL hG i0 ⟨by omega, by omega⟩
              obtain ⟨fs, hG0⟩ := hG.g0
              refine z_callVx (n := 1) (As := [.int (iI i0)]) (st := []) (fr := []) C hE hM gL_school_X4_kindsOf rfl ⟨rfl, rfl⟩ (by decide +kernel) ⟨Nat.le_of_ble_eq_true rfl, Nat.le_of_ble_eq_true rfl⟩ rfl rfl (by rw [List.append_nil]) 0 hG0 rfl rfl (Nat.le_of_ble_eq_true rfl) ⟨Nat.le_of_ble_eq_true rfl, Nat.le_of_ble_eq_true rfl⟩ dL_school_56 (fun Ex hpx => absurd hpx (pX_no (cM1_ok hi))) (fun r G hpo => ?_)
              obtain ⟨rfl, hG⟩ := hp _ _ hpo
              rw [hz]
              refine (show zG E Q (0 + 18 + 18 + 17 + 17 + 17) (0 + 108 + 108 + 102 + 102 + 102) (G ++ []) [some (.ref h), some (.int (iI p0)), some (.int (iI i0)), some (.int (iI m))] 59 [.int (iI z)] from ?_)
              refine z_eq (ws' := G) (st' := [.int (iI z)]) (List.append_nil _) rfl ?_
              refine z_if_neI (tgt := 66) C dL_school_59 (by decide) ⟨by omega, by omega⟩ (fun hv59 => ?_) (fun hv59 => ?_)
              · refine z_iconst (v := iI 1) C dL_school_66 rfl ?_
                refine z_goto (tgt := 71) C dL_school_67 (by decide) ?_
                exact z_zret C hR (by decide) dL_school_71 (Nat.le_of_ble_eq_true rfl) (Nat.le_of_ble_eq_true rfl) (⟨rfl, hG⟩)
              · refine z_iload_n (i := 3) C dL_school_62 rfl rfl ?_
                refine z_if_neI (tgt := 70) C dL_school_63 (by decide) ⟨by omega, by omega⟩ (fun hv63 => ?_) (fun hv63 => ?_)
                · exfalso
                  omega
                · refine z_iconst (v := iI 1) C dL_school_66 rfl ?_
                  refine z_goto (tgt := 71) C dL_school_67 (by decide) ?_
                  exact z_zret C hR (by decide) dL_school_71 (Nat.le_of_ble_eq_true rfl) (Nat.le_of_ble_eq_true rfl) (⟨rfl, hG⟩)
  · refine z_iconst (v := iI 1) C dL_school_17 rfl ?_
    refine z_goto (tgt := 22) C dL_school_18 (by decide) ?_
    refine z_icmp_neI (tgt := 70) C dL_school_22 (by decide) ⟨by omega, by omega⟩ ⟨by omega, by omega⟩ (fun hv22 => ?_) (fun hv22 => ?_)
    · exfalso
      omega
    · refine z_iload_n (i := 3) C dL_school_25 rfl rfl ?_
      refine z_if_ltI (tgt := 70) C dL_school_26 (by decide) ⟨by omega, by omega⟩ (fun hv26 => ?_) (fun hv26 => ?_)
      · exfalso
        omega
      · refine z_iload_n (i := 3) C dL_school_29 rfl rfl ?_
        refine z_bipush (v := iI 8) C dL_school_30 (by decide) ?_
        refine z_icmp_gtI (tgt := 70) C dL_school_32 (by decide) ⟨by omega, by omega⟩ ⟨by omega, by omega⟩ (fun hv32 => ?_) (fun hv32 => ?_)
        · exfalso
          omega
        · refine z_aload_n (i := 0) C dL_school_35 rfl rfl ?_
          refine z_iload_n (i := 2) C dL_school_36 rfl rfl ?_
          obtain ⟨PH, hM, hp⟩ := c_kindsOf l hl D cL hG i0 ⟨by omega, by omega⟩
          obtain ⟨fs, hG0⟩ := hG.g0
          refine z_callVx (n := 1) (As := [.int (iI i0)]) (st := []) (fr := []) C hE hM gL_school_X4_kindsOf rfl ⟨rfl, rfl⟩ (by decide +kernel) ⟨Nat.le_of_ble_eq_true rfl, Nat.le_of_ble_eq_true rfl⟩ rfl rfl (by rw [List.append_nil]) 0 hG0 rfl rfl (Nat.le_of_ble_eq_true rfl) ⟨Nat.le_of_ble_eq_true rfl, Nat.le_of_ble_eq_true rfl⟩ dL_school_37 (fun Ex hpx => absurd hpx (pX_no (cM1_ok hi))) (fun r G hpo => ?_)
          obtain ⟨rfl, hG⟩ := hp _ _ hpo
          rw [hz]
          refine (show zG E Q (0 + 18 + 18 + 17) (0 + 108 + 108 + 102) (G ++ []) [some (.ref h), some (.int (iI p0)), some (.int (iI i0)), some (.int (iI m))] 40 [.int (iI z)] from ?_)
          refine z_eq (ws' := G) (st' := [.int (iI z)]) (List.append_nil _) rfl ?_
          refine z_if_ltI (tgt := 70) C dL_school_40 (by decide) ⟨by omega, by omega⟩ (fun hv40 => ?_) (fun hv40 => ?_)
          · exfalso
            omega
          · refine z_aload_n (i := 0) C dL_school_43 rfl rfl ?_
            refine z_iload_n (i := 2) C dL_school_44 rfl rfl ?_
            obtain ⟨PH, hM, hp⟩ := c_kindsOf l hl D cL hG i0 ⟨by omega, by omega⟩
            obtain ⟨fs, hG0⟩ := hG.g0
            refine z_callVx (n := 1) (As := [.int (iI i0)]) (st := []) (fr := []) C hE hM gL_school_X4_kindsOf rfl ⟨rfl, rfl⟩ (by decide +kernel) ⟨Nat.le_of_ble_eq_true rfl, Nat.le_of_ble_eq_true rfl⟩ rfl rfl (by rw [List.append_nil]) 0 hG0 rfl rfl (Nat.le_of_ble_eq_true rfl) ⟨Nat.le_of_ble_eq_true rfl, Nat.le_of_ble_eq_true rfl⟩ dL_school_45 (fun Ex hpx => absurd hpx (pX_no (cM1_ok hi))) (fun r G hpo => ?_)
            obtain ⟨rfl, hG⟩ := hp _ _ hpo
            rw [hz]
            refine (show zG E Q (0 + 18 + 18 + 17 + 17) (0 + 108 + 108 + 102 + 102) (G ++ []) [some (.ref h), some (.int (iI p0)), some (.int (iI i0)), some (.int (iI m))] 48 [.int (iI z)] from ?_)
            refine z_eq (ws' := G) (st' := [.int (iI z)]) (List.append_nil _) rfl ?_
            refine z_sipush (v := iI 255) C dL_school_48 (by decide) ?_
            refine z_icmp_gtI (tgt := 70) C dL_school_51 (by decide) ⟨by omega, by omega⟩ ⟨by omega, by omega⟩ (fun hv51 => ?_) (fun hv51 => ?_)
            · exfalso
              omega
            · refine z_aload_n (i := 0) C dL_school_54 rfl rfl ?_
              refine z_iload_n (i := 2) C dL_school_55 rfl rfl ?_
              obtain ⟨PH, hM, hp⟩ := c_kindsOf l hl D cL hG i0 ⟨by omega, by omega⟩
              obtain ⟨fs, hG0⟩ := hG.g0
              refine z_callVx (n := 1) (As := [.int (iI i0)]) (st := []) (fr := []) C hE hM gL_school_X4_kindsOf rfl ⟨rfl, rfl⟩ (by decide +kernel) ⟨Nat.le_of_ble_eq_true rfl, Nat.le_of_ble_eq_true rfl⟩ rfl rfl (by rw [List.append_nil]) 0 hG0 rfl rfl (Nat.le_of_ble_eq_true rfl) ⟨Nat.le_of_ble_eq_true rfl, Nat.le_of_ble_eq_true rfl⟩ dL_school_56 (fun Ex hpx => absurd hpx (pX_no (cM1_ok hi))) (fun r G hpo => ?_)
              obtain ⟨rfl, hG⟩ := hp _ _ hpo
              rw [hz]
              refine (show zG E Q (0 + 18 + 18 + 17 + 17 + 17) (0 + 108 + 108 + 102 + 102 + 102) (G ++ []) [some (.ref h), some (.int (iI p0)), some (.int (iI i0)), some (.int (iI m))] 59 [.int (iI z)] from ?_)
              refine z_eq (ws' := G) (st' := [.int (iI z)]) (List.append_nil _) rfl ?_
              refine z_if_neI (tgt := 66) C dL_school_59 (by decide) ⟨by omega, by omega⟩ (fun hv59 => ?_) (fun hv59 => ?_)
              · refine z_iconst (v := iI 1) C dL_school_66 rfl ?_
                refine z_goto (tgt := 71) C dL_school_67 (by decide) ?_
                exact z_zret C hR (by decide) dL_school_71 (Nat.le_of_ble_eq_true rfl) (Nat.le_of_ble_eq_true rfl) (⟨rfl, hG⟩)
              · refine z_iload_n (i := 3) C dL_school_62 rfl rfl ?_
                refine z_if_neI (tgt := 70) C dL_school_63 (by decide) ⟨by omega, by omega⟩ (fun hv63 => ?_) (fun hv63 => ?_)
                · exfalso
                  omega
                · refine z_iconst (v := iI 1) C dL_school_66 rfl ?_
                  refine z_goto (tgt := 71) C dL_school_67 (by decide) ?_
                  exact z_zret C hR (by decide) dL_school_71 (Nat.le_of_ble_eq_true rfl) (Nat.le_of_ble_eq_true rfl) (⟨rfl, hG⟩)
set_option maxHeartbeats 2000000 in
set_option maxRecDepth 100000 in
theorem s_strip (l : Launch) (hl : l.stackTraces = false) (D : va_G) {cI cZ cM : ClassId} (cL : ClassId) {h n : Nat} {ND KN US : Int → Int32} {μ : Nat → zM} {L : Int} {d : Int32} {G : va_W} (hG : GI cI cZ cM h n ND KN US μ L d G) (i0 : Int) (hi : 0 ≤ i0 ∧ i0 < n) : zN l yL_strip wsL_strip { frames := 9, cells := 4200, slots := 25200, locals := 158 } D (zTy cI cZ cM cL) [.ref h, .int (iI i0), .int (iI (mle (μ i0.toNat)))] G (fun r w => r = some (.int (iI 1)) ∧ GI cI cZ cM h n ND KN US μ L d w) 4200 25200 := by
  refine zN_of (cc := cL_strip) (maxL := 10) (lv0 := [some (.ref h), some (.int (iI i0)), some (.int (iI (mle (μ i0.toNat)))), none, none, none, none, none, none, none]) (by decide) rfl rfl (Nat.le_of_ble_eq_true rfl) rfl ?_
  intro E Q C hE hR hI0
  have hn8 := hG.O.1
  have hO : mdO (μ i0.toNat) := hG.O.2.1 i0.toNat (by omega)
  obtain ⟨-, g2, g3, -, -, -⟩ := mdO_f hO
  obtain ⟨f1, f2, f3, f4, f5, f6⟩ := strip_z hO
  have f7 : 0 ≤ (mle (μ i0.toNat) + mgS (μ i0.toNat) - 1) / mgS (μ i0.toNat) := Int.ediv_nonneg (by omega) (by omega)
  have f8 : (b2 (mlay (μ i0.toNat) ≤ max 1 (40 - 2 * 20)) = 1 ∧ mlay (μ i0.toNat) = 1 ∧ msn (μ i0.toNat) = 0) ∨ (b2 (mlay (μ i0.toNat) ≤ max 1 (40 - 2 * 20)) = 0 ∧ ¬ (mlay (μ i0.toNat) = 1 ∧ msn (μ i0.toNat) = 0)) := by
    by_cases h9 : mlay (μ i0.toNat) ≤ 1
    · exact Or.inl ⟨b2t (by omega), f6.mp h9⟩
    · exact Or.inr ⟨b2f (by omega), by omega⟩
  have lp : ∀ (m k : Nat) (sm : Int) (G : va_W), GI cI cZ cM h n ND KN US μ L d G → (k : Int) ≤ mle (μ i0.toNat) → mle (μ i0.toNat) - k < m → 0 ≤ sm → sm ≤ k → (msn (μ i0.toNat) = 0 → sm = 0) → zG E Q (20 + 120 * k) (120 + 720 * k) G [some (.ref h), some (.int (iI i0)), some (.int (iI (mle (μ i0.toNat)))), some (.int (iI (mgS (μ i0.toNat)))), some (.int (iI (mlay (μ i0.toNat)))), some (.int (iI 1)), some (.int (iI sm)), some (.int (iI ↑k)), none, none] 93 [] := by
    intro m
    induction m with
    | zero => intro k sm G hG hk hkm; omega
    | succ m ih =>
      intro k sm G hG hk hkm hs0 hs1 hs2
      have k162 : ∀ G : va_W, GI cI cZ cM h n ND KN US μ L d G → (k : Int) < mle (μ i0.toNat) → ((0 ≤ mgP (μ i0.toNat) k ∧ mgP (μ i0.toNat) k < mgS (μ i0.toNat)) ∧ (mgT (μ i0.toNat) k = 0 ∨ mgT (μ i0.toNat) k = 1) ∧ (msn (μ i0.toNat) = 0 → mgT (μ i0.toNat) k = 0)) → zG E Q (20 + 120 * k + 102) (120 + 720 * k + 612) G [some (.ref h), some (.int (iI i0)), some (.int (iI (mle (μ i0.toNat)))), some (.int (iI (mgS (μ i0.toNat)))), some (.int (iI (mlay (μ i0.toNat)))), some (.int (iI 1)), some (.int (iI sm)), some (.int (iI ↑k)), some (.int (iI (mgP (μ i0.toNat) k))), none] 162 [] := by
        intro G hG hc p0
        obtain ⟨⟨p1, p2⟩, p6, p7⟩ := p0
        refine z_iload C dL_strip_162 rfl ?_
        refine z_aload_n (i := 0) C dL_strip_164 rfl rfl ?_
        refine z_iload_n (i := 1) C dL_strip_165 rfl rfl ?_
        refine z_iload C dL_strip_166 rfl ?_
        obtain ⟨PH, hM, hp⟩ := c_isTurned l hl D cL hG i0 ⟨by omega, by omega⟩ k ⟨by omega, by omega⟩
        obtain ⟨fs, hG0⟩ := hG.g0
        refine z_callVx (n := 2) (As := [.int (iI i0), .int (iI ↑k)]) (st := [.int (iI sm)]) (fr := []) C hE hM gL_strip_X4_isTurned rfl ⟨rfl, rfl⟩ (by decide +kernel) ⟨Nat.le_of_ble_eq_true rfl, Nat.le_of_ble_eq_true rfl⟩ rfl rfl (by rw [List.append_nil]) 0 hG0 rfl rfl (Nat.le_of_ble_eq_true rfl) ⟨by show 20 + 120 * k + 102 + 3 ≤ 4200; omega, by show 120 + 720 * k + 612 + 18 ≤ 25200; omega⟩ dL_strip_168 (fun Ex hpx => absurd hpx (pX_no (cPO_ok hi ⟨by omega, by omega⟩))) (fun r G hpo => ?_)
        obtain ⟨rfl, hG⟩ := hp _ _ hpo
        refine (show zG E Q (20 + 120 * k + 102 + 3) (120 + 720 * k + 612 + 18) (G ++ []) [some (.ref h), some (.int (iI i0)), some (.int (iI (mle (μ i0.toNat)))), some (.int (iI (mgS (μ i0.toNat)))), some (.int (iI (mlay (μ i0.toNat)))), some (.int (iI 1)), some (.int (iI sm)), some (.int (iI ↑k)), some (.int (iI (mgP (μ i0.toNat) k))), none] 171 [.int (iI (mgT (μ i0.toNat) k)), .int (iI sm)] from ?_)
        refine z_eq (ws' := G) (st' := [.int (iI (mgT (μ i0.toNat) k)), .int (iI sm)]) (List.append_nil _) rfl ?_
        refine z_if_eqI (tgt := 178) C dL_strip_171 (by decide) ⟨by omega, by omega⟩ (fun hv171 => ?_) (fun hv171 => ?_)
        · refine z_iconst (v := iI 0) C dL_strip_178 rfl ?_
          refine z_iaddI (v := sm + 0) C dL_strip_179 (by omega) ?_
          refine z_istore (lv' := [some (.ref h), some (.int (iI i0)), some (.int (iI (mle (μ i0.toNat)))), some (.int (iI (mgS (μ i0.toNat)))), some (.int (iI (mlay (μ i0.toNat)))), some (.int (iI 1)), some (.int (iI (sm + 0))), some (.int (iI ↑k)), some (.int (iI (mgP (μ i0.toNat) k))), none]) C dL_strip_180 rfl rfl ?_
          refine z_iload C dL_strip_182 rfl ?_
          refine z_if_eqI (tgt := 202) C dL_strip_184 (by decide) ⟨by omega, by omega⟩ (fun h => by exfalso; omega) (fun _ => ?_)
          refine z_iload C dL_strip_187 rfl ?_
          refine z_if_ltI (tgt := 202) C dL_strip_189 (by decide) ⟨by omega, by omega⟩ (fun h => by exfalso; omega) (fun _ => ?_)
          refine z_iload C dL_strip_192 rfl ?_
          refine z_iload_n (i := 3) C dL_strip_194 rfl rfl ?_
          refine z_icmp_geI (tgt := 202) C dL_strip_195 (by decide) ⟨by omega, by omega⟩ ⟨by omega, by omega⟩ (fun h => by exfalso; omega) (fun _ => ?_)
          refine z_iconst (v := iI 1) C dL_strip_198 rfl ?_
          refine z_goto (tgt := 203) C dL_strip_199 (by decide) ?_
          refine z_istore (lv' := [some (.ref h), some (.int (iI i0)), some (.int (iI (mle (μ i0.toNat)))), some (.int (iI (mgS (μ i0.toNat)))), some (.int (iI (mlay (μ i0.toNat)))), some (.int (iI 1)), some (.int (iI (sm + 0))), some (.int (iI ↑k)), some (.int (iI (mgP (μ i0.toNat) k))), none]) C dL_strip_203 rfl rfl ?_
          refine z_iincI (v := ↑(k + 1)) (lv' := [some (.ref h), some (.int (iI i0)), some (.int (iI (mle (μ i0.toNat)))), some (.int (iI (mgS (μ i0.toNat)))), some (.int (iI (mlay (μ i0.toNat)))), some (.int (iI 1)), some (.int (iI (sm + 0))), some (.int (iI (↑(k + 1)))), some (.int (iI (mgP (μ i0.toNat) k))), none]) C dL_strip_205 rfl (by omega) rfl ?_
          refine z_goto (tgt := 93) C dL_strip_208 (by decide) ?_
          refine z_le (r := [some (.ref h), some (.int (iI i0)), some (.int (iI (mle (μ i0.toNat)))), some (.int (iI (mgS (μ i0.toNat)))), some (.int (iI (mlay (μ i0.toNat)))), some (.int (iI 1)), some (.int (iI (sm + 0))), some (.int (iI ↑(k + 1))), none, none]) ⟨Or.inr rfl, Or.inr rfl, Or.inr rfl, Or.inr rfl, Or.inr rfl, Or.inr rfl, Or.inr rfl, Or.inr rfl, Or.inl rfl, Or.inl rfl, trivial⟩ ?_
          exact z_widen (k := 20 + 120 * (k + 1)) (n := 120 + 720 * (k + 1)) (by omega) (by omega) (ih (k + 1) _ G hG (by omega) (by omega) (by omega) (by omega) (fun h9 => by have := p7 h9; have := hs2 h9; omega))
        · refine z_iconst (v := iI 1) C dL_strip_174 rfl ?_
          refine z_goto (tgt := 179) C dL_strip_175 (by decide) ?_
          refine z_iaddI (v := sm + 1) C dL_strip_179 (by omega) ?_
          refine z_istore (lv' := [some (.ref h), some (.int (iI i0)), some (.int (iI (mle (μ i0.toNat)))), some (.int (iI (mgS (μ i0.toNat)))), some (.int (iI (mlay (μ i0.toNat)))), some (.int (iI 1)), some (.int (iI (sm + 1))), some (.int (iI ↑k)), some (.int (iI (mgP (μ i0.toNat) k))), none]) C dL_strip_180 rfl rfl ?_
          refine z_iload C dL_strip_182 rfl ?_
          refine z_if_eqI (tgt := 202) C dL_strip_184 (by decide) ⟨by omega, by omega⟩ (fun h => by exfalso; omega) (fun _ => ?_)
          refine z_iload C dL_strip_187 rfl ?_
          refine z_if_ltI (tgt := 202) C dL_strip_189 (by decide) ⟨by omega, by omega⟩ (fun h => by exfalso; omega) (fun _ => ?_)
          refine z_iload C dL_strip_192 rfl ?_
          refine z_iload_n (i := 3) C dL_strip_194 rfl rfl ?_
          refine z_icmp_geI (tgt := 202) C dL_strip_195 (by decide) ⟨by omega, by omega⟩ ⟨by omega, by omega⟩ (fun h => by exfalso; omega) (fun _ => ?_)
          refine z_iconst (v := iI 1) C dL_strip_198 rfl ?_
          refine z_goto (tgt := 203) C dL_strip_199 (by decide) ?_
          refine z_istore (lv' := [some (.ref h), some (.int (iI i0)), some (.int (iI (mle (μ i0.toNat)))), some (.int (iI (mgS (μ i0.toNat)))), some (.int (iI (mlay (μ i0.toNat)))), some (.int (iI 1)), some (.int (iI (sm + 1))), some (.int (iI ↑k)), some (.int (iI (mgP (μ i0.toNat) k))), none]) C dL_strip_203 rfl rfl ?_
          refine z_iincI (v := ↑(k + 1)) (lv' := [some (.ref h), some (.int (iI i0)), some (.int (iI (mle (μ i0.toNat)))), some (.int (iI (mgS (μ i0.toNat)))), some (.int (iI (mlay (μ i0.toNat)))), some (.int (iI 1)), some (.int (iI (sm + 1))), some (.int (iI (↑(k + 1)))), some (.int (iI (mgP (μ i0.toNat) k))), none]) C dL_strip_205 rfl (by omega) rfl ?_
          refine z_goto (tgt := 93) C dL_strip_208 (by decide) ?_
          refine z_le (r := [some (.ref h), some (.int (iI i0)), some (.int (iI (mle (μ i0.toNat)))), some (.int (iI (mgS (μ i0.toNat)))), some (.int (iI (mlay (μ i0.toNat)))), some (.int (iI 1)), some (.int (iI (sm + 1))), some (.int (iI ↑(k + 1))), none, none]) ⟨Or.inr rfl, Or.inr rfl, Or.inr rfl, Or.inr rfl, Or.inr rfl, Or.inr rfl, Or.inr rfl, Or.inr rfl, Or.inl rfl, Or.inl rfl, trivial⟩ ?_
          exact z_widen (k := 20 + 120 * (k + 1)) (n := 120 + 720 * (k + 1)) (by omega) (by omega) (ih (k + 1) _ G hG (by omega) (by omega) (by omega) (by omega) (fun h9 => by have := p7 h9; have := hs2 h9; omega))
      refine z_iload C dL_strip_93 rfl ?_
      refine z_iload_n (i := 2) C dL_strip_95 rfl rfl ?_
      refine z_icmp_geI (tgt := 211) C dL_strip_96 (by decide) ⟨by omega, by omega⟩ ⟨by omega, by omega⟩ (fun hc => ?_) (fun hc => ?_)
      · refine z_iload C dL_strip_211 rfl ?_
        refine z_if_eqI (tgt := 233) C dL_strip_213 (by decide) ⟨by omega, by omega⟩ (fun h => by exfalso; omega) (fun _ => ?_)
        refine z_aload_n (i := 0) C dL_strip_216 rfl rfl ?_
        refine z_iload_n (i := 1) C dL_strip_217 rfl rfl ?_
        obtain ⟨PH, hM, hp⟩ := c_steps l hl D cL hG i0 ⟨by omega, by omega⟩
        obtain ⟨fs, hG0⟩ := hG.g0
        refine z_callVx (n := 1) (As := [.int (iI i0)]) (st := []) (fr := []) C hE hM gL_strip_X4_steps rfl ⟨rfl, rfl⟩ (by decide +kernel) ⟨Nat.le_of_ble_eq_true rfl, Nat.le_of_ble_eq_true rfl⟩ rfl rfl (by rw [List.append_nil]) 0 hG0 rfl rfl (Nat.le_of_ble_eq_true rfl) ⟨by show 20 + 120 * k + 2 ≤ 4200; omega, by show 120 + 720 * k + 12 ≤ 25200; omega⟩ dL_strip_218 (fun Ex hpx => absurd hpx (pX_no (cM1_ok hi))) (fun r G hpo => ?_)
        obtain ⟨rfl, hG⟩ := hp _ _ hpo
        refine (show zG E Q (20 + 120 * k + 2) (120 + 720 * k + 12) (G ++ []) [some (.ref h), some (.int (iI i0)), some (.int (iI (mle (μ i0.toNat)))), some (.int (iI (mgS (μ i0.toNat)))), some (.int (iI (mlay (μ i0.toNat)))), some (.int (iI 1)), some (.int (iI sm)), some (.int (iI ↑k)), none, none] 221 [.int (iI (msn (μ i0.toNat)))] from ?_)
        refine z_eq (ws' := G) (st' := [.int (iI (msn (μ i0.toNat)))]) (List.append_nil _) rfl ?_
        refine z_if_gtI (tgt := 229) C dL_strip_221 (by decide) ⟨by omega, by omega⟩ (fun hv221 => ?_) (fun hv221 => ?_)
        · refine z_iconst (v := iI 1) C dL_strip_229 rfl ?_
          refine z_goto (tgt := 234) C dL_strip_230 (by decide) ?_
          exact z_zret C hR (by decide) dL_strip_234 (by omega) (by omega) (⟨rfl, hG⟩)
        · refine z_iload C dL_strip_224 rfl ?_
          refine z_if_neI (tgt := 233) C dL_strip_226 (by decide) ⟨by omega, by omega⟩ (fun h => by exfalso; omega) (fun _ => ?_)
          refine z_iconst (v := iI 1) C dL_strip_229 rfl ?_
          refine z_goto (tgt := 234) C dL_strip_230 (by decide) ?_
          exact z_zret C hR (by decide) dL_strip_234 (by omega) (by omega) (⟨rfl, hG⟩)
      · obtain ⟨⟨p1, p2⟩, p3, p4, p5⟩ := place_z hO (q := k) (by omega) (by omega)
        obtain ⟨p6, p7⟩ := turn_z (u := (μ i0.toNat)) k
        have lq : ∀ (m2 t : Nat) (G : va_W), GI cI cZ cM h n ND KN US μ L d G → (t : Int) ≤ mgH (μ i0.toNat) k → mgH (μ i0.toNat) k - t < m2 → zG E Q (20 + 120 * k + 3 + 3 * t) (120 + 720 * k + 18 + 18 * t) G [some (.ref h), some (.int (iI i0)), some (.int (iI (mle (μ i0.toNat)))), some (.int (iI (mgS (μ i0.toNat)))), some (.int (iI (mlay (μ i0.toNat)))), some (.int (iI 1)), some (.int (iI sm)), some (.int (iI ↑k)), some (.int (iI (mgP (μ i0.toNat) k))), some (.int (iI ↑t))] 116 [] := by
          intro m2
          induction m2 with
          | zero => intro t G hG ht htm; omega
          | succ m2 ihq =>
            intro t G hG ht htm
            have cca : cCA n (μ i0.toNat) i0 (mgP (μ i0.toNat) k) t = 0 := by
              unfold cCA
              rw [if_neg (by omega), if_neg (by omega), if_neg (by omega)]
            refine z_iload C dL_strip_116 rfl ?_
            refine z_iload C dL_strip_118 rfl ?_
            refine z_icmp_geI (tgt := 162) C dL_strip_120 (by decide) ⟨by omega, by omega⟩ ⟨by omega, by omega⟩ (fun h => by exfalso; omega) (fun _ => ?_)
            refine z_iload C dL_strip_123 rfl ?_
            refine z_if_eqI (tgt := 162) C dL_strip_125 (by decide) ⟨by omega, by omega⟩ (fun h => by exfalso; omega) (fun _ => ?_)
            refine z_aload_n (i := 0) C dL_strip_128 rfl rfl ?_
            refine z_iload_n (i := 1) C dL_strip_129 rfl rfl ?_
            refine z_iload C dL_strip_130 rfl ?_
            refine z_iload C dL_strip_132 rfl ?_
            obtain ⟨PH, hM, hp⟩ := c_cellAt l hl D cL hG i0 ⟨by omega, by omega⟩ (mgP (μ i0.toNat) k) t ⟨by omega, by omega⟩ ⟨by omega, by omega⟩
            obtain ⟨fs, hG0⟩ := hG.g0
            refine z_callVx (n := 3) (As := [.int (iI i0), .int (iI (mgP (μ i0.toNat) k)), .int (iI ↑t)]) (st := []) (fr := []) C hE hM gL_strip_X4_cellAt rfl ⟨rfl, rfl⟩ (by decide +kernel) ⟨Nat.le_of_ble_eq_true rfl, Nat.le_of_ble_eq_true rfl⟩ rfl rfl (by rw [List.append_nil]) 0 hG0 rfl rfl (Nat.le_of_ble_eq_true rfl) ⟨by show 20 + 120 * k + 3 + 3 * t + 3 ≤ 4200; omega, by show 120 + 720 * k + 18 + 18 * t + 18 ≤ 25200; omega⟩ dL_strip_134 (fun Ex hpx => absurd hpx (pX_no (cca))) (fun r G hpo => ?_)
            obtain ⟨q, rfl, q1, q2, q3, hG⟩ := hp _ _ hpo
            refine (show zG E Q (20 + 120 * k + 3 + 3 * t + 3) (120 + 720 * k + 18 + 18 * t + 18) (G ++ []) [some (.ref h), some (.int (iI i0)), some (.int (iI (mle (μ i0.toNat)))), some (.int (iI (mgS (μ i0.toNat)))), some (.int (iI (mlay (μ i0.toNat)))), some (.int (iI 1)), some (.int (iI sm)), some (.int (iI ↑k)), some (.int (iI (mgP (μ i0.toNat) k))), some (.int (iI ↑t))] 137 [.int (iI q)] from ?_)
            refine z_eq (ws' := G) (st' := [.int (iI q)]) (List.append_nil _) rfl ?_
            refine z_iload C dL_strip_137 rfl ?_
            refine z_icmp_eqI (tgt := 162) C dL_strip_139 (by decide) ⟨by omega, by omega⟩ ⟨by omega, by omega⟩ (fun hq => ?_) (fun hq => ?_)
            · refine z_le (r := [some (.ref h), some (.int (iI i0)), some (.int (iI (mle (μ i0.toNat)))), some (.int (iI (mgS (μ i0.toNat)))), some (.int (iI (mlay (μ i0.toNat)))), some (.int (iI 1)), some (.int (iI sm)), some (.int (iI ↑k)), some (.int (iI (mgP (μ i0.toNat) k))), none]) ⟨Or.inr rfl, Or.inr rfl, Or.inr rfl, Or.inr rfl, Or.inr rfl, Or.inr rfl, Or.inr rfl, Or.inr rfl, Or.inr rfl, Or.inl rfl, trivial⟩ ?_
              exact z_widen (k := 20 + 120 * k + 102) (n := 120 + 720 * k + 612) (by omega) (by omega) (k162 G hG (by omega) ⟨⟨p1, p2⟩, p6, p7⟩)
            · have hne : ¬ (t : Int) = mgH (μ i0.toNat) k := fun h9 => hq (ca_uniq hO q1 ⟨by omega, by omega⟩ q2 (by rw [q3]; exact h9))
              refine z_iincI (v := ↑(t + 1)) (lv' := [some (.ref h), some (.int (iI i0)), some (.int (iI (mle (μ i0.toNat)))), some (.int (iI (mgS (μ i0.toNat)))), some (.int (iI (mlay (μ i0.toNat)))), some (.int (iI 1)), some (.int (iI sm)), some (.int (iI ↑k)), some (.int (iI (mgP (μ i0.toNat) k))), some (.int (iI (↑(t + 1))))]) C dL_strip_142 rfl (by omega) rfl ?_
              refine z_iload C dL_strip_145 rfl ?_
              refine z_iload C dL_strip_147 rfl ?_
              refine z_icmp_geI (tgt := 156) C dL_strip_149 (by decide) ⟨by omega, by omega⟩ ⟨by omega, by omega⟩ (fun h => by exfalso; omega) (fun _ => ?_)
              refine z_iconst (v := iI 1) C dL_strip_152 rfl ?_
              refine z_goto (tgt := 157) C dL_strip_153 (by decide) ?_
              refine z_istore (lv' := [some (.ref h), some (.int (iI i0)), some (.int (iI (mle (μ i0.toNat)))), some (.int (iI (mgS (μ i0.toNat)))), some (.int (iI (mlay (μ i0.toNat)))), some (.int (iI 1)), some (.int (iI sm)), some (.int (iI ↑k)), some (.int (iI (mgP (μ i0.toNat) k))), some (.int (iI (↑(t + 1))))]) C dL_strip_157 rfl rfl ?_
              refine z_goto (tgt := 116) C dL_strip_159 (by decide) ?_
              exact z_widen (k := 20 + 120 * k + 3 + 3 * (t + 1)) (n := 120 + 720 * k + 18 + 18 * (t + 1)) (by omega) (by omega) (ihq (t + 1) G hG (by omega) (by omega))
        refine z_iload C dL_strip_99 rfl ?_
        refine z_if_eqI (tgt := 211) C dL_strip_101 (by decide) ⟨by omega, by omega⟩ (fun h => by exfalso; omega) (fun _ => ?_)
        refine z_aload_n (i := 0) C dL_strip_104 rfl rfl ?_
        refine z_iload_n (i := 1) C dL_strip_105 rfl rfl ?_
        refine z_iload C dL_strip_106 rfl ?_
        obtain ⟨PH, hM, hp⟩ := c_placeOf l hl D cL hG i0 ⟨by omega, by omega⟩ k ⟨by omega, by omega⟩
        obtain ⟨fs, hG0⟩ := hG.g0
        refine z_callVx (n := 2) (As := [.int (iI i0), .int (iI ↑k)]) (st := []) (fr := []) C hE hM gL_strip_X4_placeOf rfl ⟨rfl, rfl⟩ (by decide +kernel) ⟨Nat.le_of_ble_eq_true rfl, Nat.le_of_ble_eq_true rfl⟩ rfl rfl (by rw [List.append_nil]) 0 hG0 rfl rfl (Nat.le_of_ble_eq_true rfl) ⟨by show 20 + 120 * k + 3 ≤ 4200; omega, by show 120 + 720 * k + 18 ≤ 25200; omega⟩ dL_strip_108 (fun Ex hpx => absurd hpx (pX_no (cPO_ok hi ⟨by omega, by omega⟩))) (fun r G hpo => ?_)
        obtain ⟨rfl, hG⟩ := hp _ _ hpo
        refine (show zG E Q (20 + 120 * k + 3) (120 + 720 * k + 18) (G ++ []) [some (.ref h), some (.int (iI i0)), some (.int (iI (mle (μ i0.toNat)))), some (.int (iI (mgS (μ i0.toNat)))), some (.int (iI (mlay (μ i0.toNat)))), some (.int (iI 1)), some (.int (iI sm)), some (.int (iI ↑k)), none, none] 111 [.int (iI (mgP (μ i0.toNat) k))] from ?_)
        refine z_eq (ws' := G) (st' := [.int (iI (mgP (μ i0.toNat) k))]) (List.append_nil _) rfl ?_
        refine z_istore (lv' := [some (.ref h), some (.int (iI i0)), some (.int (iI (mle (μ i0.toNat)))), some (.int (iI (mgS (μ i0.toNat)))), some (.int (iI (mlay (μ i0.toNat)))), some (.int (iI 1)), some (.int (iI sm)), some (.int (iI ↑k)), some (.int (iI (mgP (μ i0.toNat) k))), none]) C dL_strip_111 rfl rfl ?_
        refine z_iconst (v := iI 0) C dL_strip_113 rfl ?_
        refine z_istore (lv' := [some (.ref h), some (.int (iI i0)), some (.int (iI (mle (μ i0.toNat)))), some (.int (iI (mgS (μ i0.toNat)))), some (.int (iI (mlay (μ i0.toNat)))), some (.int (iI 1)), some (.int (iI sm)), some (.int (iI ↑k)), some (.int (iI (mgP (μ i0.toNat) k))), some (.int (iI 0))]) C dL_strip_114 rfl rfl ?_
        exact z_widen (k := 20 + 120 * k + 3 + 3 * 0) (n := 120 + 720 * k + 18 + 18 * 0) (by omega) (by omega) (lq ((mgH (μ i0.toNat) k).toNat + 1) 0 G hG (by omega) (by omega))
  have k85 : ∀ G : va_W, GI cI cZ cM h n ND KN US μ L d G → zG E Q 20 120 G [some (.ref h), some (.int (iI i0)), some (.int (iI (mle (μ i0.toNat)))), some (.int (iI (mgS (μ i0.toNat)))), some (.int (iI (mlay (μ i0.toNat)))), none, none, none, none, none] 85 [.int (iI 1)] := by
    intro G hG
    refine z_istore (lv' := [some (.ref h), some (.int (iI i0)), some (.int (iI (mle (μ i0.toNat)))), some (.int (iI (mgS (μ i0.toNat)))), some (.int (iI (mlay (μ i0.toNat)))), some (.int (iI 1)), none, none, none, none]) C dL_strip_85 rfl rfl ?_
    refine z_iconst (v := iI 0) C dL_strip_87 rfl ?_
    refine z_istore (lv' := [some (.ref h), some (.int (iI i0)), some (.int (iI (mle (μ i0.toNat)))), some (.int (iI (mgS (μ i0.toNat)))), some (.int (iI (mlay (μ i0.toNat)))), some (.int (iI 1)), some (.int (iI 0)), none, none, none]) C dL_strip_88 rfl rfl ?_
    refine z_iconst (v := iI 0) C dL_strip_90 rfl ?_
    refine z_istore (lv' := [some (.ref h), some (.int (iI i0)), some (.int (iI (mle (μ i0.toNat)))), some (.int (iI (mgS (μ i0.toNat)))), some (.int (iI (mlay (μ i0.toNat)))), some (.int (iI 1)), some (.int (iI 0)), some (.int (iI 0)), none, none]) C dL_strip_91 rfl rfl ?_
    exact z_widen (k := 20 + 120 * 0) (n := 120 + 720 * 0) (by omega) (by omega) (lp ((mle (μ i0.toNat)).toNat + 1) 0 0 G hG (by omega) (by omega) (by omega) (by omega) (fun _ => rfl))
  refine z_aload_n (i := 0) C dL_strip_0 rfl rfl ?_
  refine z_iload_n (i := 1) C dL_strip_1 rfl rfl ?_
  obtain ⟨PH, hM, hp⟩ := c_places l hl D cL hG i0 ⟨by omega, by omega⟩
  obtain ⟨fs, hG0⟩ := hG.g0
  refine z_callVx (n := 1) (As := [.int (iI i0)]) (st := []) (fr := []) C hE hM gL_strip_X4_places rfl ⟨rfl, rfl⟩ (by decide +kernel) ⟨Nat.le_of_ble_eq_true rfl, Nat.le_of_ble_eq_true rfl⟩ rfl rfl (by rw [List.append_nil]) 0 hG0 rfl rfl (Nat.le_of_ble_eq_true rfl) ⟨Nat.le_of_ble_eq_true rfl, Nat.le_of_ble_eq_true rfl⟩ dL_strip_2 (fun Ex hpx => absurd hpx (pX_no (cM1_ok hi))) (fun r G hpo => ?_)
  obtain ⟨rfl, hG⟩ := hp _ _ hpo
  refine (show zG E Q (0 + 2) (0 + 12) (G ++ []) [some (.ref h), some (.int (iI i0)), some (.int (iI (mle (μ i0.toNat)))), none, none, none, none, none, none, none] 5 [.int (iI (mgS (μ i0.toNat)))] from ?_)
  refine z_eq (ws' := G) (st' := [.int (iI (mgS (μ i0.toNat)))]) (List.append_nil _) rfl ?_
  refine z_istore_n (i := 3) (lv' := [some (.ref h), some (.int (iI i0)), some (.int (iI (mle (μ i0.toNat)))), some (.int (iI (mgS (μ i0.toNat)))), none, none, none, none, none, none]) C dL_strip_5 rfl rfl rfl ?_
  refine z_aload_n (i := 0) C dL_strip_6 rfl rfl ?_
  refine z_iload_n (i := 1) C dL_strip_7 rfl rfl ?_
  obtain ⟨PH, hM, hp⟩ := c_layers l hl D cL hG i0 ⟨by omega, by omega⟩
  obtain ⟨fs, hG0⟩ := hG.g0
  refine z_callVx (n := 1) (As := [.int (iI i0)]) (st := []) (fr := []) C hE hM gL_strip_X4_layers rfl ⟨rfl, rfl⟩ (by decide +kernel) ⟨Nat.le_of_ble_eq_true rfl, Nat.le_of_ble_eq_true rfl⟩ rfl rfl (by rw [List.append_nil]) 0 hG0 rfl rfl (Nat.le_of_ble_eq_true rfl) ⟨Nat.le_of_ble_eq_true rfl, Nat.le_of_ble_eq_true rfl⟩ dL_strip_8 (fun Ex hpx => absurd hpx (pX_no (cM1_ok hi))) (fun r G hpo => ?_)
  obtain ⟨rfl, hG⟩ := hp _ _ hpo
  refine (show zG E Q (0 + 2 + 2) (0 + 12 + 12) (G ++ []) [some (.ref h), some (.int (iI i0)), some (.int (iI (mle (μ i0.toNat)))), some (.int (iI (mgS (μ i0.toNat)))), none, none, none, none, none, none] 11 [.int (iI (mlay (μ i0.toNat)))] from ?_)
  refine z_eq (ws' := G) (st' := [.int (iI (mlay (μ i0.toNat)))]) (List.append_nil _) rfl ?_
  refine z_istore (lv' := [some (.ref h), some (.int (iI i0)), some (.int (iI (mle (μ i0.toNat)))), some (.int (iI (mgS (μ i0.toNat)))), some (.int (iI (mlay (μ i0.toNat)))), none, none, none, none, none]) C dL_strip_11 rfl rfl ?_
  refine z_iload_n (i := 3) C dL_strip_13 rfl rfl ?_
  refine z_iconst (v := iI 1) C dL_strip_14 rfl ?_
  refine z_icmp_ltI (tgt := 84) C dL_strip_15 (by decide) ⟨by omega, by omega⟩ ⟨by omega, by omega⟩ (fun h => by exfalso; omega) (fun _ => ?_)
  refine z_iload_n (i := 3) C dL_strip_18 rfl rfl ?_
  refine z_iload_n (i := 2) C dL_strip_19 rfl rfl ?_
  refine z_icmp_gtI (tgt := 84) C dL_strip_20 (by decide) ⟨by omega, by omega⟩ ⟨by omega, by omega⟩ (fun h => by exfalso; omega) (fun _ => ?_)
  refine z_iload C dL_strip_23 rfl ?_
  refine z_aload_n (i := 0) C dL_strip_25 rfl rfl ?_
  refine z_iload_n (i := 1) C dL_strip_26 rfl rfl ?_
  obtain ⟨PH, hM, hp⟩ := c_layersByFollowing l hl D cL hG i0 ⟨by omega, by omega⟩
  obtain ⟨fs, hG0⟩ := hG.g0
  refine z_callVx (n := 1) (As := [.int (iI i0)]) (st := [.int (iI (mlay (μ i0.toNat)))]) (fr := []) C hE hM gL_strip_X4_layersByFollowing rfl ⟨rfl, rfl⟩ (by decide +kernel) ⟨Nat.le_of_ble_eq_true rfl, Nat.le_of_ble_eq_true rfl⟩ rfl rfl (by rw [List.append_nil]) 0 hG0 rfl rfl (Nat.le_of_ble_eq_true rfl) ⟨Nat.le_of_ble_eq_true rfl, Nat.le_of_ble_eq_true rfl⟩ dL_strip_27 (fun Ex hpx => absurd hpx (pX_no (cM1_ok hi))) (fun r G hpo => ?_)
  obtain ⟨rfl, hG⟩ := hp _ _ hpo
  refine (show zG E Q (0 + 2 + 2 + 2) (0 + 12 + 12 + 12) (G ++ []) [some (.ref h), some (.int (iI i0)), some (.int (iI (mle (μ i0.toNat)))), some (.int (iI (mgS (μ i0.toNat)))), some (.int (iI (mlay (μ i0.toNat)))), none, none, none, none, none] 30 [.int (iI (mlay (μ i0.toNat))), .int (iI (mlay (μ i0.toNat)))] from ?_)
  refine z_eq (ws' := G) (st' := [.int (iI (mlay (μ i0.toNat))), .int (iI (mlay (μ i0.toNat)))]) (List.append_nil _) rfl ?_
  refine z_icmp_neI (tgt := 84) C dL_strip_30 (by decide) ⟨by omega, by omega⟩ ⟨by omega, by omega⟩ (fun h => by exfalso; omega) (fun _ => ?_)
  refine z_iload C dL_strip_33 rfl ?_
  refine z_iload_n (i := 2) C dL_strip_35 rfl rfl ?_
  refine z_iload_n (i := 3) C dL_strip_36 rfl rfl ?_
  refine z_iaddI (v := (mle (μ i0.toNat)) + (mgS (μ i0.toNat))) C dL_strip_37 (by omega) ?_
  refine z_iconst (v := iI 1) C dL_strip_38 rfl ?_
  refine z_isubI (v := ((mle (μ i0.toNat)) + (mgS (μ i0.toNat))) - 1) C dL_strip_39 (by omega) ?_
  refine z_iload_n (i := 3) C dL_strip_40 rfl rfl ?_
  refine z_idivI C dL_strip_41 (by omega) (by omega) (by omega) (by omega) ?_
  refine z_icmp_ltI (tgt := 84) C dL_strip_42 (by decide) ⟨by omega, by omega⟩ ⟨by omega, by omega⟩ (fun h => by exfalso; omega) (fun _ => ?_)
  refine z_iload C dL_strip_45 rfl ?_
  refine z_iload_n (i := 2) C dL_strip_47 rfl rfl ?_
  refine z_icmp_gtI (tgt := 84) C dL_strip_48 (by decide) ⟨by omega, by omega⟩ ⟨by omega, by omega⟩ (fun h => by exfalso; omega) (fun _ => ?_)
  refine z_aload_n (i := 0) C dL_strip_51 rfl rfl ?_
  refine z_iload_n (i := 1) C dL_strip_52 rfl rfl ?_
  refine z_bipush (v := iI 20) C dL_strip_53 (by decide) ?_
  obtain ⟨PH, hM, hp⟩ := c_bears l hl D cL hG i0 ⟨by omega, by omega⟩ 20 ⟨by omega, by omega⟩
  obtain ⟨fs, hG0⟩ := hG.g0
  refine z_callVx (n := 2) (As := [.int (iI i0), .int (iI 20)]) (st := []) (fr := []) C hE hM gL_strip_X4_bears rfl ⟨rfl, rfl⟩ (by decide +kernel) ⟨Nat.le_of_ble_eq_true rfl, Nat.le_of_ble_eq_true rfl⟩ rfl rfl (by rw [List.append_nil]) 0 hG0 rfl rfl (Nat.le_of_ble_eq_true rfl) ⟨Nat.le_of_ble_eq_true rfl, Nat.le_of_ble_eq_true rfl⟩ dL_strip_55 (fun Ex hpx => absurd hpx (pX_no (cBE_ok hi ⟨by omega, by omega⟩))) (fun r G hpo => ?_)
  obtain ⟨rfl, hG⟩ := hp _ _ hpo
  refine (show zG E Q (0 + 2 + 2 + 2 + 3) (0 + 12 + 12 + 12 + 18) (G ++ []) [some (.ref h), some (.int (iI i0)), some (.int (iI (mle (μ i0.toNat)))), some (.int (iI (mgS (μ i0.toNat)))), some (.int (iI (mlay (μ i0.toNat)))), none, none, none, none, none] 58 [.int (iI (b2 (mlay (μ i0.toNat) ≤ max 1 (40 - 2 * 20))))] from ?_)
  refine z_eq (ws' := G) (st' := [.int (iI (b2 (mlay (μ i0.toNat) ≤ max 1 (40 - 2 * 20))))]) (List.append_nil _) rfl ?_
  refine z_iload C dL_strip_58 rfl ?_
  refine z_iconst (v := iI 1) C dL_strip_60 rfl ?_
  refine z_icmp_neI (tgt := 76) C dL_strip_61 (by decide) ⟨by omega, by omega⟩ ⟨by omega, by omega⟩ (fun hv61 => ?_) (fun hv61 => ?_)
  · refine z_iconst (v := iI 0) C dL_strip_76 rfl ?_
    refine z_icmp_neI (tgt := 84) C dL_strip_77 (by decide) ⟨by omega, by omega⟩ ⟨by omega, by omega⟩ (fun hv77 => ?_) (fun hv77 => ?_)
    · exfalso
      omega
    · refine z_iconst (v := iI 1) C dL_strip_80 rfl ?_
      refine z_goto (tgt := 85) C dL_strip_81 (by decide) ?_
      exact z_widen (k := 20) (n := 120) (Nat.le_of_ble_eq_true rfl) (Nat.le_of_ble_eq_true rfl) (k85 G hG)
  · refine z_aload_n (i := 0) C dL_strip_64 rfl rfl ?_
    refine z_iload_n (i := 1) C dL_strip_65 rfl rfl ?_
    obtain ⟨PH, hM, hp⟩ := c_steps l hl D cL hG i0 ⟨by omega, by omega⟩
    obtain ⟨fs, hG0⟩ := hG.g0
    refine z_callVx (n := 1) (As := [.int (iI i0)]) (st := [.int (iI (b2 (mlay (μ i0.toNat) ≤ max 1 (40 - 2 * 20))))]) (fr := []) C hE hM gL_strip_X4_steps rfl ⟨rfl, rfl⟩ (by decide +kernel) ⟨Nat.le_of_ble_eq_true rfl, Nat.le_of_ble_eq_true rfl⟩ rfl rfl (by rw [List.append_nil]) 0 hG0 rfl rfl (Nat.le_of_ble_eq_true rfl) ⟨Nat.le_of_ble_eq_true rfl, Nat.le_of_ble_eq_true rfl⟩ dL_strip_66 (fun Ex hpx => absurd hpx (pX_no (cM1_ok hi))) (fun r G hpo => ?_)
    obtain ⟨rfl, hG⟩ := hp _ _ hpo
    refine (show zG E Q (0 + 2 + 2 + 2 + 3 + 2) (0 + 12 + 12 + 12 + 18 + 12) (G ++ []) [some (.ref h), some (.int (iI i0)), some (.int (iI (mle (μ i0.toNat)))), some (.int (iI (mgS (μ i0.toNat)))), some (.int (iI (mlay (μ i0.toNat)))), none, none, none, none, none] 69 [.int (iI (msn (μ i0.toNat))), .int (iI (b2 (mlay (μ i0.toNat) ≤ max 1 (40 - 2 * 20))))] from ?_)
    refine z_eq (ws' := G) (st' := [.int (iI (msn (μ i0.toNat))), .int (iI (b2 (mlay (μ i0.toNat) ≤ max 1 (40 - 2 * 20))))]) (List.append_nil _) rfl ?_
    refine z_if_neI (tgt := 76) C dL_strip_69 (by decide) ⟨by omega, by omega⟩ (fun hv69 => ?_) (fun hv69 => ?_)
    · refine z_iconst (v := iI 0) C dL_strip_76 rfl ?_
      refine z_icmp_neI (tgt := 84) C dL_strip_77 (by decide) ⟨by omega, by omega⟩ ⟨by omega, by omega⟩ (fun hv77 => ?_) (fun hv77 => ?_)
      · exfalso
        omega
      · refine z_iconst (v := iI 1) C dL_strip_80 rfl ?_
        refine z_goto (tgt := 85) C dL_strip_81 (by decide) ?_
        exact z_widen (k := 20) (n := 120) (Nat.le_of_ble_eq_true rfl) (Nat.le_of_ble_eq_true rfl) (k85 G hG)
    · refine z_iconst (v := iI 1) C dL_strip_72 rfl ?_
      refine z_goto (tgt := 77) C dL_strip_73 (by decide) ?_
      refine z_icmp_neI (tgt := 84) C dL_strip_77 (by decide) ⟨by omega, by omega⟩ ⟨by omega, by omega⟩ (fun hv77 => ?_) (fun hv77 => ?_)
      · exfalso
        omega
      · refine z_iconst (v := iI 1) C dL_strip_80 rfl ?_
        refine z_goto (tgt := 85) C dL_strip_81 (by decide) ?_
        exact z_widen (k := 20) (n := 120) (Nat.le_of_ble_eq_true rfl) (Nat.le_of_ble_eq_true rfl) (k85 G hG)
