set_option maxRecDepth 100000 in
set_option maxHeartbeats 4000000 in
/-- SilentTableModel.findByValue -/
theorem rf_c224 {d : Nat} {m : Nat → Int32} {w : Int64} {h : pm_H} {Q : Option Value → pm_H → Prop}  (T : rf_T m w h)  (K : ∀ (m' : Nat → Int32) (w' : Int64) (h' : pm_H), rf_T m' w' h' → rf_G [56] h h' → rf_W [] m m' → Q none h') : pm_R (d + 3) 224 0 [.ref 41, pm_no, pm_no, pm_no, pm_no] [] h Q := by
  refine pm_R_op pm_M224 (pc' := 1) (st' := [.int 0]) rfl rfl rfl ?_
  refine pm_R_lo pm_M224 (pc' := 2) (ls' := [.ref 41, .int 0, pm_no, pm_no, pm_no]) (st' := []) rfl rfl rfl ?_
  have L_768274 : ∀ (N : Nat) (h_768274 : pm_H) (m_768274 : Nat → Int32) (w_768274 : Int64) (x1_768274 : Int32), rf_T m_768274 w_768274 h_768274 → rf_G [56] h h_768274 → rf_W [] m m_768274 → sf_B 0 43200 x1_768274 → (43200 - x1_768274.toInt).toNat = N → pm_R (d + 3) 224 2 [.ref 41, .int x1_768274, pm_no, pm_no, pm_no] [] h_768274 Q := by
    intro N
    induction N using Nat.strongRecOn with
    | ind N ih_768274 =>
      intro h_768274 m_768274 w_768274 x1_768274 T_768274 F_768274 W_768274 Bx1_768274 hN_768274
      have W768277 : rf_W [] m m_768274 := (rf_W.refl [] m).trans W_768274 (by decide)
      refine pm_R_lo pm_M224 (pc' := 3) rfl rfl rfl ?_
      refine pm_R_lo pm_M224 (pc' := 4) rfl rfl rfl ?_
      refine rf_R_get pm_M224 T_768274 (pc' := 7) (v := .ref 56) rfl rfl rfl rfl ?_
      obtain ⟨f768278, e768279⟩ := T_768274.2.2.2.1 56 (by decide) (by decide)
      refine pm_R_alen pm_M224 (pc' := 8) (v := 43200) rfl e768279 (by decide) (Nat.lt_of_lt_of_le (by decide) T_768274.1) (by decide) rfl rfl ?_
      refine pm_R_icmp pm_M224 (t := 24) (pc' := 11) rfl rfl rfl (fun c768281 => ?_) (fun c768281 => ?_)
      · have B768282 : sf_B 43200 43200 x1_768274 := sf_leR c768281 sf_k43200 Bx1_768274
        refine pm_R_op pm_M224 (pc' := 25) (st' := [.int 0]) rfl rfl rfl ?_
        refine pm_R_lo pm_M224 (pc' := 26) (ls' := [.ref 41, .int 0, pm_no, pm_no, pm_no]) (st' := []) rfl rfl rfl ?_
        have L_1171084 : ∀ (N : Nat) (h_1171084 : pm_H) (m_1171084 : Nat → Int32) (w_1171084 : Int64) (x1_1171084 : Int32) (g2_1171084 : Value), rf_T m_1171084 w_1171084 h_1171084 → rf_G [56] h h_1171084 → rf_W [] m_768274 m_1171084 → sf_B 0 12 x1_1171084 → g2_1171084.category = 1 → (12 - x1_1171084.toInt).toNat = N → pm_R (d + 3) 224 26 [.ref 41, .int x1_1171084, g2_1171084, pm_no, pm_no] [] h_1171084 Q := by
          intro N
          induction N using Nat.strongRecOn with
          | ind N ih_1171084 =>
            intro h_1171084 m_1171084 w_1171084 x1_1171084 g2_1171084 T_1171084 F_1171084 W_1171084 Bx1_1171084 Cg2_1171084 hN_1171084
            have W1171087 : rf_W [] m m_1171084 := W768277.trans W_1171084 (by decide)
            have W1171088 : rf_W [] m m_1171084 := W_768274.trans W_1171084 (by decide)
            refine pm_R_lo pm_M224 (pc' := 27) rfl rfl rfl ?_
            refine pm_R_lo pm_M224 (pc' := 28) rfl rfl rfl ?_
            have B1171089 : sf_B 0 12 (m_1171084 24) := T_1171084.2.2.1 24
            refine rf_R_get pm_M224 T_1171084 (pc' := 31) (v := .int (m_1171084 24)) rfl rfl rfl rfl ?_
            refine pm_R_icmp pm_M224 (t := 95) (pc' := 34) rfl rfl rfl (fun c1171090 => ?_) (fun c1171090 => ?_)
            · skip
              refine pm_R_op pm_M224 (pc' := 96) (st' := [.int 1]) rfl rfl rfl ?_
              refine pm_R_lo pm_M224 (pc' := 97) (ls' := [.ref 41, .int 1, g2_1171084, pm_no, pm_no]) (st' := []) rfl rfl rfl ?_
              have L_1284800 : ∀ (N : Nat) (h_1284800 : pm_H) (m_1284800 : Nat → Int32) (w_1284800 : Int64) (x1_1284800 : Int32) (g2_1284800 : Value) (g3_1284800 : Value) (g4_1284800 : Value), rf_T m_1284800 w_1284800 h_1284800 → rf_G [56] h h_1284800 → rf_W [] m_1171084 m_1284800 → sf_B 1 12 x1_1284800 → g2_1284800.category = 1 → g3_1284800.category = 1 → g4_1284800.category = 1 → (12 - x1_1284800.toInt).toNat = N → pm_R (d + 3) 224 97 [.ref 41, .int x1_1284800, g2_1284800, g3_1284800, g4_1284800] [] h_1284800 Q := by
                intro N
                induction N using Nat.strongRecOn with
                | ind N ih_1284800 =>
                  intro h_1284800 m_1284800 w_1284800 x1_1284800 g2_1284800 g3_1284800 g4_1284800 T_1284800 F_1284800 W_1284800 Bx1_1284800 Cg2_1284800 Cg3_1284800 Cg4_1284800 hN_1284800
                  have W1284803 : rf_W [] m m_1284800 := W1171087.trans W_1284800 (by decide)
                  have W1284804 : rf_W [] m m_1284800 := W1171088.trans W_1284800 (by decide)
                  have W1284805 : rf_W [] m_768274 m_1284800 := W_1171084.trans W_1284800 (by decide)
                  refine pm_R_lo pm_M224 (pc' := 98) rfl rfl rfl ?_
                  refine pm_R_lo pm_M224 (pc' := 99) rfl rfl rfl ?_
                  have B1284806 : sf_B 0 12 (m_1284800 24) := T_1284800.2.2.1 24
                  refine rf_R_get pm_M224 T_1284800 (pc' := 102) (v := .int (m_1284800 24)) rfl rfl rfl rfl ?_
                  refine pm_R_icmp pm_M224 (t := 173) (pc' := 105) (pm_q224_1 (Nat.le_of_ble_eq_true rfl)) rfl rfl (fun c1284807 => ?_) (fun c1284807 => ?_)
                  · skip
                    exact pm_R_ret pm_M224 (r := none) (pm_q224_1 (Nat.le_of_ble_eq_true rfl)) rfl (K m_1284800 w_1284800 h_1284800 T_1284800 F_1284800 W1284803)
                  · have B1284808 : sf_B 1 11 x1_1284800 := sf_ltL (Int32.not_le.mp c1284807) Bx1_1284800 B1284806
                    have B1284809 : sf_B 2 12 (m_1284800 24) := sf_ltR (Int32.not_le.mp c1284807) Bx1_1284800 B1284806
                    refine pm_R_op pm_M224 (pc' := 106) (st' := [.int 0]) (pm_q224_1 (Nat.le_of_ble_eq_true rfl)) rfl rfl ?_
                    refine pm_R_lo pm_M224 (pc' := 107) (ls' := [.ref 41, .int x1_1284800, .int 0, g3_1284800, g4_1284800]) (st' := []) (pm_q224_1 (Nat.le_of_ble_eq_true rfl)) rfl rfl ?_
                    have L_1294224 : ∀ (N : Nat) (h_1294224 : pm_H) (m_1294224 : Nat → Int32) (w_1294224 : Int64) (x2_1294224 : Int32) (g3_1294224 : Value) (g4_1294224 : Value), rf_T m_1294224 w_1294224 h_1294224 → rf_G [56] h h_1294224 → rf_W [] m_1284800 m_1294224 → sf_B 0 11 x2_1294224 → g3_1294224.category = 1 → g4_1294224.category = 1 → (11 - x2_1294224.toInt).toNat = N → pm_R (d + 3) 224 107 [.ref 41, .int x1_1284800, .int x2_1294224, g3_1294224, g4_1294224] [] h_1294224 Q := by
                      intro N
                      induction N using Nat.strongRecOn with
                      | ind N ih_1294224 =>
                        intro h_1294224 m_1294224 w_1294224 x2_1294224 g3_1294224 g4_1294224 T_1294224 F_1294224 W_1294224 Bx2_1294224 Cg3_1294224 Cg4_1294224 hN_1294224
                        have B1294227 : sf_B 2 12 (m_1294224 24) := by rw [W_1294224 24 (by decide)]; exact B1284809
                        have W1294228 : rf_W [] m m_1294224 := W1284803.trans W_1294224 (by decide)
                        have W1294229 : rf_W [] m m_1294224 := W1284804.trans W_1294224 (by decide)
                        have W1294230 : rf_W [] m_768274 m_1294224 := W1284805.trans W_1294224 (by decide)
                        have W1294231 : rf_W [] m_1171084 m_1294224 := W_1284800.trans W_1294224 (by decide)
                        refine pm_R_lo pm_M224 (pc' := 108) (pm_q224_1 (Nat.le_of_ble_eq_true rfl)) rfl rfl ?_
                        refine pm_R_lo pm_M224 (pc' := 109) (pm_q224_1 (Nat.le_of_ble_eq_true rfl)) rfl rfl ?_
                        refine sf_R_iadd pm_M224 (pc' := 110) (pm_q224_1 (Nat.le_of_ble_eq_true rfl)) rfl Bx2_1294224 B1284808 (by decide) (by decide) (fun z1294232 e1294233 B1294234 => ?_)
                        refine pm_R_lo pm_M224 (pc' := 111) (pm_q224_1 (Nat.le_of_ble_eq_true rfl)) rfl rfl ?_
                        refine rf_R_get pm_M224 T_1294224 (pc' := 114) (v := .int (m_1294224 24)) (pm_q224_1 (Nat.le_of_ble_eq_true rfl)) rfl rfl rfl ?_
                        refine pm_R_icmp pm_M224 (t := 167) (pc' := 117) (pm_q224_1 (Nat.le_of_ble_eq_true rfl)) rfl rfl (fun c1294235 => ?_) (fun c1294235 => ?_)
                        · have B1294236 : sf_B 2 22 z1294232 := sf_leR c1294235 B1294227 B1294234
                          refine sf_R_iinc pm_M224 (pc' := 170) (ls' := fun z => [.ref 41, .int z, .int x2_1294224, g3_1294224, g4_1294224]) (pm_q224_1 (Nat.le_of_ble_eq_true rfl)) B1284808 rfl (by decide) (by decide) (by decide) (fun _ => rfl) rfl (fun z1294237 e1294238 B1294239 => ?_)
                          show pm_R _ 224 170 [.ref 41, .int z1294237, .int x2_1294224, g3_1294224, g4_1294224] [] _ _
                          refine pm_R_br pm_M224 (pc' := 97) (pm_q224_1 (Nat.le_of_ble_eq_true rfl)) rfl ?_
                          exact ih_1284800 _ (sf_up hN_1284800 e1294238 B1284808 (by decide) (by decide)) h_1294224 m_1294224 w_1294224 z1294237 (.int x2_1294224) (g3_1294224) (g4_1294224) T_1294224 F_1294224 W1294231 (sf_weak B1294239 (by decide) (by decide)) rfl Cg3_1294224 Cg4_1294224 rfl
                        · have B1294240 : sf_B 1 11 z1294232 := sf_ltL (Int32.not_le.mp c1294235) B1294234 B1294227
                          have B1294241 : sf_B 0 10 x2_1294224 := sf_addL e1294233 B1294240 B1284808 Bx2_1294224
                          refine pm_R_op pm_M224 (pc' := 118) (st' := [.int 0]) (pm_q224_1 (Nat.le_of_ble_eq_true rfl)) rfl rfl ?_
                          refine pm_R_lo pm_M224 (pc' := 119) (ls' := [.ref 41, .int x1_1284800, .int x2_1294224, .int 0, g4_1294224]) (st' := []) (pm_q224_1 (Nat.le_of_ble_eq_true rfl)) rfl rfl ?_
                          have L_1294762 : ∀ (N : Nat) (h_1294762 : pm_H) (m_1294762 : Nat → Int32) (w_1294762 : Int64) (x3_1294762 : Int32) (g4_1294762 : Value), rf_T m_1294762 w_1294762 h_1294762 → rf_G [56] h h_1294762 → rf_W [] m_1294224 m_1294762 → sf_B 0 10 x3_1294762 → g4_1294762.category = 1 → (10 - x3_1294762.toInt).toNat = N → pm_R (d + 3) 224 119 [.ref 41, .int x1_1284800, .int x2_1294224, .int x3_1294762, g4_1294762] [] h_1294762 Q := by
                            intro N
                            induction N using Nat.strongRecOn with
                            | ind N ih_1294762 =>
                              intro h_1294762 m_1294762 w_1294762 x3_1294762 g4_1294762 T_1294762 F_1294762 W_1294762 Bx3_1294762 Cg4_1294762 hN_1294762
                              have B1294765 : sf_B 2 12 (m_1294762 24) := by rw [W_1294762 24 (by decide)]; exact B1294227
                              have W1294766 : rf_W [] m m_1294762 := W1294228.trans W_1294762 (by decide)
                              have W1294767 : rf_W [] m m_1294762 := W1294229.trans W_1294762 (by decide)
                              have W1294768 : rf_W [] m_768274 m_1294762 := W1294230.trans W_1294762 (by decide)
                              have W1294769 : rf_W [] m_1171084 m_1294762 := W1294231.trans W_1294762 (by decide)
                              have W1294770 : rf_W [] m_1284800 m_1294762 := W_1294224.trans W_1294762 (by decide)
                              refine pm_R_lo pm_M224 (pc' := 120) (pm_q224_1 (Nat.le_of_ble_eq_true rfl)) rfl rfl ?_
                              refine pm_R_lo pm_M224 (pc' := 121) (pm_q224_1 (Nat.le_of_ble_eq_true rfl)) rfl rfl ?_
                              refine pm_R_cv pm_M224 (pc' := 124) (a := 41) (ra := []) (rest := [.int x3_1294762]) (ls' := [.ref 41]) (pm_q224_1 (Nat.le_of_ble_eq_true rfl)) rfl (Or.inl rfl) pm_M209 T_1294762.2.1 rfl (by decide) (Nat.lt_of_lt_of_le (by decide) T_1294762.1) rfl rfl (Nat.le_of_ble_eq_true rfl) rfl rfl ?_
                              refine pm_R_lo pm_M209 (pc' := 1) rfl rfl rfl ?_
                              refine rf_R_get pm_M209 T_1294762 (pc' := 4) (v := .ref 47) rfl rfl rfl rfl ?_
                              refine pm_R_op pm_M209 (pc' := 6) (st' := [.int 100, .ref 47]) rfl rfl rfl ?_
                              refine pm_R_lo pm_M209 (pc' := 7) rfl rfl rfl ?_
                              have B1294771 : sf_B 0 1 (m_1294762 23) := T_1294762.2.2.1 23
                              refine rf_R_get pm_M209 T_1294762 (pc' := 10) (v := .int (m_1294762 23)) rfl rfl rfl rfl ?_
                              refine sf_R_imul pm_M209 (pc' := 11) rfl rfl sf_k100 B1294771 (by decide) (by decide) (by decide) (fun z1294772 e1294773 B1294774 => ?_)
                              obtain ⟨f1294775, e1294776, b1294777⟩ := T_1294762.2.2.2.1 47 (by decide) (by decide)
                              refine rf_R_ild pm_M209 T_1294762 (pc' := 12) rfl e1294776 (by decide) (sf_in B1294774 (by decide) (by decide)) rfl (fun z1294778 ez1294779 => ?_)
                              have e1294780 : (z1294772).toInt = 100 * ((m_1294762 23)).toInt + 0 := (sf_aux2 _ _ e1294773)
                              have B1294781 : sf_B 0 10 z1294778 := ez1294779 ▸ rf_p47a b1294777 e1294780 B1294771 (by decide)
                              refine pm_R_ret pm_M209 (r := some (.int z1294778)) rfl (pm_ret_i _) ?_
                              show pm_R _ 224 124 [.ref 41, .int x1_1284800, .int x2_1294224, .int x3_1294762, g4_1294762] [.int z1294778, .int x3_1294762] _ _
                              refine pm_R_icmp pm_M224 (t := 161) (pc' := 127) (pm_q224_1 (Nat.le_of_ble_eq_true rfl)) rfl rfl (fun c1294782 => ?_) (fun c1294782 => ?_)
                              · skip
                                refine sf_R_iinc pm_M224 (pc' := 164) (ls' := fun z => [.ref 41, .int x1_1284800, .int z, .int x3_1294762, g4_1294762]) (pm_q224_1 (Nat.le_of_ble_eq_true rfl)) B1294241 rfl (by decide) (by decide) (by decide) (fun _ => rfl) rfl (fun z1294783 e1294784 B1294785 => ?_)
                                show pm_R _ 224 164 [.ref 41, .int x1_1284800, .int z1294783, .int x3_1294762, g4_1294762] [] _ _
                                refine pm_R_br pm_M224 (pc' := 107) (pm_q224_1 (Nat.le_of_ble_eq_true rfl)) rfl ?_
                                exact ih_1294224 _ (sf_up hN_1294224 e1294784 B1294241 (by decide) (by decide)) h_1294762 m_1294762 w_1294762 z1294783 (.int x3_1294762) (g4_1294762) T_1294762 F_1294762 W1294770 (sf_weak B1294785 (by decide) (by decide)) rfl Cg4_1294762 rfl
                              · have B1294786 : sf_B 0 9 x3_1294762 := sf_ltL (Int32.not_le.mp c1294782) Bx3_1294762 B1294781
                                have B1294787 : sf_B 1 10 z1294778 := sf_ltR (Int32.not_le.mp c1294782) Bx3_1294762 B1294781
                                refine pm_R_lo pm_M224 (pc' := 128) (pm_q224_1 (Nat.le_of_ble_eq_true rfl)) rfl rfl ?_
                                refine pm_R_lo pm_M224 (pc' := 130) (ls' := [.ref 41, .int x1_1284800, .int x2_1294224, .int x3_1294762, .int x2_1294224]) (st' := []) (pm_q224_1 (Nat.le_of_ble_eq_true rfl)) rfl rfl ?_
                                have L_1294874 : ∀ (N : Nat) (h_1294874 : pm_H) (m_1294874 : Nat → Int32) (w_1294874 : Int64) (x4_1294874 : Int32), rf_T m_1294874 w_1294874 h_1294874 → rf_G [56] h h_1294874 → rf_W [] m_1294762 m_1294874 → sf_B 0 11 x4_1294874 → (11 - x4_1294874.toInt).toNat = N → pm_R (d + 3) 224 130 [.ref 41, .int x1_1284800, .int x2_1294224, .int x3_1294762, .int x4_1294874] [] h_1294874 Q := by
                                  intro N
                                  induction N using Nat.strongRecOn with
                                  | ind N ih_1294874 =>
                                    intro h_1294874 m_1294874 w_1294874 x4_1294874 T_1294874 F_1294874 W_1294874 Bx4_1294874 hN_1294874
                                    have B1294877 : sf_B 2 12 (m_1294874 24) := by rw [W_1294874 24 (by decide)]; exact B1294765
                                    have W1294878 : rf_W [] m m_1294874 := W1294766.trans W_1294874 (by decide)
                                    have W1294879 : rf_W [] m m_1294874 := W1294767.trans W_1294874 (by decide)
                                    have W1294880 : rf_W [] m_768274 m_1294874 := W1294768.trans W_1294874 (by decide)
                                    have W1294881 : rf_W [] m_1171084 m_1294874 := W1294769.trans W_1294874 (by decide)
                                    have W1294882 : rf_W [] m_1284800 m_1294874 := W1294770.trans W_1294874 (by decide)
                                    have W1294883 : rf_W [] m_1294224 m_1294874 := W_1294762.trans W_1294874 (by decide)
                                    refine pm_R_lo pm_M224 (pc' := 132) (pm_q224_1 (Nat.le_of_ble_eq_true rfl)) rfl rfl ?_
                                    refine pm_R_lo pm_M224 (pc' := 133) (pm_q224_1 (Nat.le_of_ble_eq_true rfl)) rfl rfl ?_
                                    refine pm_R_lo pm_M224 (pc' := 134) (pm_q224_1 (Nat.le_of_ble_eq_true rfl)) rfl rfl ?_
                                    refine sf_R_iaddV pm_M224 (pc' := 135) (pm_q224_1 (Nat.le_of_ble_eq_true rfl)) rfl Bx2_1294224 B1284808 (by decide) (by decide) e1294233 ?_
                                    refine pm_R_icmp pm_M224 (t := 155) (pc' := 138) (pm_q224_1 (Nat.le_of_ble_eq_true rfl)) rfl rfl (fun c1294884 => ?_) (fun c1294884 => ?_)
                                    · have B1294885 : sf_B 1 11 x4_1294874 := sf_leR c1294884 B1294240 Bx4_1294874
                                      refine sf_R_iinc pm_M224 (pc' := 158) (ls' := fun z => [.ref 41, .int x1_1284800, .int x2_1294224, .int z, .int x4_1294874]) (pm_q224_1 (Nat.le_of_ble_eq_true rfl)) B1294786 rfl (by decide) (by decide) (by decide) (fun _ => rfl) rfl (fun z1294886 e1294887 B1294888 => ?_)
                                      show pm_R _ 224 158 [.ref 41, .int x1_1284800, .int x2_1294224, .int z1294886, .int x4_1294874] [] _ _
                                      refine pm_R_br pm_M224 (pc' := 119) (pm_q224_1 (Nat.le_of_ble_eq_true rfl)) rfl ?_
                                      exact ih_1294762 _ (sf_up hN_1294762 e1294887 B1294786 (by decide) (by decide)) h_1294874 m_1294874 w_1294874 z1294886 (.int x4_1294874) T_1294874 F_1294874 W1294883 (sf_weak B1294888 (by decide) (by decide)) rfl rfl
                                    · have B1294889 : sf_B 0 10 x4_1294874 := sf_ltL (Int32.not_le.mp c1294884) Bx4_1294874 B1294240
                                      refine pm_R_lo pm_M224 (pc' := 139) (pm_q224_1 (Nat.le_of_ble_eq_true rfl)) rfl rfl ?_
                                      refine pm_R_lo pm_M224 (pc' := 140) (pm_q224_1 (Nat.le_of_ble_eq_true rfl)) rfl rfl ?_
                                      refine pm_R_lo pm_M224 (pc' := 141) (pm_q224_1 (Nat.le_of_ble_eq_true rfl)) rfl rfl ?_
                                      refine pm_R_lo pm_M224 (pc' := 143) (pm_q224_1 (Nat.le_of_ble_eq_true rfl)) rfl rfl ?_
                                      refine pm_R_lo pm_M224 (pc' := 144) (pm_q224_1 (Nat.le_of_ble_eq_true rfl)) rfl rfl ?_
                                      refine pm_R_lo pm_M224 (pc' := 145) (pm_q224_1 (Nat.le_of_ble_eq_true rfl)) rfl rfl ?_
                                      refine sf_R_iaddV pm_M224 (pc' := 146) (pm_q224_1 (Nat.le_of_ble_eq_true rfl)) rfl Bx2_1294224 B1284808 (by decide) (by decide) e1294233 ?_
                                      refine pm_R_cv pm_M224 (pc' := 149) (a := 41) (ra := [.int z1294232, .int x4_1294874, .int x2_1294224, .int x3_1294762]) (rest := []) (ls' := [.ref 41, .int x3_1294762, .int x2_1294224, .int x4_1294874, .int z1294232, pm_no, pm_no, pm_no, pm_no, pm_no, pm_no, pm_no]) (pm_q224_1 (Nat.le_of_ble_eq_true rfl)) rfl (Or.inl rfl) pm_M226 T_1294874.2.1 rfl (by decide) (Nat.lt_of_lt_of_le (by decide) T_1294874.1) rfl rfl (Nat.le_of_ble_eq_true rfl) rfl rfl ?_
                                      refine rf_c226 (d := d + 0) T_1294874 B1294786 (sf_weak B1294241 (by decide) (by decide)) B1294889 (sf_weak B1294240 (by decide) (by decide)) (fun m1294892 w1294893 h1294894 T1294895 F1294896 W1294897 => ?_)
                                      have F1294898 := F_1294874.trans F1294896 (by decide)
                                      have B1294899 : sf_B 2 12 (m1294892 24) := by rw [W1294897 24 (by decide)]; exact B1294877
                                      have W1294900 : rf_W [] m m1294892 := W1294878.trans W1294897 (by decide)
                                      have W1294901 : rf_W [] m m1294892 := W1294879.trans W1294897 (by decide)
                                      have W1294902 : rf_W [] m_768274 m1294892 := W1294880.trans W1294897 (by decide)
                                      have W1294903 : rf_W [] m_1171084 m1294892 := W1294881.trans W1294897 (by decide)
                                      have W1294904 : rf_W [] m_1284800 m1294892 := W1294882.trans W1294897 (by decide)
                                      have W1294905 : rf_W [] m_1294224 m1294892 := W1294883.trans W1294897 (by decide)
                                      have W1294906 : rf_W [] m_1294762 m1294892 := W_1294874.trans W1294897 (by decide)
                                      show pm_R _ 224 149 [.ref 41, .int x1_1284800, .int x2_1294224, .int x3_1294762, .int x4_1294874] [] _ _
                                      refine sf_R_iinc pm_M224 (pc' := 152) (ls' := fun z => [.ref 41, .int x1_1284800, .int x2_1294224, .int x3_1294762, .int z]) (pm_q224_1 (Nat.le_of_ble_eq_true rfl)) B1294889 rfl (by decide) (by decide) (by decide) (fun _ => rfl) rfl (fun z1294907 e1294908 B1294909 => ?_)
                                      show pm_R _ 224 152 [.ref 41, .int x1_1284800, .int x2_1294224, .int x3_1294762, .int z1294907] [] _ _
                                      refine pm_R_br pm_M224 (pc' := 130) (pm_q224_1 (Nat.le_of_ble_eq_true rfl)) rfl ?_
                                      exact ih_1294874 _ (sf_up hN_1294874 e1294908 B1294889 (by decide) (by decide)) h1294894 m1294892 w1294893 z1294907 T1294895 F1294898 W1294906 (sf_weak B1294909 (by decide) (by decide)) rfl
                                exact L_1294874 _ h_1294762 m_1294762 w_1294762 x2_1294224 T_1294762 F_1294762 (rf_W.refl _ _) (sf_weak B1294241 (by decide) (by decide)) rfl
                          exact L_1294762 _ h_1294224 m_1294224 w_1294224 0 (g4_1294224) T_1294224 F_1294224 (rf_W.refl _ _) (sf_weak sf_k0 (by decide) (by decide)) Cg4_1294224 rfl
                    exact L_1294224 _ h_1284800 m_1284800 w_1284800 0 (g3_1284800) (g4_1284800) T_1284800 F_1284800 (rf_W.refl _ _) (sf_weak sf_k0 (by decide) (by decide)) Cg3_1284800 Cg4_1284800 rfl
              exact L_1284800 _ h_1171084 m_1171084 w_1171084 1 (g2_1171084) (pm_no) (pm_no) T_1171084 F_1171084 (rf_W.refl _ _) (sf_weak sf_k1 (by decide) (by decide)) Cg2_1171084 rfl rfl rfl
            · have B1294910 : sf_B 0 11 x1_1171084 := sf_ltL (Int32.not_le.mp c1171090) Bx1_1171084 B1171089
              have B1294911 : sf_B 1 12 (m_1171084 24) := sf_ltR (Int32.not_le.mp c1171090) Bx1_1171084 B1171089
              refine pm_R_op pm_M224 (pc' := 35) (st' := [.int 0]) rfl rfl rfl ?_
              refine pm_R_lo pm_M224 (pc' := 36) (ls' := [.ref 41, .int x1_1171084, .int 0, pm_no, pm_no]) (st' := []) rfl rfl rfl ?_
              have L_1295696 : ∀ (N : Nat) (h_1295696 : pm_H) (m_1295696 : Nat → Int32) (w_1295696 : Int64) (x2_1295696 : Int32), rf_T m_1295696 w_1295696 h_1295696 → rf_G [56] h h_1295696 → rf_W [] m_1171084 m_1295696 → sf_B 0 16 x2_1295696 → (16 - x2_1295696.toInt).toNat = N → pm_R (d + 3) 224 36 [.ref 41, .int x1_1171084, .int x2_1295696, pm_no, pm_no] [] h_1295696 Q := by
                intro N
                induction N using Nat.strongRecOn with
                | ind N ih_1295696 =>
                  intro h_1295696 m_1295696 w_1295696 x2_1295696 T_1295696 F_1295696 W_1295696 Bx2_1295696 hN_1295696
                  have B1295699 : sf_B 1 12 (m_1295696 24) := by rw [W_1295696 24 (by decide)]; exact B1294911
                  have W1295700 : rf_W [] m m_1295696 := W1171087.trans W_1295696 (by decide)
                  have W1295701 : rf_W [] m m_1295696 := W1171088.trans W_1295696 (by decide)
                  have W1295702 : rf_W [] m_768274 m_1295696 := W_1171084.trans W_1295696 (by decide)
                  refine pm_R_lo pm_M224 (pc' := 37) rfl rfl rfl ?_
                  refine pm_R_lo pm_M224 (pc' := 38) rfl rfl rfl ?_
                  refine pm_R_cv pm_M224 (pc' := 41) (a := 41) (ra := []) (rest := [.int x2_1295696]) (ls' := [.ref 41]) rfl rfl (Or.inl rfl) pm_M203 T_1295696.2.1 rfl (by decide) (Nat.lt_of_lt_of_le (by decide) T_1295696.1) rfl rfl (Nat.le_of_ble_eq_true rfl) rfl rfl ?_
                  refine pm_R_lo pm_M203 (pc' := 1) rfl rfl rfl ?_
                  refine rf_R_get pm_M203 T_1295696 (pc' := 4) (v := .ref 47) rfl rfl rfl rfl ?_
                  refine pm_R_op pm_M203 (pc' := 6) (st' := [.int 100, .ref 47]) rfl rfl rfl ?_
                  refine pm_R_lo pm_M203 (pc' := 7) rfl rfl rfl ?_
                  have B1295703 : sf_B 0 1 (m_1295696 23) := T_1295696.2.2.1 23
                  refine rf_R_get pm_M203 T_1295696 (pc' := 10) (v := .int (m_1295696 23)) rfl rfl rfl rfl ?_
                  refine sf_R_imul pm_M203 (pc' := 11) rfl rfl sf_k100 B1295703 (by decide) (by decide) (by decide) (fun z1295704 e1295705 B1295706 => ?_)
                  refine pm_R_op pm_M203 (pc' := 12) (st' := [.int 1, .int z1295704, .ref 47]) rfl rfl rfl ?_
                  refine sf_R_iadd pm_M203 (pc' := 13) rfl rfl B1295706 sf_k1 (by decide) (by decide) (fun z1295707 e1295708 B1295709 => ?_)
                  obtain ⟨f1295710, e1295711, b1295712⟩ := T_1295696.2.2.2.1 47 (by decide) (by decide)
                  refine rf_R_ild pm_M203 T_1295696 (pc' := 14) rfl e1295711 (by decide) (sf_in B1295709 (by decide) (by decide)) rfl (fun z1295713 ez1295714 => ?_)
                  have e1295715 : (z1295707).toInt = 100 * ((m_1295696 23)).toInt + 1 := (sf_aux7 _ _ _ e1295705 e1295708)
                  have B1295716 : sf_B 0 16 z1295713 := ez1295714 ▸ rf_p47b b1295712 e1295715 B1295703 (by decide)
                  refine pm_R_ret pm_M203 (r := some (.int z1295713)) rfl (pm_ret_i _) ?_
                  show pm_R _ 224 41 [.ref 41, .int x1_1171084, .int x2_1295696, pm_no, pm_no] [.int z1295713, .int x2_1295696] _ _
                  refine pm_R_icmp pm_M224 (t := 89) (pc' := 44) rfl rfl rfl (fun c1295717 => ?_) (fun c1295717 => ?_)
                  · skip
                    refine sf_R_iinc pm_M224 (pc' := 92) (ls' := fun z => [.ref 41, .int z, .int x2_1295696, pm_no, pm_no]) rfl B1294910 rfl (by decide) (by decide) (by decide) (fun _ => rfl) rfl (fun z1295718 e1295719 B1295720 => ?_)
                    show pm_R _ 224 92 [.ref 41, .int z1295718, .int x2_1295696, pm_no, pm_no] [] _ _
                    refine pm_R_br pm_M224 (pc' := 26) rfl rfl ?_
                    exact ih_1171084 _ (sf_up hN_1171084 e1295719 B1294910 (by decide) (by decide)) h_1295696 m_1295696 w_1295696 z1295718 (.int x2_1295696) T_1295696 F_1295696 W1295702 (sf_weak B1295720 (by decide) (by decide)) rfl rfl
                  · have B1295721 : sf_B 0 15 x2_1295696 := sf_ltL (Int32.not_le.mp c1295717) Bx2_1295696 B1295716
                    have B1295722 : sf_B 1 16 z1295713 := sf_ltR (Int32.not_le.mp c1295717) Bx2_1295696 B1295716
                    refine pm_R_lo pm_M224 (pc' := 45) rfl rfl rfl ?_
                    refine rf_R_get pm_M224 T_1295696 (pc' := 48) (v := .ref 56) rfl rfl rfl rfl ?_
                    refine pm_R_lo pm_M224 (pc' := 49) rfl rfl rfl ?_
                    refine pm_R_lo pm_M224 (pc' := 50) rfl rfl rfl ?_
                    refine pm_R_op pm_M224 (pc' := 51) (st' := [.int 1, .int x2_1295696, .ref 41, .ref 56]) rfl rfl rfl ?_
                    refine pm_R_cv pm_M224 (pc' := 54) (a := 41) (ra := [.int 1, .int x2_1295696]) (rest := [.ref 56]) (ls' := [.ref 41, .int x2_1295696, .int 1]) rfl rfl (Or.inl rfl) pm_M205 T_1295696.2.1 rfl (by decide) (Nat.lt_of_lt_of_le (by decide) T_1295696.1) rfl rfl (Nat.le_of_ble_eq_true rfl) rfl rfl ?_
                    refine pm_R_lo pm_M205 (pc' := 1) rfl rfl rfl ?_
                    refine rf_R_get pm_M205 T_1295696 (pc' := 4) (v := .ref 47) rfl rfl rfl rfl ?_
                    refine pm_R_op pm_M205 (pc' := 6) (st' := [.int 100, .ref 47]) rfl rfl rfl ?_
                    refine pm_R_lo pm_M205 (pc' := 7) rfl rfl rfl ?_
                    refine rf_R_get pm_M205 T_1295696 (pc' := 10) (v := .int (m_1295696 23)) rfl rfl rfl rfl ?_
                    refine sf_R_imulV pm_M205 (pc' := 11) rfl rfl sf_k100 B1295703 (by decide) (by decide) (by decide) e1295705 ?_
                    refine pm_R_op pm_M205 (pc' := 13) (st' := [.int 42, .int z1295704, .ref 47]) rfl rfl rfl ?_
                    refine sf_R_iadd pm_M205 (pc' := 14) rfl rfl B1295706 sf_k42 (by decide) (by decide) (fun z1295723 e1295724 B1295725 => ?_)
                    refine pm_R_op pm_M205 (pc' := 15) (st' := [.int 3, .int z1295723, .ref 47]) rfl rfl rfl ?_
                    refine pm_R_lo pm_M205 (pc' := 16) rfl rfl rfl ?_
                    refine sf_R_imul pm_M205 (pc' := 17) rfl rfl sf_k3 B1295721 (by decide) (by decide) (by decide) (fun z1295726 e1295727 B1295728 => ?_)
                    refine sf_R_iadd pm_M205 (pc' := 18) rfl rfl B1295725 B1295728 (by decide) (by decide) (fun z1295729 e1295730 B1295731 => ?_)
                    refine pm_R_lo pm_M205 (pc' := 19) rfl rfl rfl ?_
                    refine sf_R_iadd pm_M205 (pc' := 20) rfl rfl B1295731 sf_k1 (by decide) (by decide) (fun z1295732 e1295733 B1295734 => ?_)
                    refine rf_R_ild pm_M205 T_1295696 (pc' := 21) rfl e1295711 (by decide) (sf_in B1295734 (by decide) (by decide)) rfl (fun z1295735 ez1295736 => ?_)
                    have e1295737 : (z1295732).toInt = 100 * ((m_1295696 23)).toInt + 3 * (x2_1295696).toInt + 43 := (sf_aux9 _ _ _ _ _ _ _ e1295705 e1295724 e1295727 e1295730 e1295733)
                    have B1295738 : sf_B 0 5 z1295735 := ez1295736 ▸ rf_p47k b1295712 e1295737 B1295703 B1295721 (by decide) (by decide) (by decide)
                    refine pm_R_ret pm_M205 (r := some (.int z1295735)) rfl (pm_ret_i _) ?_
                    show pm_R _ 224 54 [.ref 41, .int x1_1171084, .int x2_1295696, pm_no, pm_no] [.int z1295735, .ref 56] _ _
                    refine pm_R_lo pm_M224 (pc' := 55) rfl rfl rfl ?_
                    refine pm_R_lo pm_M224 (pc' := 56) rfl rfl rfl ?_
                    refine pm_R_lo pm_M224 (pc' := 57) rfl rfl rfl ?_
                    refine pm_R_lo pm_M224 (pc' := 58) rfl rfl rfl ?_
                    refine pm_R_op pm_M224 (pc' := 59) (st' := [.int 2, .int x2_1295696, .ref 41, .int x1_1171084, .int x1_1171084, .int z1295735, .ref 56]) rfl rfl rfl ?_
                    refine pm_R_cv pm_M224 (pc' := 62) (a := 41) (ra := [.int 2, .int x2_1295696]) (rest := [.int x1_1171084, .int x1_1171084, .int z1295735, .ref 56]) (ls' := [.ref 41, .int x2_1295696, .int 2]) rfl rfl (Or.inl rfl) pm_M205 T_1295696.2.1 rfl (by decide) (Nat.lt_of_lt_of_le (by decide) T_1295696.1) rfl rfl (Nat.le_of_ble_eq_true rfl) rfl rfl ?_
                    refine pm_R_lo pm_M205 (pc' := 1) rfl rfl rfl ?_
                    refine rf_R_get pm_M205 T_1295696 (pc' := 4) (v := .ref 47) rfl rfl rfl rfl ?_
                    refine pm_R_op pm_M205 (pc' := 6) (st' := [.int 100, .ref 47]) rfl rfl rfl ?_
                    refine pm_R_lo pm_M205 (pc' := 7) rfl rfl rfl ?_
                    refine rf_R_get pm_M205 T_1295696 (pc' := 10) (v := .int (m_1295696 23)) rfl rfl rfl rfl ?_
                    refine sf_R_imulV pm_M205 (pc' := 11) rfl rfl sf_k100 B1295703 (by decide) (by decide) (by decide) e1295705 ?_
                    refine pm_R_op pm_M205 (pc' := 13) (st' := [.int 42, .int z1295704, .ref 47]) rfl rfl rfl ?_
                    refine sf_R_iaddV pm_M205 (pc' := 14) rfl rfl B1295706 sf_k42 (by decide) (by decide) e1295724 ?_
                    refine pm_R_op pm_M205 (pc' := 15) (st' := [.int 3, .int z1295723, .ref 47]) rfl rfl rfl ?_
                    refine pm_R_lo pm_M205 (pc' := 16) rfl rfl rfl ?_
                    refine sf_R_imulV pm_M205 (pc' := 17) rfl rfl sf_k3 B1295721 (by decide) (by decide) (by decide) e1295727 ?_
                    refine sf_R_iaddV pm_M205 (pc' := 18) rfl rfl B1295725 B1295728 (by decide) (by decide) e1295730 ?_
                    refine pm_R_lo pm_M205 (pc' := 19) rfl rfl rfl ?_
                    refine sf_R_iadd pm_M205 (pc' := 20) rfl rfl B1295731 sf_k2 (by decide) (by decide) (fun z1295739 e1295740 B1295741 => ?_)
                    refine rf_R_ild pm_M205 T_1295696 (pc' := 21) rfl e1295711 (by decide) (sf_in B1295741 (by decide) (by decide)) rfl (fun z1295742 ez1295743 => ?_)
                    have e1295744 : (z1295739).toInt = 100 * ((m_1295696 23)).toInt + 3 * (x2_1295696).toInt + 44 := (sf_aux10 _ _ _ _ _ _ _ e1295705 e1295724 e1295727 e1295730 e1295740)
                    have B1295745 : sf_B 0 49 z1295742 := ez1295743 ▸ rf_p47v b1295712 e1295744 B1295703 B1295721 (by decide) (by decide) (by decide)
                    refine pm_R_ret pm_M205 (r := some (.int z1295742)) rfl (pm_ret_i _) ?_
                    show pm_R _ 224 62 [.ref 41, .int x1_1171084, .int x2_1295696, pm_no, pm_no] [.int z1295742, .int x1_1171084, .int x1_1171084, .int z1295735, .ref 56] _ _
                    refine pm_R_cs pm_M224 (pc' := 65) (ra := [.int z1295742, .int x1_1171084, .int x1_1171084, .int z1295735]) (rest := [.ref 56]) (ls' := [.int z1295735, .int x1_1171084, .int x1_1171084, .int z1295742]) rfl rfl (Or.inl rfl) pm_M225 rfl rfl (Nat.le_of_ble_eq_true rfl) rfl rfl ?_
                    refine pm_R_op pm_M225 (pc' := 2) (st' := [.int 50]) rfl rfl rfl ?_
                    refine pm_R_lo pm_M225 (pc' := 3) rfl rfl rfl ?_
                    refine pm_R_lo pm_M225 (pc' := 4) rfl rfl rfl ?_
                    refine pm_R_lo pm_M225 (pc' := 5) rfl rfl rfl ?_
                    refine pm_R_cs pm_M225 (pc' := 8) (ra := [.int x1_1171084, .int x1_1171084, .int z1295735]) (rest := [.int 50]) (ls' := [.int z1295735, .int x1_1171084, .int x1_1171084]) rfl rfl (Or.inl rfl) pm_M207 rfl rfl (Nat.le_of_ble_eq_true rfl) rfl rfl ?_
                    refine pm_R_op pm_M207 (pc' := 3) (st' := [.int 144]) rfl rfl rfl ?_
                    refine pm_R_lo pm_M207 (pc' := 4) rfl rfl rfl ?_
                    refine sf_R_imul pm_M207 (pc' := 5) rfl rfl sf_k144 B1295738 (by decide) (by decide) (by decide) (fun z1295746 e1295747 B1295748 => ?_)
                    refine pm_R_op pm_M207 (pc' := 7) (st' := [.int 12, .int z1295746]) rfl rfl rfl ?_
                    refine pm_R_lo pm_M207 (pc' := 8) rfl rfl rfl ?_
                    refine sf_R_imul pm_M207 (pc' := 9) rfl rfl sf_k12 B1294910 (by decide) (by decide) (by decide) (fun z1295749 e1295750 B1295751 => ?_)
                    refine sf_R_iadd pm_M207 (pc' := 10) rfl rfl B1295748 B1295751 (by decide) (by decide) (fun z1295752 e1295753 B1295754 => ?_)
                    refine pm_R_lo pm_M207 (pc' := 11) rfl rfl rfl ?_
                    refine sf_R_iadd pm_M207 (pc' := 12) rfl rfl B1295754 B1294910 (by decide) (by decide) (fun z1295755 e1295756 B1295757 => ?_)
                    refine pm_R_ret pm_M207 (r := some (.int z1295755)) rfl (pm_ret_i _) ?_
                    show pm_R _ 225 8 [.int z1295735, .int x1_1171084, .int x1_1171084, .int z1295742] [.int z1295755, .int 50] _ _
                    refine sf_R_imul pm_M225 (pc' := 9) rfl rfl sf_k50 B1295757 (by decide) (by decide) (by decide) (fun z1295758 e1295759 B1295760 => ?_)
                    refine pm_R_lo pm_M225 (pc' := 10) rfl rfl rfl ?_
                    refine sf_R_iadd pm_M225 (pc' := 11) rfl rfl B1295760 B1295745 (by decide) (by decide) (fun z1295761 e1295762 B1295763 => ?_)
                    refine pm_R_ret pm_M225 (r := some (.int z1295761)) rfl (pm_ret_i _) ?_
                    show pm_R _ 224 65 [.ref 41, .int x1_1171084, .int x2_1295696, pm_no, pm_no] [.int z1295761, .ref 56] _ _
                    refine pm_R_op pm_M224 (pc' := 66) (st' := [.int z1295761, .ref 56, .int z1295761, .ref 56]) rfl rfl rfl ?_
                    obtain ⟨f1295764, e1295765⟩ := T_1295696.2.2.2.1 56 (by decide) (by decide)
                    refine rf_R_lld pm_M224 T_1295696 (pc' := 67) rfl e1295765 (by decide) (by decide) (sf_in B1295763 (by decide) (by decide)) rfl (fun z1295767 ez1295768 => ?_)
                    refine pm_R_lo pm_M224 (pc' := 68) rfl rfl rfl ?_
                    refine pm_R_lo pm_M224 (pc' := 69) rfl rfl rfl ?_
                    refine pm_R_lo pm_M224 (pc' := 70) rfl rfl rfl ?_
                    refine pm_R_cv pm_M224 (pc' := 73) (a := 41) (ra := [.int x1_1171084, .int x2_1295696]) (rest := [.long z1295767, .int z1295761, .ref 56]) (ls' := [.ref 41, .int x2_1295696, .int x1_1171084]) rfl rfl (Or.inl rfl) pm_M204 T_1295696.2.1 rfl (by decide) (Nat.lt_of_lt_of_le (by decide) T_1295696.1) rfl rfl (Nat.le_of_ble_eq_true rfl) rfl rfl ?_
                    refine pm_R_lo pm_M204 (pc' := 1) rfl rfl rfl ?_
                    refine rf_R_get pm_M204 T_1295696 (pc' := 4) (v := .ref 53) rfl rfl rfl rfl ?_
                    refine pm_R_lo pm_M204 (pc' := 5) rfl rfl rfl ?_
                    obtain ⟨f1295769, e1295770⟩ := T_1295696.2.2.2.1 53 (by decide) (by decide)
                    refine rf_R_ild pm_M204 T_1295696 (pc' := 6) rfl e1295770 (by decide) (sf_in B1294910 (by decide) (by decide)) rfl (fun z1295772 ez1295773 => ?_)
                    refine sf_R_lany pm_M204 (pc' := 7) (st := []) rfl rfl rfl (fun z1295774 => ?_)
                    refine pm_R_lo pm_M204 (pc' := 8) rfl rfl rfl ?_
                    refine pm_R_lo pm_M204 (pc' := 9) rfl rfl rfl ?_
                    refine pm_R_op pm_M204 (pc' := 10) (st' := [.int 0, .int x2_1295696, .ref 41, .long z1295774]) rfl rfl rfl ?_
                    refine pm_R_cv pm_M204 (pc' := 13) (a := 41) (ra := [.int 0, .int x2_1295696]) (rest := [.long z1295774]) (ls' := [.ref 41, .int x2_1295696, .int 0]) rfl rfl (Or.inl rfl) pm_M205 T_1295696.2.1 rfl (by decide) (Nat.lt_of_lt_of_le (by decide) T_1295696.1) rfl rfl (Nat.le_of_ble_eq_true rfl) rfl rfl ?_
                    refine pm_R_lo pm_M205 (pc' := 1) rfl rfl rfl ?_
                    refine rf_R_get pm_M205 T_1295696 (pc' := 4) (v := .ref 47) rfl rfl rfl rfl ?_
                    refine pm_R_op pm_M205 (pc' := 6) (st' := [.int 100, .ref 47]) rfl rfl rfl ?_
                    refine pm_R_lo pm_M205 (pc' := 7) rfl rfl rfl ?_
                    refine rf_R_get pm_M205 T_1295696 (pc' := 10) (v := .int (m_1295696 23)) rfl rfl rfl rfl ?_
                    refine sf_R_imulV pm_M205 (pc' := 11) rfl rfl sf_k100 B1295703 (by decide) (by decide) (by decide) e1295705 ?_
                    refine pm_R_op pm_M205 (pc' := 13) (st' := [.int 42, .int z1295704, .ref 47]) rfl rfl rfl ?_
                    refine sf_R_iaddV pm_M205 (pc' := 14) rfl rfl B1295706 sf_k42 (by decide) (by decide) e1295724 ?_
                    refine pm_R_op pm_M205 (pc' := 15) (st' := [.int 3, .int z1295723, .ref 47]) rfl rfl rfl ?_
                    refine pm_R_lo pm_M205 (pc' := 16) rfl rfl rfl ?_
                    refine sf_R_imulV pm_M205 (pc' := 17) rfl rfl sf_k3 B1295721 (by decide) (by decide) (by decide) e1295727 ?_
                    refine sf_R_iaddV pm_M205 (pc' := 18) rfl rfl B1295725 B1295728 (by decide) (by decide) e1295730 ?_
                    refine pm_R_lo pm_M205 (pc' := 19) rfl rfl rfl ?_
                    refine sf_R_iadd pm_M205 (pc' := 20) rfl rfl B1295731 sf_k0 (by decide) (by decide) (fun z1295775 e1295776 B1295777 => ?_)
                    refine rf_R_ild pm_M205 T_1295696 (pc' := 21) rfl e1295711 (by decide) (sf_in B1295777 (by decide) (by decide)) rfl (fun z1295778 ez1295779 => ?_)
                    have e1295780 : (z1295775).toInt = 100 * ((m_1295696 23)).toInt + 3 * (x2_1295696).toInt + 42 := (sf_aux8 _ _ _ _ _ _ _ e1295705 e1295724 e1295727 e1295730 e1295776)
                    have B1295781 : sf_B 0 9 z1295778 := ez1295779 ▸ rf_p47s b1295712 e1295780 B1295703 B1295721 (by decide) (by decide) (by decide)
                    refine pm_R_ret pm_M205 (r := some (.int z1295778)) rfl (pm_ret_i _) ?_
                    show pm_R _ 204 13 [.ref 41, .int x2_1295696, .int x1_1171084] [.int z1295778, .long z1295774] _ _
                    refine pm_R_cs pm_M204 (pc' := 16) (ra := [.int z1295778, .long z1295774]) (rest := []) (ls' := [.long z1295774, pm_no, .int z1295778]) rfl rfl (Or.inl rfl) pm_M206 rfl rfl (Nat.le_of_ble_eq_true rfl) rfl rfl ?_
                    refine pm_R_lo pm_M206 (pc' := 1) rfl rfl rfl ?_
                    refine pm_R_lo pm_M206 (pc' := 2) rfl rfl rfl ?_
                    refine sf_R_lany pm_M206 (pc' := 3) (st := []) rfl rfl rfl (fun z1295782 => ?_)
                    refine pm_R_op pm_M206 (pc' := 4) (st' := [.long 1, .long z1295782]) rfl rfl rfl ?_
                    refine sf_R_lany pm_M206 (pc' := 5) (st := []) rfl rfl rfl (fun z1295783 => ?_)
                    refine pm_R_op pm_M206 (pc' := 6) (st' := [.long 1, .long z1295783]) rfl rfl rfl ?_
                    refine sf_R_lcmp pm_M206 (pc' := 7) rfl rfl (fun z1295784 e1295785 => ?_)
                    refine pm_R_ifc pm_M206 (t := 14) (pc' := 10) rfl rfl rfl (fun c1295786 => ?_) (fun c1295786 => ?_)
                    · have k1295787 := sf_lneC e1295785 c1295786
                      refine pm_R_op pm_M206 (pc' := 15) (st' := [.int 0]) rfl rfl rfl ?_
                      refine pm_R_ret pm_M206 (r := some (.int 0)) rfl rfl ?_
                      show pm_R _ 204 16 [.ref 41, .int x2_1295696, .int x1_1171084] [.int 0] _ _
                      refine pm_R_br pm_M204 (pc' := 39) (st' := []) rfl rfl ?_
                      refine pm_R_op pm_M204 (pc' := 40) (st' := [.int 0]) rfl rfl rfl ?_
                      refine pm_R_ret pm_M204 (r := some (.int 0)) rfl rfl ?_
                      show pm_R _ 224 73 [.ref 41, .int x1_1171084, .int x2_1295696, pm_no, pm_no] [.int 0, .long z1295767, .int z1295761, .ref 56] _ _
                      refine pm_R_br pm_M224 (pc' := 80) (st' := [.long z1295767, .int z1295761, .ref 56]) rfl rfl ?_
                      refine pm_R_op pm_M224 (pc' := 81) (st' := [.long 0, .long z1295767, .int z1295761, .ref 56]) rfl rfl rfl ?_
                      refine sf_R_lany pm_M224 (pc' := 82) (st := [.int z1295761, .ref 56]) rfl rfl rfl (fun z1295788 => ?_)
                      refine rf_R_lst pm_M224 T_1295696 (pc' := 83) rfl e1295765 (by decide) (by decide) (sf_in B1295763 (by decide) (by decide)) ⟨_, rfl⟩ rfl (fun h1295789 T1295790 F1295791 e1295792 => ?_)
                      have F1295793 := F_1295696.trans F1295791 (by decide)
                      refine sf_R_iinc pm_M224 (pc' := 86) (ls' := fun z => [.ref 41, .int x1_1171084, .int z, pm_no, pm_no]) rfl B1295721 rfl (by decide) (by decide) (by decide) (fun _ => rfl) rfl (fun z1295794 e1295795 B1295796 => ?_)
                      show pm_R _ 224 86 [.ref 41, .int x1_1171084, .int z1295794, pm_no, pm_no] [] _ _
                      refine pm_R_br pm_M224 (pc' := 36) rfl rfl ?_
                      exact ih_1295696 _ (sf_up hN_1295696 e1295795 B1295721 (by decide) (by decide)) h1295789 m_1295696 w_1295696 z1295794 T1295790 F1295793 W_1295696 (sf_weak B1295796 (by decide) (by decide)) rfl
                    · have B1295797 : sf_B 0 0 z1295784 := sf_eqL (Classical.not_not.mp c1295786) sf_k0
                      refine pm_R_op pm_M206 (pc' := 11) (st' := [.int 1]) rfl rfl rfl ?_
                      refine pm_R_br pm_M206 (pc' := 15) rfl rfl ?_
                      refine pm_R_ret pm_M206 (r := some (.int 1)) rfl rfl ?_
                      show pm_R _ 204 16 [.ref 41, .int x2_1295696, .int x1_1171084] [.int 1] _ _
                      refine pm_R_br pm_M204 (pc' := 19) (st' := []) rfl rfl ?_
                      refine pm_R_lo pm_M204 (pc' := 20) rfl rfl rfl ?_
                      have B1295798 : sf_B (-1) 11 (m_1295696 26) := T_1295696.2.2.1 26
                      refine rf_R_get pm_M204 T_1295696 (pc' := 23) (v := .int (m_1295696 26)) rfl rfl rfl rfl ?_
                      refine pm_R_lo pm_M204 (pc' := 24) rfl rfl rfl ?_
                      refine pm_R_icmp pm_M204 (t := 35) (pc' := 27) rfl rfl rfl (fun c1295799 => ?_) (fun c1295799 => ?_)
                      · skip
                        refine pm_R_op pm_M204 (pc' := 36) (st' := [.int 1]) rfl rfl rfl ?_
                        refine pm_R_br pm_M204 (pc' := 40) rfl rfl ?_
                        refine pm_R_ret pm_M204 (r := some (.int 1)) rfl rfl ?_
                        show pm_R _ 224 73 [.ref 41, .int x1_1171084, .int x2_1295696, pm_no, pm_no] [.int 1, .long z1295767, .int z1295761, .ref 56] _ _
                        refine pm_R_br pm_M224 (pc' := 76) (st' := [.long z1295767, .int z1295761, .ref 56]) rfl rfl ?_
                        refine pm_R_op pm_M224 (pc' := 77) (st' := [.long 1, .long z1295767, .int z1295761, .ref 56]) rfl rfl rfl ?_
                        refine pm_R_br pm_M224 (pc' := 81) rfl rfl ?_
                        refine sf_R_lany pm_M224 (pc' := 82) (st := [.int z1295761, .ref 56]) rfl rfl rfl (fun z1295800 => ?_)
                        refine rf_R_lst pm_M224 T_1295696 (pc' := 83) rfl e1295765 (by decide) (by decide) (sf_in B1295763 (by decide) (by decide)) ⟨_, rfl⟩ rfl (fun h1295801 T1295802 F1295803 e1295804 => ?_)
                        have F1295805 := F_1295696.trans F1295803 (by decide)
                        refine sf_R_iinc pm_M224 (pc' := 86) (ls' := fun z => [.ref 41, .int x1_1171084, .int z, pm_no, pm_no]) rfl B1295721 rfl (by decide) (by decide) (by decide) (fun _ => rfl) rfl (fun z1295806 e1295807 B1295808 => ?_)
                        show pm_R _ 224 86 [.ref 41, .int x1_1171084, .int z1295806, pm_no, pm_no] [] _ _
                        refine pm_R_br pm_M224 (pc' := 36) rfl rfl ?_
                        exact ih_1295696 _ (sf_up hN_1295696 e1295807 B1295721 (by decide) (by decide)) h1295801 m_1295696 w_1295696 z1295806 T1295802 F1295805 W_1295696 (sf_weak B1295808 (by decide) (by decide)) rfl
                      · have B1295809 : sf_B 0 11 (m_1295696 26) := sf_eqL (Classical.not_not.mp c1295799) B1294910
                        refine pm_R_lo pm_M204 (pc' := 28) rfl rfl rfl ?_
                        have B1295810 : sf_B 0 15 (m_1295696 27) := T_1295696.2.2.1 27
                        refine rf_R_get pm_M204 T_1295696 (pc' := 31) (v := .int (m_1295696 27)) rfl rfl rfl rfl ?_
                        refine pm_R_lo pm_M204 (pc' := 32) rfl rfl rfl ?_
                        refine pm_R_icmp pm_M204 (t := 39) (pc' := 35) rfl rfl rfl (fun c1295811 => ?_) (fun c1295811 => ?_)
                        · skip
                          refine pm_R_op pm_M204 (pc' := 40) (st' := [.int 0]) rfl rfl rfl ?_
                          refine pm_R_ret pm_M204 (r := some (.int 0)) rfl rfl ?_
                          show pm_R _ 224 73 [.ref 41, .int x1_1171084, .int x2_1295696, pm_no, pm_no] [.int 0, .long z1295767, .int z1295761, .ref 56] _ _
                          refine pm_R_br pm_M224 (pc' := 80) (st' := [.long z1295767, .int z1295761, .ref 56]) rfl rfl ?_
                          refine pm_R_op pm_M224 (pc' := 81) (st' := [.long 0, .long z1295767, .int z1295761, .ref 56]) rfl rfl rfl ?_
                          refine sf_R_lany pm_M224 (pc' := 82) (st := [.int z1295761, .ref 56]) rfl rfl rfl (fun z1295812 => ?_)
                          refine rf_R_lst pm_M224 T_1295696 (pc' := 83) rfl e1295765 (by decide) (by decide) (sf_in B1295763 (by decide) (by decide)) ⟨_, rfl⟩ rfl (fun h1295813 T1295814 F1295815 e1295816 => ?_)
                          have F1295817 := F_1295696.trans F1295815 (by decide)
                          refine sf_R_iinc pm_M224 (pc' := 86) (ls' := fun z => [.ref 41, .int x1_1171084, .int z, pm_no, pm_no]) rfl B1295721 rfl (by decide) (by decide) (by decide) (fun _ => rfl) rfl (fun z1295818 e1295819 B1295820 => ?_)
                          show pm_R _ 224 86 [.ref 41, .int x1_1171084, .int z1295818, pm_no, pm_no] [] _ _
                          refine pm_R_br pm_M224 (pc' := 36) rfl rfl ?_
                          exact ih_1295696 _ (sf_up hN_1295696 e1295819 B1295721 (by decide) (by decide)) h1295813 m_1295696 w_1295696 z1295818 T1295814 F1295817 W_1295696 (sf_weak B1295820 (by decide) (by decide)) rfl
                        · refine pm_R_op pm_M204 (pc' := 36) (st' := [.int 1]) rfl rfl rfl ?_
                          refine pm_R_br pm_M204 (pc' := 40) rfl rfl ?_
                          refine pm_R_ret pm_M204 (r := some (.int 1)) rfl rfl ?_
                          show pm_R _ 224 73 [.ref 41, .int x1_1171084, .int x2_1295696, pm_no, pm_no] [.int 1, .long z1295767, .int z1295761, .ref 56] _ _
                          refine pm_R_br pm_M224 (pc' := 76) (st' := [.long z1295767, .int z1295761, .ref 56]) rfl rfl ?_
                          refine pm_R_op pm_M224 (pc' := 77) (st' := [.long 1, .long z1295767, .int z1295761, .ref 56]) rfl rfl rfl ?_
                          refine pm_R_br pm_M224 (pc' := 81) rfl rfl ?_
                          refine sf_R_lany pm_M224 (pc' := 82) (st := [.int z1295761, .ref 56]) rfl rfl rfl (fun z1295821 => ?_)
                          refine rf_R_lst pm_M224 T_1295696 (pc' := 83) rfl e1295765 (by decide) (by decide) (sf_in B1295763 (by decide) (by decide)) ⟨_, rfl⟩ rfl (fun h1295822 T1295823 F1295824 e1295825 => ?_)
                          have F1295826 := F_1295696.trans F1295824 (by decide)
                          refine sf_R_iinc pm_M224 (pc' := 86) (ls' := fun z => [.ref 41, .int x1_1171084, .int z, pm_no, pm_no]) rfl B1295721 rfl (by decide) (by decide) (by decide) (fun _ => rfl) rfl (fun z1295827 e1295828 B1295829 => ?_)
                          show pm_R _ 224 86 [.ref 41, .int x1_1171084, .int z1295827, pm_no, pm_no] [] _ _
                          refine pm_R_br pm_M224 (pc' := 36) rfl rfl ?_
                          exact ih_1295696 _ (sf_up hN_1295696 e1295828 B1295721 (by decide) (by decide)) h1295822 m_1295696 w_1295696 z1295827 T1295823 F1295826 W_1295696 (sf_weak B1295829 (by decide) (by decide)) rfl
              exact L_1295696 _ h_1171084 m_1171084 w_1171084 0 T_1171084 F_1171084 (rf_W.refl _ _) (sf_weak sf_k0 (by decide) (by decide)) rfl
        exact L_1171084 _ h_768274 m_768274 w_768274 0 (pm_no) T_768274 F_768274 (rf_W.refl _ _) (sf_weak sf_k0 (by decide) (by decide)) rfl rfl
      · have B1295830 : sf_B 0 43199 x1_768274 := sf_ltL (Int32.not_le.mp c768281) Bx1_768274 sf_k43200
        refine pm_R_lo pm_M224 (pc' := 12) rfl rfl rfl ?_
        refine rf_R_get pm_M224 T_768274 (pc' := 15) (v := .ref 56) rfl rfl rfl rfl ?_
        refine pm_R_lo pm_M224 (pc' := 16) rfl rfl rfl ?_
        refine pm_R_op pm_M224 (pc' := 17) (st' := [.long 0, .int x1_768274, .ref 56]) rfl rfl rfl ?_
        refine rf_R_lst pm_M224 T_768274 (pc' := 18) rfl e768279 (by decide) (by decide) (sf_in B1295830 (by decide) (by decide)) ⟨_, rfl⟩ rfl (fun h1295831 T1295832 F1295833 e1295834 => ?_)
        have F1295835 := F_768274.trans F1295833 (by decide)
        refine sf_R_iinc pm_M224 (pc' := 21) (ls' := fun z => [.ref 41, .int z, pm_no, pm_no, pm_no]) rfl B1295830 rfl (by decide) (by decide) (by decide) (fun _ => rfl) rfl (fun z1295836 e1295837 B1295838 => ?_)
        show pm_R _ 224 21 [.ref 41, .int z1295836, pm_no, pm_no, pm_no] [] _ _
        refine pm_R_br pm_M224 (pc' := 2) rfl rfl ?_
        exact ih_768274 _ (sf_up hN_768274 e1295837 B1295830 (by decide) (by decide)) h1295831 m_768274 w_768274 z1295836 T1295832 F1295835 W_768274 (sf_weak B1295838 (by decide) (by decide)) rfl
  exact L_768274 _ h m w 0 T (rf_G.refl [56] h) (rf_W.refl _ _) (sf_weak sf_k0 (by decide) (by decide)) rfl

set_option maxRecDepth 100000 in
set_option maxHeartbeats 4000000 in
/-- SilentTableModel.wear -/
theorem rf_c235 {d : Nat} {m : Nat → Int32} {w : Int64} {h : pm_H} {Q : Option Value → pm_H → Prop} {a0 : Int32} (T : rf_T m w h) (Ba0 : sf_B (-1) 9 a0) (K : ∀ (m' : Nat → Int32) (w' : Int64) (h' : pm_H), rf_T m' w' h' → rf_G [53] h h' → rf_W [] m m' → Q none h') : pm_R (d + 1) 235 0 [.ref 41, .int a0, pm_no, pm_no, pm_no, pm_no] [] h Q := by
  refine pm_R_op pm_M235 (pc' := 1) (st' := [.int 0]) rfl rfl rfl ?_
  refine pm_R_lo pm_M235 (pc' := 2) (ls' := [.ref 41, .int a0, .int 0, pm_no, pm_no, pm_no]) (st' := []) rfl rfl rfl ?_
  have L_6221 : ∀ (N : Nat) (h_6221 : pm_H) (m_6221 : Nat → Int32) (w_6221 : Int64) (x2_6221 : Int32) (g3_6221 : Value) (g4_6221 : Value) (g5_6221 : Value), rf_T m_6221 w_6221 h_6221 → rf_G [53] h h_6221 → rf_W [] m m_6221 → sf_B 0 9 x2_6221 → g3_6221.category = 1 → g4_6221.category = 1 → g5_6221.category = 1 → (9 - x2_6221.toInt).toNat = N → pm_R (d + 1) 235 2 [.ref 41, .int a0, .int x2_6221, g3_6221, g4_6221, g5_6221] [] h_6221 Q := by
    intro N
    induction N using Nat.strongRecOn with
    | ind N ih_6221 =>
      intro h_6221 m_6221 w_6221 x2_6221 g3_6221 g4_6221 g5_6221 T_6221 F_6221 W_6221 Bx2_6221 Cg3_6221 Cg4_6221 Cg5_6221 hN_6221
      have W6224 : rf_W [] m m_6221 := (rf_W.refl [] m).trans W_6221 (by decide)
      refine pm_R_lo pm_M235 (pc' := 3) rfl rfl rfl ?_
      refine pm_R_lo pm_M235 (pc' := 4) rfl rfl rfl ?_
      refine pm_R_icmp pm_M235 (t := 91) (pc' := 7) rfl rfl rfl (fun c6225 => ?_) (fun c6225 => ?_)
      · skip
        exact pm_R_ret pm_M235 (r := none) rfl rfl (K m_6221 w_6221 h_6221 T_6221 F_6221 W6224)
      · have B6226 : sf_B 0 8 x2_6221 := sf_ltL (Int32.not_le.mp c6225) Bx2_6221 Ba0
        have B6227 : sf_B 1 9 a0 := sf_ltR (Int32.not_le.mp c6225) Bx2_6221 Ba0
        refine pm_R_op pm_M235 (pc' := 8) (st' := [.int 0]) rfl rfl rfl ?_
        refine pm_R_lo pm_M235 (pc' := 9) (ls' := [.ref 41, .int a0, .int x2_6221, .int 0, g4_6221, g5_6221]) (st' := []) rfl rfl rfl ?_
        have L_7463 : ∀ (N : Nat) (h_7463 : pm_H) (m_7463 : Nat → Int32) (w_7463 : Int64) (x3_7463 : Int32) (g4_7463 : Value) (g5_7463 : Value), rf_T m_7463 w_7463 h_7463 → rf_G [53] h h_7463 → rf_W [] m_6221 m_7463 → sf_B 0 12 x3_7463 → g4_7463.category = 1 → g5_7463.category = 1 → (12 - x3_7463.toInt).toNat = N → pm_R (d + 1) 235 9 [.ref 41, .int a0, .int x2_6221, .int x3_7463, g4_7463, g5_7463] [] h_7463 Q := by
          intro N
          induction N using Nat.strongRecOn with
          | ind N ih_7463 =>
            intro h_7463 m_7463 w_7463 x3_7463 g4_7463 g5_7463 T_7463 F_7463 W_7463 Bx3_7463 Cg4_7463 Cg5_7463 hN_7463
            have W7466 : rf_W [] m m_7463 := W6224.trans W_7463 (by decide)
            have W7467 : rf_W [] m m_7463 := W_6221.trans W_7463 (by decide)
            refine pm_R_lo pm_M235 (pc' := 10) rfl rfl rfl ?_
            refine pm_R_lo pm_M235 (pc' := 11) rfl rfl rfl ?_
            have B7468 : sf_B 0 12 (m_7463 24) := T_7463.2.2.1 24
            refine rf_R_get pm_M235 T_7463 (pc' := 14) (v := .int (m_7463 24)) rfl rfl rfl rfl ?_
            refine pm_R_icmp pm_M235 (t := 85) (pc' := 17) rfl rfl rfl (fun c7469 => ?_) (fun c7469 => ?_)
            · skip
              refine sf_R_iinc pm_M235 (pc' := 88) (ls' := fun z => [.ref 41, .int a0, .int z, .int x3_7463, g4_7463, g5_7463]) rfl B6226 rfl (by decide) (by decide) (by decide) (fun _ => rfl) rfl (fun z7470 e7471 B7472 => ?_)
              show pm_R _ 235 88 [.ref 41, .int a0, .int z7470, .int x3_7463, g4_7463, g5_7463] [] _ _
              refine pm_R_br pm_M235 (pc' := 2) rfl rfl ?_
              exact ih_6221 _ (sf_up hN_6221 e7471 B6226 (by decide) (by decide)) h_7463 m_7463 w_7463 z7470 (.int x3_7463) (g4_7463) (g5_7463) T_7463 F_7463 W7467 (sf_weak B7472 (by decide) (by decide)) rfl Cg4_7463 Cg5_7463 rfl
            · have B7473 : sf_B 0 11 x3_7463 := sf_ltL (Int32.not_le.mp c7469) Bx3_7463 B7468
              have B7474 : sf_B 1 12 (m_7463 24) := sf_ltR (Int32.not_le.mp c7469) Bx3_7463 B7468
              refine pm_R_lo pm_M235 (pc' := 18) rfl rfl rfl ?_
              refine rf_R_get pm_M235 T_7463 (pc' := 21) (v := .ref 53) rfl rfl rfl rfl ?_
              refine pm_R_lo pm_M235 (pc' := 22) rfl rfl rfl ?_
              obtain ⟨f7475, e7476⟩ := T_7463.2.2.2.1 53 (by decide) (by decide)
              refine rf_R_ild pm_M235 T_7463 (pc' := 23) rfl e7476 (by decide) (sf_in B7473 (by decide) (by decide)) rfl (fun z7478 ez7479 => ?_)
              refine pm_R_lo pm_M235 (pc' := 25) (ls' := [.ref 41, .int a0, .int x2_6221, .int x3_7463, .int z7478, g5_7463]) (st' := []) rfl rfl rfl ?_
              refine pm_R_op pm_M235 (pc' := 26) (st' := [.int 0]) rfl rfl rfl ?_
              refine pm_R_lo pm_M235 (pc' := 28) (ls' := [.ref 41, .int a0, .int x2_6221, .int x3_7463, .int z7478, .int 0]) (st' := []) rfl rfl rfl ?_
              have L_7710 : ∀ (N : Nat) (x4_7710 : Int32) (x5_7710 : Int32), sf_B (-2147483648) 2147483647 x4_7710 → sf_B 0 10 x5_7710 → (10 - x5_7710.toInt).toNat = N → pm_R (d + 1) 235 28 [.ref 41, .int a0, .int x2_6221, .int x3_7463, .int x4_7710, .int x5_7710] [] h_7463 Q := by
                intro N
                induction N using Nat.strongRecOn with
                | ind N ih_7710 =>
                  intro x4_7710 x5_7710 Bx4_7710 Bx5_7710 hN_7710
                  refine pm_R_lo pm_M235 (pc' := 30) rfl rfl rfl ?_
                  refine pm_R_op pm_M235 (pc' := 32) (st' := [.int 10, .int x5_7710]) rfl rfl rfl ?_
                  refine pm_R_icmp pm_M235 (t := 71) (pc' := 35) rfl rfl rfl (fun c7711 => ?_) (fun c7711 => ?_)
                  · have B7712 : sf_B 10 10 x5_7710 := sf_leR c7711 sf_k10 Bx5_7710
                    refine pm_R_lo pm_M235 (pc' := 72) rfl rfl rfl ?_
                    refine rf_R_get pm_M235 T_7463 (pc' := 75) (v := .ref 53) rfl rfl rfl rfl ?_
                    refine pm_R_lo pm_M235 (pc' := 76) rfl rfl rfl ?_
                    refine pm_R_lo pm_M235 (pc' := 78) rfl rfl rfl ?_
                    refine rf_R_ist pm_M235 T_7463 (pc' := 79) rfl e7476 (by decide) (by decide) (sf_in B7473 (by decide) (by decide)) ⟨_, rfl⟩ rfl (fun h7713 T7714 F7715 e7716 => ?_)
                    have F7717 := F_7463.trans F7715 (by decide)
                    refine sf_R_iinc pm_M235 (pc' := 82) (ls' := fun z => [.ref 41, .int a0, .int x2_6221, .int z, .int x4_7710, .int x5_7710]) rfl B7473 rfl (by decide) (by decide) (by decide) (fun _ => rfl) rfl (fun z7718 e7719 B7720 => ?_)
                    show pm_R _ 235 82 [.ref 41, .int a0, .int x2_6221, .int z7718, .int x4_7710, .int x5_7710] [] _ _
                    refine pm_R_br pm_M235 (pc' := 9) rfl rfl ?_
                    exact ih_7463 _ (sf_up hN_7463 e7719 B7473 (by decide) (by decide)) h7713 m_7463 w_7463 z7718 (.int x4_7710) (.int x5_7710) T7714 F7717 W_7463 (sf_weak B7720 (by decide) (by decide)) rfl rfl rfl
                  · have B7721 : sf_B 0 9 x5_7710 := sf_ltL (Int32.not_le.mp c7711) Bx5_7710 sf_k10
                    refine pm_R_lo pm_M235 (pc' := 37) rfl rfl rfl ?_
                    refine pm_R_lo pm_M235 (pc' := 38) rfl rfl rfl ?_
                    refine rf_R_get pm_M235 T_7463 (pc' := 41) (v := .ref 53) rfl rfl rfl rfl ?_
                    refine pm_R_lo pm_M235 (pc' := 42) rfl rfl rfl ?_
                    refine pm_R_iald pm_M235 (pc' := 43) (v := z7478) rfl e7476 (Nat.lt_of_lt_of_le (by decide) T_7463.1) (sf_in B7473 (by decide) (by decide)) ez7479 rfl ?_
                    refine sf_R_lany pm_M235 (pc' := 44) (st := [.int x4_7710]) rfl rfl rfl (fun z7724 => ?_)
                    refine pm_R_lo pm_M235 (pc' := 46) rfl rfl rfl ?_
                    refine pm_R_cs pm_M235 (pc' := 49) (ra := [.int x5_7710, .long z7724]) (rest := [.int x4_7710]) (ls' := [.long z7724, pm_no, .int x5_7710]) rfl rfl (Or.inl rfl) pm_M206 rfl rfl (Nat.le_of_ble_eq_true rfl) rfl rfl ?_
                    refine pm_R_lo pm_M206 (pc' := 1) rfl rfl rfl ?_
                    refine pm_R_lo pm_M206 (pc' := 2) rfl rfl rfl ?_
                    refine sf_R_lany pm_M206 (pc' := 3) (st := []) rfl rfl rfl (fun z7725 => ?_)
                    refine pm_R_op pm_M206 (pc' := 4) (st' := [.long 1, .long z7725]) rfl rfl rfl ?_
                    refine sf_R_lany pm_M206 (pc' := 5) (st := []) rfl rfl rfl (fun z7726 => ?_)
                    refine pm_R_op pm_M206 (pc' := 6) (st' := [.long 1, .long z7726]) rfl rfl rfl ?_
                    refine sf_R_lcmp pm_M206 (pc' := 7) rfl rfl (fun z7727 e7728 => ?_)
                    refine pm_R_ifc pm_M206 (t := 14) (pc' := 10) rfl rfl rfl (fun c7729 => ?_) (fun c7729 => ?_)
                    · have k7730 := sf_lneC e7728 c7729
                      refine pm_R_op pm_M206 (pc' := 15) (st' := [.int 0]) rfl rfl rfl ?_
                      refine pm_R_ret pm_M206 (r := some (.int 0)) rfl rfl ?_
                      show pm_R _ 235 49 [.ref 41, .int a0, .int x2_6221, .int x3_7463, .int x4_7710, .int x5_7710] [.int 0, .int x4_7710] _ _
                      refine pm_R_br pm_M235 (pc' := 61) (st' := [.int x4_7710]) rfl rfl ?_
                      refine pm_R_op pm_M235 (pc' := 62) (st' := [.int 0, .int x4_7710]) rfl rfl rfl ?_
                      refine sf_R_iany pm_M235 (pc' := 63) (st := []) rfl rfl rfl (fun z7734 => ?_)
                      refine pm_R_lo pm_M235 (pc' := 65) (ls' := [.ref 41, .int a0, .int x2_6221, .int x3_7463, .int z7734, .int x5_7710]) (st' := []) rfl rfl rfl ?_
                      refine sf_R_iinc pm_M235 (pc' := 68) (ls' := fun z => [.ref 41, .int a0, .int x2_6221, .int x3_7463, .int z7734, .int z]) rfl B7721 rfl (by decide) (by decide) (by decide) (fun _ => rfl) rfl (fun z7735 e7736 B7737 => ?_)
                      show pm_R _ 235 68 [.ref 41, .int a0, .int x2_6221, .int x3_7463, .int z7734, .int z7735] [] _ _
                      refine pm_R_br pm_M235 (pc' := 28) rfl rfl ?_
                      exact ih_7710 _ (sf_up hN_7710 e7736 B7721 (by decide) (by decide)) z7734 z7735 (sf_any z7734) (sf_weak B7737 (by decide) (by decide)) rfl
                    · have B7738 : sf_B 0 0 z7727 := sf_eqL (Classical.not_not.mp c7729) sf_k0
                      refine pm_R_op pm_M206 (pc' := 11) (st' := [.int 1]) rfl rfl rfl ?_
                      refine pm_R_br pm_M206 (pc' := 15) rfl rfl ?_
                      refine pm_R_ret pm_M206 (r := some (.int 1)) rfl rfl ?_
                      show pm_R _ 235 49 [.ref 41, .int a0, .int x2_6221, .int x3_7463, .int x4_7710, .int x5_7710] [.int 1, .int x4_7710] _ _
                      refine pm_R_br pm_M235 (pc' := 52) (st' := [.int x4_7710]) rfl rfl ?_
                      refine pm_R_lo pm_M235 (pc' := 53) rfl rfl rfl ?_
                      refine pm_R_lo pm_M235 (pc' := 55) rfl rfl rfl ?_
                      refine pm_R_cv pm_M235 (pc' := 58) (a := 41) (ra := [.int x5_7710]) (rest := [.int x4_7710]) (ls' := [.ref 41, .int x5_7710]) rfl rfl (Or.inl rfl) pm_M236 T_7463.2.1 rfl (by decide) (Nat.lt_of_lt_of_le (by decide) T_7463.1) rfl rfl (Nat.le_of_ble_eq_true rfl) rfl rfl ?_
                      refine pm_R_lo pm_M236 (pc' := 1) rfl rfl rfl ?_
                      refine rf_R_get pm_M236 T_7463 (pc' := 4) (v := .ref 47) rfl rfl rfl rfl ?_
                      refine pm_R_op pm_M236 (pc' := 6) (st' := [.int 100, .ref 47]) rfl rfl rfl ?_
                      refine pm_R_lo pm_M236 (pc' := 7) rfl rfl rfl ?_
                      have B7739 : sf_B 0 1 (m_7463 23) := T_7463.2.2.1 23
                      refine rf_R_get pm_M236 T_7463 (pc' := 10) (v := .int (m_7463 23)) rfl rfl rfl rfl ?_
                      refine sf_R_imul pm_M236 (pc' := 11) rfl rfl sf_k100 B7739 (by decide) (by decide) (by decide) (fun z7740 e7741 B7742 => ?_)
                      refine pm_R_op pm_M236 (pc' := 13) (st' := [.int 90, .int z7740, .ref 47]) rfl rfl rfl ?_
                      refine sf_R_iadd pm_M236 (pc' := 14) rfl rfl B7742 sf_k90 (by decide) (by decide) (fun z7743 e7744 B7745 => ?_)
                      refine pm_R_lo pm_M236 (pc' := 15) rfl rfl rfl ?_
                      refine sf_R_iadd pm_M236 (pc' := 16) rfl rfl B7745 B7721 (by decide) (by decide) (fun z7746 e7747 B7748 => ?_)
                      obtain ⟨f7749, e7750, b7751⟩ := T_7463.2.2.2.1 47 (by decide) (by decide)
                      refine rf_R_ild pm_M236 T_7463 (pc' := 17) rfl e7750 (by decide) (sf_in B7748 (by decide) (by decide)) rfl (fun z7752 ez7753 => ?_)
                      refine pm_R_ret pm_M236 (r := some (.int z7752)) rfl (pm_ret_i _) ?_
                      show pm_R _ 235 58 [.ref 41, .int a0, .int x2_6221, .int x3_7463, .int x4_7710, .int x5_7710] [.int z7752, .int x4_7710] _ _
                      refine pm_R_br pm_M235 (pc' := 62) rfl rfl ?_
                      refine sf_R_iany pm_M235 (pc' := 63) (st := []) rfl rfl rfl (fun z7757 => ?_)
                      refine pm_R_lo pm_M235 (pc' := 65) (ls' := [.ref 41, .int a0, .int x2_6221, .int x3_7463, .int z7757, .int x5_7710]) (st' := []) rfl rfl rfl ?_
                      refine sf_R_iinc pm_M235 (pc' := 68) (ls' := fun z => [.ref 41, .int a0, .int x2_6221, .int x3_7463, .int z7757, .int z]) rfl B7721 rfl (by decide) (by decide) (by decide) (fun _ => rfl) rfl (fun z7758 e7759 B7760 => ?_)
                      show pm_R _ 235 68 [.ref 41, .int a0, .int x2_6221, .int x3_7463, .int z7757, .int z7758] [] _ _
                      refine pm_R_br pm_M235 (pc' := 28) rfl rfl ?_
                      exact ih_7710 _ (sf_up hN_7710 e7759 B7721 (by decide) (by decide)) z7757 z7758 (sf_any z7757) (sf_weak B7760 (by decide) (by decide)) rfl
              exact L_7710 _ z7478 0 (sf_any z7478) (sf_weak sf_k0 (by decide) (by decide)) rfl
        exact L_7463 _ h_6221 m_6221 w_6221 0 (g4_6221) (g5_6221) T_6221 F_6221 (rf_W.refl _ _) (sf_weak sf_k0 (by decide) (by decide)) Cg4_6221 Cg5_6221 rfl
  exact L_6221 _ h m w 0 (pm_no) (pm_no) (pm_no) T (rf_G.refl [53] h) (rf_W.refl _ _) (sf_weak sf_k0 (by decide) (by decide)) rfl rfl rfl rfl

set_option maxRecDepth 100000 in
set_option maxHeartbeats 4000000 in
/-- SilentTableModel.meanings -/
theorem rf_c215 {d : Nat} {m : Nat → Int32} {w : Int64} {h : pm_H} {Q : Option Value → pm_H → Prop}  (T : rf_T m w h) (Bf24 : sf_B 1 12 (m 24)) (K : ∀ (r : Int64) (m' : Nat → Int32) (w' : Int64) (h' : pm_H), rf_T m' w' h' → rf_G [54] h h' → rf_W [] m m' → Q (some (.long r)) h') : pm_R (d + 5) 215 0 [.ref 41] [] h Q := by
  refine pm_R_lo pm_M215 (pc' := 1) rfl rfl rfl ?_
  refine pm_R_cv pm_M215 (pc' := 4) (a := 41) (ra := []) (rest := []) (ls' := [.ref 41, pm_no, pm_no, pm_no, pm_no, pm_no]) rfl rfl (Or.inl rfl) pm_M216 T.2.1 rfl (by decide) (Nat.lt_of_lt_of_le (by decide) T.1) rfl rfl (Nat.le_of_ble_eq_true rfl) rfl rfl ?_
  refine rf_c216 (d := d + 0) T  (fun m3 w4 h5 T6 F7 W8 => ?_)
  have F9 := (rf_G.refl [54] h).trans F7 (by decide)
  have B10 : sf_B 1 12 (m3 24) := by rw [W8 24 (by decide)]; exact Bf24
  have W11 : rf_W [] m m3 := (rf_W.refl [] m).trans W8 (by decide)
  show pm_R _ 215 4 [.ref 41] [] _ _
  refine pm_R_lo pm_M215 (pc' := 5) rfl rfl rfl ?_
  refine rf_R_get pm_M215 T6 (pc' := 8) (v := .ref 54) rfl rfl rfl rfl ?_
  refine pm_R_op pm_M215 (pc' := 9) (st' := [.int 0, .ref 54]) rfl rfl rfl ?_
  refine pm_R_op pm_M215 (pc' := 10) (st' := [.int 0, .int 0, .ref 54]) rfl rfl rfl ?_
  refine pm_R_lo pm_M215 (pc' := 11) rfl rfl rfl ?_
  refine rf_R_get pm_M215 T6 (pc' := 14) (v := .int (m3 24)) rfl rfl rfl rfl ?_
  refine pm_R_op pm_M215 (pc' := 15) (st' := [.int 1, .int (m3 24), .int 0, .int 0, .ref 54]) rfl rfl rfl ?_
  refine sf_R_isub pm_M215 (pc' := 16) rfl rfl B10 sf_k1 (by decide) (by decide) (fun z12 e13 B14 => ?_)
  refine pm_R_cs pm_M215 (pc' := 19) (ra := [.int z12, .int 0, .int 0]) (rest := [.ref 54]) (ls' := [.int 0, .int 0, .int z12]) rfl rfl (Or.inl rfl) pm_M207 rfl rfl (Nat.le_of_ble_eq_true rfl) rfl rfl ?_
  refine pm_R_op pm_M207 (pc' := 3) (st' := [.int 144]) rfl rfl rfl ?_
  refine pm_R_lo pm_M207 (pc' := 4) rfl rfl rfl ?_
  refine pm_R_op pm_M207 (pc' := 5) (st' := [.int 0]) rfl rfl rfl ?_
  refine pm_R_op pm_M207 (pc' := 7) (st' := [.int 12, .int 0]) rfl rfl rfl ?_
  refine pm_R_lo pm_M207 (pc' := 8) rfl rfl rfl ?_
  refine pm_R_op pm_M207 (pc' := 9) (st' := [.int 0, .int 0]) rfl rfl rfl ?_
  refine pm_R_op pm_M207 (pc' := 10) (st' := [.int 0]) rfl rfl rfl ?_
  refine pm_R_lo pm_M207 (pc' := 11) rfl rfl rfl ?_
  refine sf_R_iadd pm_M207 (pc' := 12) rfl rfl sf_k0 B14 (by decide) (by decide) (fun z15 e16 B17 => ?_)
  refine pm_R_ret pm_M207 (r := some (.int z15)) rfl (pm_ret_i _) ?_
  show pm_R _ 215 19 [.ref 41] [.int z15, .ref 54] _ _
  obtain ⟨f18, e19⟩ := T6.2.2.2.1 54 (by decide) (by decide)
  refine rf_R_lld pm_M215 T6 (pc' := 20) rfl e19 (by decide) (by decide) (sf_in B17 (by decide) (by decide)) rfl (fun z21 ez22 => ?_)
  exact pm_R_ret pm_M215 (r := some (.long z21)) rfl rfl (K z21 m3 w4 h5 T6 F9 W11)

theorem sf_aux13 (v0 v1 : Int) (q0 : v0 = 13 * v1) : v0 = 13 * v1 + 0 := by omega
theorem sf_aux14 (v0 v1 v2 v3 v4 : Int) (q0 : v0 = 13 * v1) (q1 : v2 = v0 + 1) (q2 : v3 = v2 + v4) : v3 = 13 * v1 + 1 * v4 + 1 := by omega
set_option maxRecDepth 100000 in
set_option maxHeartbeats 4000000 in
/-- SilentTableModel.lay -/
theorem rf_c201 {d : Nat} {m : Nat → Int32} {w : Int64} {h : pm_H} {Q : Option Value → pm_H → Prop} {a0 : Int32} {a1 : Int32} (T : rf_T m w h) (Ba0 : sf_B 0 1 a0) (Ba1 : sf_B 0 2 a1) (V : rf_V h a1) (K : ∀ (m' : Nat → Int32) (w' : Int64) (h' : pm_H), rf_T m' w' h' → rf_G [41, 53] h h' → rf_W [23, 24, 26] m m' → (∀ g : Nat → Int32, h.2.2 48 = .inl (0, 156, .inl g) → (m' 24).toInt = (g (13 * a1.toInt).toNat).toInt) → sf_B 1 12 (m' 24) → Q none h') : pm_R (d + 0) 201 0 [.ref 41, .int a0, .int a1, pm_no] [] h Q := by
  refine pm_R_lo pm_M201 (pc' := 1) rfl rfl rfl ?_
  refine pm_R_lo pm_M201 (pc' := 2) rfl rfl rfl ?_
  refine rf_R_put pm_M201 T (pc' := 5) rfl rfl rfl (by decide) rfl rfl Ba0 rfl rfl (fun h1 m4 em5 T2 F3 => ?_)
  have F6 := (rf_G.refl [41, 53] h).trans F3 (by decide)
  have B7 : sf_B 0 1 (m4 23) := by rw [em5]; exact Ba0
  have ek8 : (m4 23).toInt = (a0).toInt := by rw [em5]; rfl
  have W9 : rf_W [23, 24, 26] m m4 := by rw [em5]; exact (rf_W.refl [23, 24, 26] m).put (by decide)
  refine pm_R_lo pm_M201 (pc' := 6) rfl rfl rfl ?_
  refine pm_R_lo pm_M201 (pc' := 7) rfl rfl rfl ?_
  refine rf_R_get pm_M201 T2 (pc' := 10) (v := .ref 48) rfl rfl rfl rfl ?_
  refine pm_R_op pm_M201 (pc' := 12) (st' := [.int 13, .ref 48, .ref 41]) rfl rfl rfl ?_
  refine pm_R_lo pm_M201 (pc' := 13) rfl rfl rfl ?_
  refine sf_R_imul pm_M201 (pc' := 14) rfl rfl sf_k13 Ba1 (by decide) (by decide) (by decide) (fun z10 e11 B12 => ?_)
  obtain ⟨f13, e14, b15⟩ := T2.2.2.2.1 48 (by decide) (by decide)
  refine rf_R_ild pm_M201 T2 (pc' := 15) rfl e14 (by decide) (sf_in B12 (by decide) (by decide)) rfl (fun z16 ez17 => ?_)
  have e18 : (z10).toInt = 13 * (a1).toInt + 0 := (sf_aux13 _ _ e11)
  have B19 : sf_B 1 12 z16 := ez17 ▸ rf_p48v T2 e14 (V.F F6 (by decide)) e18
  refine rf_R_put pm_M201 T2 (pc' := 18) rfl rfl rfl (by decide) rfl rfl (sf_weak B19 (by decide) (by decide)) rfl rfl (fun h20 m23 em24 T21 F22 => ?_)
  have F25 := F6.trans F22 (by decide)
  have B26 : sf_B 1 12 (m23 24) := by rw [em24]; exact B19
  have ek27 : (m23 24).toInt = (z16).toInt := by rw [em24]; rfl
  have W28 : rf_W [23, 24, 26] m m23 := by rw [em24]; exact W9.put (by decide)
  refine pm_R_op pm_M201 (pc' := 19) (st' := [.int 0]) rfl rfl rfl ?_
  refine pm_R_lo pm_M201 (pc' := 20) (ls' := [.ref 41, .int a0, .int a1, .int 0]) (st' := []) rfl rfl rfl ?_
  have L_286 : ∀ (N : Nat) (h_286 : pm_H) (m_286 : Nat → Int32) (w_286 : Int64) (x3_286 : Int32), rf_T m_286 w_286 h_286 → rf_G [41, 53] h h_286 → rf_W [] m23 m_286 → sf_B 0 12 x3_286 → (12 - x3_286.toInt).toNat = N → pm_R (d + 0) 201 20 [.ref 41, .int a0, .int a1, .int x3_286] [] h_286 Q := by
    intro N
    induction N using Nat.strongRecOn with
    | ind N ih_286 =>
      intro h_286 m_286 w_286 x3_286 T_286 F_286 W_286 Bx3_286 hN_286
      have B289 : sf_B 1 12 (m_286 24) := by rw [W_286 24 (by decide)]; exact B26
      have ek290 : (m_286 24).toInt = (z16).toInt := by rw [W_286 24 (by decide)]; exact ek27
      have W291 : rf_W [23, 24, 26] m m_286 := W28.trans W_286 (by decide)
      refine pm_R_lo pm_M201 (pc' := 21) rfl rfl rfl ?_
      refine pm_R_lo pm_M201 (pc' := 22) rfl rfl rfl ?_
      refine rf_R_get pm_M201 T_286 (pc' := 25) (v := .int (m_286 24)) rfl rfl rfl rfl ?_
      refine pm_R_icmp pm_M201 (t := 55) (pc' := 28) rfl rfl rfl (fun c292 => ?_) (fun c292 => ?_)
      · have B293 : sf_B 1 12 x3_286 := sf_leR c292 B289 Bx3_286
        refine pm_R_lo pm_M201 (pc' := 56) rfl rfl rfl ?_
        refine pm_R_op pm_M201 (pc' := 57) (st' := [.int (-1), .ref 41]) rfl rfl rfl ?_
        refine rf_R_put pm_M201 T_286 (pc' := 60) rfl rfl rfl (by decide) rfl rfl (sf_weak sf_kn1 (by decide) (by decide)) rfl rfl (fun h294 m297 em298 T295 F296 => ?_)
        have F299 := F_286.trans F296 (by decide)
        have B300 : sf_B 1 12 (m297 24) := by rw [em298]; exact B289
        have ek301 : (m297 24).toInt = (z16).toInt := by rw [em298]; exact ek290
        have B302 : sf_B (-1) (-1) (m297 26) := by rw [em298]; exact sf_kn1
        have W304 : rf_W [23, 24, 26] m m297 := by rw [em298]; exact W291.put (by decide)
        exact pm_R_ret pm_M201 (r := none) rfl rfl (K m297 w_286 h294 T295 F299 W304 (fun g eg => rf_layX e14 F6 eg ez17 ek301 e18 (by decide)) B300)
      · have B305 : sf_B 0 11 x3_286 := sf_ltL (Int32.not_le.mp c292) Bx3_286 B289
        refine pm_R_lo pm_M201 (pc' := 29) rfl rfl rfl ?_
        refine rf_R_get pm_M201 T_286 (pc' := 32) (v := .ref 53) rfl rfl rfl rfl ?_
        refine pm_R_lo pm_M201 (pc' := 33) rfl rfl rfl ?_
        refine pm_R_op pm_M201 (pc' := 34) (st' := [.int 1, .int x3_286, .ref 53]) rfl rfl rfl ?_
        refine pm_R_lo pm_M201 (pc' := 35) rfl rfl rfl ?_
        refine rf_R_get pm_M201 T_286 (pc' := 38) (v := .ref 48) rfl rfl rfl rfl ?_
        refine pm_R_op pm_M201 (pc' := 40) (st' := [.int 13, .ref 48, .int 1, .int x3_286, .ref 53]) rfl rfl rfl ?_
        refine pm_R_lo pm_M201 (pc' := 41) rfl rfl rfl ?_
        refine sf_R_imulV pm_M201 (pc' := 42) rfl rfl sf_k13 Ba1 (by decide) (by decide) (by decide) e11 ?_
        refine pm_R_op pm_M201 (pc' := 43) (st' := [.int 1, .int z10, .ref 48, .int 1, .int x3_286, .ref 53]) rfl rfl rfl ?_
        refine sf_R_iadd pm_M201 (pc' := 44) rfl rfl B12 sf_k1 (by decide) (by decide) (fun z306 e307 B308 => ?_)
        refine pm_R_lo pm_M201 (pc' := 45) rfl rfl rfl ?_
        refine sf_R_iadd pm_M201 (pc' := 46) rfl rfl B308 B305 (by decide) (by decide) (fun z309 e310 B311 => ?_)
        obtain ⟨f312, e313, b314⟩ := T_286.2.2.2.1 48 (by decide) (by decide)
        refine rf_R_ild pm_M201 T_286 (pc' := 47) rfl e313 (by decide) (sf_in B311 (by decide) (by decide)) rfl (fun z315 ez316 => ?_)
        have e317 : (z309).toInt = 13 * (a1).toInt + 1 * (x3_286).toInt + 1 := (sf_aux14 _ _ _ _ _ e11 e307 e310)
        have B318 : sf_B 0 9 z315 := ez316 ▸ rf_p48s b314 e317 Ba1 B305 (by decide) (by decide) (by decide)
        refine sf_R_iany pm_M201 (pc' := 48) (st := [.int x3_286, .ref 53]) rfl rfl rfl (fun z322 => ?_)
        obtain ⟨f323, e324⟩ := T_286.2.2.2.1 53 (by decide) (by decide)
        refine rf_R_ist pm_M201 T_286 (pc' := 49) rfl e324 (by decide) (by decide) (sf_in B305 (by decide) (by decide)) ⟨_, rfl⟩ rfl (fun h326 T327 F328 e329 => ?_)
        have F330 := F_286.trans F328 (by decide)
        refine sf_R_iinc pm_M201 (pc' := 52) (ls' := fun z => [.ref 41, .int a0, .int a1, .int z]) rfl B305 rfl (by decide) (by decide) (by decide) (fun _ => rfl) rfl (fun z331 e332 B333 => ?_)
        show pm_R _ 201 52 [.ref 41, .int a0, .int a1, .int z331] [] _ _
        refine pm_R_br pm_M201 (pc' := 20) rfl rfl ?_
        exact ih_286 _ (sf_up hN_286 e332 B305 (by decide) (by decide)) h326 m_286 w_286 z331 T327 F330 W_286 (sf_weak B333 (by decide) (by decide)) rfl
  exact L_286 _ h20 m23 w 0 T21 F25 (rf_W.refl _ _) (sf_weak sf_k0 (by decide) (by decide)) rfl

set_option maxRecDepth 100000 in
set_option maxHeartbeats 4000000 in
/-- SilentTableModel.layNumber -/
theorem rf_c244 {d : Nat} {m : Nat → Int32} {w : Int64} {h : pm_H} {Q : Option Value → pm_H → Prop} {a0 : Int32} {a1 : Int32} (T : rf_T m w h) (Ba0 : sf_B 1 4 a0) (Ba1 : sf_B 0 2147483647 a1) (K : ∀ (m' : Nat → Int32) (w' : Int64) (h' : pm_H), rf_T m' w' h' → rf_G [41, 53] h h' → rf_W [24, 26] m m' → sf_B 1 4 (m' 24) → Q none h') : pm_R (d + 0) 244 0 [.ref 41, .int a0, .int a1, pm_no, pm_no] [] h Q := by
  refine pm_R_lo pm_M244 (pc' := 1) rfl rfl rfl ?_
  refine pm_R_lo pm_M244 (pc' := 2) rfl rfl rfl ?_
  refine rf_R_put pm_M244 T (pc' := 5) rfl rfl rfl (by decide) rfl rfl (sf_weak Ba0 (by decide) (by decide)) rfl rfl (fun h1 m4 em5 T2 F3 => ?_)
  have F6 := (rf_G.refl [41, 53] h).trans F3 (by decide)
  have B7 : sf_B 1 4 (m4 24) := by rw [em5]; exact Ba0
  have ek8 : (m4 24).toInt = (a0).toInt := by rw [em5]; rfl
  have W9 : rf_W [24, 26] m m4 := by rw [em5]; exact (rf_W.refl [24, 26] m).put (by decide)
  refine pm_R_lo pm_M244 (pc' := 6) rfl rfl rfl ?_
  refine pm_R_op pm_M244 (pc' := 7) (st' := [.int (-1), .ref 41]) rfl rfl rfl ?_
  refine rf_R_put pm_M244 T2 (pc' := 10) rfl rfl rfl (by decide) rfl rfl (sf_weak sf_kn1 (by decide) (by decide)) rfl rfl (fun h10 m13 em14 T11 F12 => ?_)
  have F15 := F6.trans F12 (by decide)
  have B16 : sf_B 1 4 (m13 24) := by rw [em14]; exact B7
  have ek17 : (m13 24).toInt = (a0).toInt := by rw [em14]; exact ek8
  have B18 : sf_B (-1) (-1) (m13 26) := by rw [em14]; exact sf_kn1
  have W20 : rf_W [24, 26] m m13 := by rw [em14]; exact W9.put (by decide)
  refine pm_R_lo pm_M244 (pc' := 11) rfl rfl rfl ?_
  refine pm_R_lo pm_M244 (pc' := 12) (ls' := [.ref 41, .int a0, .int a1, .int a1, pm_no]) (st' := []) rfl rfl rfl ?_
  refine pm_R_lo pm_M244 (pc' := 13) rfl rfl rfl ?_
  refine pm_R_op pm_M244 (pc' := 14) (st' := [.int 1, .int a0]) rfl rfl rfl ?_
  refine sf_R_isub pm_M244 (pc' := 15) rfl rfl Ba0 sf_k1 (by decide) (by decide) (fun z21 e22 B23 => ?_)
  refine pm_R_lo pm_M244 (pc' := 17) (ls' := [.ref 41, .int a0, .int a1, .int a1, .int z21]) (st' := []) rfl rfl rfl ?_
  have L_106 : ∀ (N : Nat) (h_106 : pm_H) (m_106 : Nat → Int32) (w_106 : Int64) (x3_106 : Int32) (x4_106 : Int32), rf_T m_106 w_106 h_106 → rf_G [41, 53] h h_106 → rf_W [] m13 m_106 → sf_B 0 2147483647 x3_106 → sf_B (-1) 3 x4_106 → (x4_106.toInt - (-1)).toNat = N → pm_R (d + 0) 244 17 [.ref 41, .int a0, .int a1, .int x3_106, .int x4_106] [] h_106 Q := by
    intro N
    induction N using Nat.strongRecOn with
    | ind N ih_106 =>
      intro h_106 m_106 w_106 x3_106 x4_106 T_106 F_106 W_106 Bx3_106 Bx4_106 hN_106
      have B109 : sf_B 1 4 (m_106 24) := by rw [W_106 24 (by decide)]; exact B16
      have ek110 : (m_106 24).toInt = (a0).toInt := by rw [W_106 24 (by decide)]; exact ek17
      have B111 : sf_B (-1) (-1) (m_106 26) := by rw [W_106 26 (by decide)]; exact B18
      have W112 : rf_W [24, 26] m m_106 := W20.trans W_106 (by decide)
      refine pm_R_lo pm_M244 (pc' := 19) rfl rfl rfl ?_
      refine pm_R_ifc pm_M244 (t := 46) (pc' := 22) rfl rfl rfl (fun c113 => ?_) (fun c113 => ?_)
      · have B114 : sf_B (-1) (-1) x4_106 := sf_ltL c113 Bx4_106 sf_k0
        exact pm_R_ret pm_M244 (r := none) rfl rfl (K m_106 w_106 h_106 T_106 F_106 W112 B109)
      · have B115 : sf_B 0 3 x4_106 := sf_leR (Int32.not_lt.mp c113) sf_k0 Bx4_106
        refine pm_R_lo pm_M244 (pc' := 23) rfl rfl rfl ?_
        refine rf_R_get pm_M244 T_106 (pc' := 26) (v := .ref 53) rfl rfl rfl rfl ?_
        refine pm_R_lo pm_M244 (pc' := 28) rfl rfl rfl ?_
        refine pm_R_op pm_M244 (pc' := 29) (st' := [.int 1, .int x4_106, .ref 53]) rfl rfl rfl ?_
        refine pm_R_lo pm_M244 (pc' := 30) rfl rfl rfl ?_
        refine pm_R_op pm_M244 (pc' := 32) (st' := [.int 10, .int x3_106, .int 1, .int x4_106, .ref 53]) rfl rfl rfl ?_
        refine sf_R_irem pm_M244 (pc' := 33) rfl rfl Bx3_106 sf_k10 (by decide) (by decide) (fun z116 e117 B118 => ?_)
        refine sf_R_iany pm_M244 (pc' := 34) (st := [.int x4_106, .ref 53]) rfl rfl rfl (fun z122 => ?_)
        obtain ⟨f123, e124⟩ := T_106.2.2.2.1 53 (by decide) (by decide)
        refine rf_R_ist pm_M244 T_106 (pc' := 35) rfl e124 (by decide) (by decide) (sf_in B115 (by decide) (by decide)) ⟨_, rfl⟩ rfl (fun h126 T127 F128 e129 => ?_)
        have F130 := F_106.trans F128 (by decide)
        refine pm_R_lo pm_M244 (pc' := 36) rfl rfl rfl ?_
        refine pm_R_op pm_M244 (pc' := 38) (st' := [.int 10, .int x3_106]) rfl rfl rfl ?_
        refine sf_R_idiv pm_M244 (pc' := 39) rfl rfl Bx3_106 sf_k10 (by decide) (by decide) (fun z131 e132 B133 => ?_)
        refine pm_R_lo pm_M244 (pc' := 40) (ls' := [.ref 41, .int a0, .int a1, .int z131, .int x4_106]) (st' := []) rfl rfl rfl ?_
        refine sf_R_iinc pm_M244 (pc' := 43) (ls' := fun z => [.ref 41, .int a0, .int a1, .int z131, .int z]) rfl B115 rfl (by decide) (by decide) (by decide) (fun _ => rfl) rfl (fun z134 e135 B136 => ?_)
        show pm_R _ 244 43 [.ref 41, .int a0, .int a1, .int z131, .int z134] [] _ _
        refine pm_R_br pm_M244 (pc' := 17) rfl rfl ?_
        exact ih_106 _ (sf_dn hN_106 e135 B115 (by decide) (by decide)) h126 m_106 w_106 z131 z134 T127 F130 W_106 (sf_weak B133 (by decide) (by decide)) (sf_weak B136 (by decide) (by decide)) rfl
  exact L_106 _ h10 m13 w a1 z21 T11 F15 (rf_W.refl _ _) Ba1 (sf_weak B23 (by decide) (by decide)) rfl

set_option maxRecDepth 100000 in
set_option maxHeartbeats 4000000 in
/-- SilentTableModel.keepFound -/
theorem rf_c245 {d : Nat} {m : Nat → Int32} {w : Int64} {h : pm_H} {Q : Option Value → pm_H → Prop} {a0 : Int32} {a1 : Int32} (T : rf_T m w h) (Ba0 : sf_B 1 4 a0) (Ba1 : sf_B 0 2147483647 a1) (K : ∀ (m' : Nat → Int32) (w' : Int64) (h' : pm_H), rf_T m' w' h' → rf_G [66] h h' → rf_W [] m m' → Q none h') : pm_R (d + 0) 245 0 [.ref 41, .int a0, .int a1, pm_no, pm_no] [] h Q := by
  refine pm_R_lo pm_M245 (pc' := 1) rfl rfl rfl ?_
  refine pm_R_lo pm_M245 (pc' := 2) (ls' := [.ref 41, .int a0, .int a1, .int a1, pm_no]) (st' := []) rfl rfl rfl ?_
  refine pm_R_lo pm_M245 (pc' := 3) rfl rfl rfl ?_
  refine rf_R_get pm_M245 T (pc' := 6) (v := .ref 66) rfl rfl rfl rfl ?_
  refine pm_R_op pm_M245 (pc' := 7) (st' := [.int 0, .ref 66]) rfl rfl rfl ?_
  refine pm_R_lo pm_M245 (pc' := 8) rfl rfl rfl ?_
  obtain ⟨f1, e2, b3⟩ := T.2.2.2.1 66 (by decide) (by decide)
  refine rf_R_ist pm_M245 T (pc' := 9) rfl e2 (by decide) (by decide) rfl ⟨_, rfl, rf_u66 b3 (sf_weak Ba0 (by decide) (by decide))⟩ rfl (fun h4 T5 F6 e7 => ?_)
  have F8 := (rf_G.refl [66] h).trans F6 (by decide)
  refine pm_R_lo pm_M245 (pc' := 10) rfl rfl rfl ?_
  refine pm_R_lo pm_M245 (pc' := 12) (ls' := [.ref 41, .int a0, .int a1, .int a1, .int a0]) (st' := []) rfl rfl rfl ?_
  have L_79 : ∀ (N : Nat) (h_79 : pm_H) (m_79 : Nat → Int32) (w_79 : Int64) (x3_79 : Int32) (x4_79 : Int32), rf_T m_79 w_79 h_79 → rf_G [66] h h_79 → rf_W [] m m_79 → sf_B 0 2147483647 x3_79 → sf_B 0 4 x4_79 → (x4_79.toInt - 0).toNat = N → pm_R (d + 0) 245 12 [.ref 41, .int a0, .int a1, .int x3_79, .int x4_79] [] h_79 Q := by
    intro N
    induction N using Nat.strongRecOn with
    | ind N ih_79 =>
      intro h_79 m_79 w_79 x3_79 x4_79 T_79 F_79 W_79 Bx3_79 Bx4_79 hN_79
      have W82 : rf_W [] m m_79 := (rf_W.refl [] m).trans W_79 (by decide)
      refine pm_R_lo pm_M245 (pc' := 14) rfl rfl rfl ?_
      refine pm_R_ifc pm_M245 (t := 39) (pc' := 17) rfl rfl rfl (fun c83 => ?_) (fun c83 => ?_)
      · have B84 : sf_B 0 0 x4_79 := sf_leL c83 Bx4_79 sf_k0
        exact pm_R_ret pm_M245 (r := none) rfl rfl (K m_79 w_79 h_79 T_79 F_79 W82)
      · have B85 : sf_B 1 4 x4_79 := sf_ltR (Int32.not_le.mp c83) sf_k0 Bx4_79
        refine pm_R_lo pm_M245 (pc' := 18) rfl rfl rfl ?_
        refine rf_R_get pm_M245 T_79 (pc' := 21) (v := .ref 66) rfl rfl rfl rfl ?_
        refine pm_R_lo pm_M245 (pc' := 23) rfl rfl rfl ?_
        refine pm_R_lo pm_M245 (pc' := 24) rfl rfl rfl ?_
        refine pm_R_op pm_M245 (pc' := 26) (st' := [.int 10, .int x3_79, .int x4_79, .ref 66]) rfl rfl rfl ?_
        refine sf_R_irem pm_M245 (pc' := 27) rfl rfl Bx3_79 sf_k10 (by decide) (by decide) (fun z86 e87 B88 => ?_)
        obtain ⟨f89, e90, b91⟩ := T_79.2.2.2.1 66 (by decide) (by decide)
        refine rf_R_ist pm_M245 T_79 (pc' := 28) rfl e90 (by decide) (by decide) (sf_in B85 (by decide) (by decide)) ⟨_, rfl, rf_v66 b91 B88 B85 (by decide)⟩ rfl (fun h92 T93 F94 e95 => ?_)
        have F96 := F_79.trans F94 (by decide)
        refine pm_R_lo pm_M245 (pc' := 29) rfl rfl rfl ?_
        refine pm_R_op pm_M245 (pc' := 31) (st' := [.int 10, .int x3_79]) rfl rfl rfl ?_
        refine sf_R_idiv pm_M245 (pc' := 32) rfl rfl Bx3_79 sf_k10 (by decide) (by decide) (fun z97 e98 B99 => ?_)
        refine pm_R_lo pm_M245 (pc' := 33) (ls' := [.ref 41, .int a0, .int a1, .int z97, .int x4_79]) (st' := []) rfl rfl rfl ?_
        refine sf_R_iinc pm_M245 (pc' := 36) (ls' := fun z => [.ref 41, .int a0, .int a1, .int z97, .int z]) rfl B85 rfl (by decide) (by decide) (by decide) (fun _ => rfl) rfl (fun z100 e101 B102 => ?_)
        show pm_R _ 245 36 [.ref 41, .int a0, .int a1, .int z97, .int z100] [] _ _
        refine pm_R_br pm_M245 (pc' := 12) rfl rfl ?_
        exact ih_79 _ (sf_dn hN_79 e101 B85 (by decide) (by decide)) h92 m_79 w_79 z97 z100 T93 F96 W_79 (sf_weak B99 (by decide) (by decide)) (sf_weak B102 (by decide) (by decide)) rfl
  exact L_79 _ h4 m w a1 a0 T5 F8 (rf_W.refl _ _) Ba1 (sf_weak Ba0 (by decide) (by decide)) rfl

set_option maxRecDepth 100000 in
set_option maxHeartbeats 4000000 in
/-- SilentTableModel.isBrief -/
theorem rf_c243 {d : Nat} {m : Nat → Int32} {w : Int64} {h : pm_H} {Q : Option Value → pm_H → Prop} {a0 : Int32} {a1 : Int32} {a2 : Int32} {a3 : Int32} (T : rf_T m w h) (Ba0 : sf_B 1 4 a0) (Ba1 : sf_B 0 2147483647 a1) (Ba2 : sf_B 0 49 a2) (Ba3 : sf_B (-1) 9 a3) (K : ∀ (r : Int32) (m' : Nat → Int32) (w' : Int64) (h' : pm_H), rf_T m' w' h' → rf_G [41, 53, 54, 55] h h' → rf_W [24, 26] m m' → sf_B 0 1 r → Q (some (.int r)) h') : pm_R (d + 7) 243 0 [.ref 41, .int a0, .int a1, .int a2, .int a3] [] h Q := by
  refine pm_R_lo pm_M243 (pc' := 1) rfl rfl rfl ?_
  refine pm_R_lo pm_M243 (pc' := 2) rfl rfl rfl ?_
  refine pm_R_lo pm_M243 (pc' := 3) rfl rfl rfl ?_
  refine pm_R_cv pm_M243 (pc' := 6) (a := 41) (ra := [.int a1, .int a0]) (rest := []) (ls' := [.ref 41, .int a0, .int a1, pm_no, pm_no]) rfl rfl (Or.inl rfl) pm_M244 T.2.1 rfl (by decide) (Nat.lt_of_lt_of_le (by decide) T.1) rfl rfl (Nat.le_of_ble_eq_true rfl) rfl rfl ?_
  refine rf_c244 (d := d + 6) T Ba0 Ba1 (fun m3 w4 h5 T6 F7 W8 B9 => ?_)
  have F10 := (rf_G.refl [41, 53, 54, 55] h).trans F7 (by decide)
  have W11 : rf_W [24, 26] m m3 := (rf_W.refl [24, 26] m).trans W8 (by decide)
  show pm_R _ 243 6 [.ref 41, .int a0, .int a1, .int a2, .int a3] [] _ _
  refine pm_R_lo pm_M243 (pc' := 7) rfl rfl rfl ?_
  refine pm_R_cv pm_M243 (pc' := 10) (a := 41) (ra := []) (rest := []) (ls' := [.ref 41, pm_no, pm_no, pm_no, pm_no, pm_no]) rfl rfl (Or.inl rfl) pm_M202 T6.2.1 rfl (by decide) (Nat.lt_of_lt_of_le (by decide) T6.1) rfl rfl (Nat.le_of_ble_eq_true rfl) rfl rfl ?_
  refine rf_c202 (d := d + 2) T6  (fun m14 w15 h16 T17 F18 W19 => ?_)
  have F20 := F10.trans F18 (by decide)
  have B21 : sf_B 1 4 (m14 24) := by rw [W19 24 (by decide)]; exact B9
  have W22 : rf_W [24, 26] m m14 := W11.trans W19 (by decide)
  show pm_R _ 243 10 [.ref 41, .int a0, .int a1, .int a2, .int a3] [] _ _
  refine pm_R_lo pm_M243 (pc' := 11) rfl rfl rfl ?_
  refine rf_R_get pm_M243 T17 (pc' := 14) (v := .ref 55) rfl rfl rfl rfl ?_
  refine pm_R_op pm_M243 (pc' := 15) (st' := [.int 0, .ref 55]) rfl rfl rfl ?_
  refine pm_R_op pm_M243 (pc' := 16) (st' := [.int 0, .int 0, .ref 55]) rfl rfl rfl ?_
  refine pm_R_lo pm_M243 (pc' := 17) rfl rfl rfl ?_
  refine pm_R_op pm_M243 (pc' := 18) (st' := [.int 1, .int a0, .int 0, .int 0, .ref 55]) rfl rfl rfl ?_
  refine sf_R_isub pm_M243 (pc' := 19) rfl rfl Ba0 sf_k1 (by decide) (by decide) (fun z23 e24 B25 => ?_)
  refine pm_R_cs pm_M243 (pc' := 22) (ra := [.int z23, .int 0, .int 0]) (rest := [.ref 55]) (ls' := [.int 0, .int 0, .int z23]) rfl rfl (Or.inl rfl) pm_M207 rfl rfl (Nat.le_of_ble_eq_true rfl) rfl rfl ?_
  refine pm_R_op pm_M207 (pc' := 3) (st' := [.int 144]) rfl rfl rfl ?_
  refine pm_R_lo pm_M207 (pc' := 4) rfl rfl rfl ?_
  refine pm_R_op pm_M207 (pc' := 5) (st' := [.int 0]) rfl rfl rfl ?_
  refine pm_R_op pm_M207 (pc' := 7) (st' := [.int 12, .int 0]) rfl rfl rfl ?_
  refine pm_R_lo pm_M207 (pc' := 8) rfl rfl rfl ?_
  refine pm_R_op pm_M207 (pc' := 9) (st' := [.int 0, .int 0]) rfl rfl rfl ?_
  refine pm_R_op pm_M207 (pc' := 10) (st' := [.int 0]) rfl rfl rfl ?_
  refine pm_R_lo pm_M207 (pc' := 11) rfl rfl rfl ?_
  refine sf_R_iadd pm_M207 (pc' := 12) rfl rfl sf_k0 B25 (by decide) (by decide) (fun z26 e27 B28 => ?_)
  refine pm_R_ret pm_M207 (r := some (.int z26)) rfl (pm_ret_i _) ?_
  show pm_R _ 243 22 [.ref 41, .int a0, .int a1, .int a2, .int a3] [.int z26, .ref 55] _ _
  obtain ⟨f29, e30, b31⟩ := T17.2.2.2.1 55 (by decide) (by decide)
  refine rf_R_lld pm_M243 T17 (pc' := 23) rfl e30 (by decide) (by decide) (sf_in B28 (by decide) (by decide)) rfl (fun z32 ez33 => ?_)
  have B34 : lf_B 0 1000000000000 z32 := ez33 ▸ b31 _
  refine pm_R_op pm_M243 (pc' := 24) (st' := [.long 1, .long z32]) rfl rfl rfl ?_
  refine sf_R_lcmp pm_M243 (pc' := 25) rfl rfl (fun z35 e36 => ?_)
  refine pm_R_ifc pm_M243 (t := 39) (pc' := 28) rfl rfl rfl (fun c37 => ?_) (fun c37 => ?_)
  · have k38 := sf_lneC e36 c37
    refine pm_R_op pm_M243 (pc' := 40) (st' := [.int 0]) rfl rfl rfl ?_
    exact pm_R_ret pm_M243 (r := some (.int 0)) rfl rfl (K 0 m14 w15 h16 T17 F20 W22 (sf_weak sf_k0 (by decide) (by decide)))
  · have B39 : sf_B 0 0 z35 := sf_eqL (Classical.not_not.mp c37) sf_k0
    refine pm_R_lo pm_M243 (pc' := 29) rfl rfl rfl ?_
    refine pm_R_cv pm_M243 (pc' := 32) (a := 41) (ra := []) (rest := []) (ls' := [.ref 41]) rfl rfl (Or.inl rfl) pm_M215 T17.2.1 rfl (by decide) (Nat.lt_of_lt_of_le (by decide) T17.1) rfl rfl (Nat.le_of_ble_eq_true rfl) rfl rfl ?_
    refine rf_c215 (d := d + 1) T17 (sf_weak B21 (by decide) (by decide)) (fun r40 m42 w43 h44 T45 F46 W47 => ?_)
    have F48 := F20.trans F46 (by decide)
    have B49 : sf_B 1 4 (m42 24) := by rw [W47 24 (by decide)]; exact B21
    have W50 : rf_W [24, 26] m m42 := W22.trans W47 (by decide)
    show pm_R _ 243 32 [.ref 41, .int a0, .int a1, .int a2, .int a3] [.long r40] _ _
    refine pm_R_op pm_M243 (pc' := 33) (st' := [.long 1, .long r40]) rfl rfl rfl ?_
    refine pm_R_lo pm_M243 (pc' := 34) rfl rfl rfl ?_
    refine sf_R_lany pm_M243 (pc' := 35) (st := [.long r40]) rfl rfl rfl (fun z51 => ?_)
    refine sf_R_lcmp pm_M243 (pc' := 36) rfl rfl (fun z52 e53 => ?_)
    refine pm_R_ifc pm_M243 (t := 41) (pc' := 39) rfl rfl rfl (fun c54 => ?_) (fun c54 => ?_)
    · have B55 : sf_B 0 0 z52 := sf_eqL c54 sf_k0
      refine pm_R_lo pm_M243 (pc' := 43) rfl rfl rfl ?_
      refine pm_R_op pm_M243 (pc' := 44) (st' := [.int (-1), .int a3]) rfl rfl rfl ?_
      refine pm_R_icmp pm_M243 (t := 60) (pc' := 47) rfl rfl rfl (fun c56 => ?_) (fun c56 => ?_)
      · have B57 : sf_B (-1) (-1) a3 := sf_eqL c56 sf_kn1
        refine pm_R_op pm_M243 (pc' := 61) (st' := [.int 1]) rfl rfl rfl ?_
        refine pm_R_br pm_M243 (pc' := 65) rfl rfl ?_
        exact pm_R_ret pm_M243 (r := some (.int 1)) rfl rfl (K 1 m42 w43 h44 T45 F48 W50 (sf_weak sf_k1 (by decide) (by decide)))
      · have B58 : sf_B 0 9 a3 := sf_neL0 c56 sf_kn1 Ba3
        refine pm_R_lo pm_M243 (pc' := 48) rfl rfl rfl ?_
        refine pm_R_lo pm_M243 (pc' := 50) rfl rfl rfl ?_
        refine pm_R_cv pm_M243 (pc' := 53) (a := 41) (ra := [.int a3]) (rest := []) (ls' := [.ref 41, .int a3]) rfl rfl (Or.inl rfl) pm_M234 T45.2.1 rfl (by decide) (Nat.lt_of_lt_of_le (by decide) T45.1) rfl rfl (Nat.le_of_ble_eq_true rfl) rfl rfl ?_
        refine pm_R_lo pm_M234 (pc' := 1) rfl rfl rfl ?_
        refine pm_R_lo pm_M234 (pc' := 2) rfl rfl rfl ?_
        refine pm_R_cv pm_M234 (pc' := 5) (a := 41) (ra := [.int a3]) (rest := []) (ls' := [.ref 41, .int a3, pm_no, pm_no, pm_no, pm_no]) rfl rfl (Or.inl rfl) pm_M235 T45.2.1 rfl (by decide) (Nat.lt_of_lt_of_le (by decide) T45.1) rfl rfl (Nat.le_of_ble_eq_true rfl) rfl rfl ?_
        refine rf_c235 (d := d + 4) T45 (sf_weak B58 (by decide) (by decide)) (fun m61 w62 h63 T64 F65 W66 => ?_)
        have F67 := F48.trans F65 (by decide)
        have B68 : sf_B 1 4 (m61 24) := by rw [W66 24 (by decide)]; exact B49
        have W69 : rf_W [24, 26] m m61 := W50.trans W66 (by decide)
        show pm_R _ 234 5 [.ref 41, .int a3] [] _ _
        refine pm_R_lo pm_M234 (pc' := 6) rfl rfl rfl ?_
        refine pm_R_cv pm_M234 (pc' := 9) (a := 41) (ra := []) (rest := []) (ls' := [.ref 41]) rfl rfl (Or.inl rfl) pm_M215 T64.2.1 rfl (by decide) (Nat.lt_of_lt_of_le (by decide) T64.1) rfl rfl (Nat.le_of_ble_eq_true rfl) rfl rfl ?_
        refine rf_c215 (d := d + 0) T64 (sf_weak B68 (by decide) (by decide)) (fun r70 m72 w73 h74 T75 F76 W77 => ?_)
        have F78 := F67.trans F76 (by decide)
        have B79 : sf_B 1 4 (m72 24) := by rw [W77 24 (by decide)]; exact B68
        have W80 : rf_W [24, 26] m m72 := W69.trans W77 (by decide)
        show pm_R _ 234 9 [.ref 41, .int a3] [.long r70] _ _
        refine pm_R_ret pm_M234 (r := some (.long r70)) rfl rfl ?_
        show pm_R _ 243 53 [.ref 41, .int a0, .int a1, .int a2, .int a3] [.long r70] _ _
        refine pm_R_op pm_M243 (pc' := 54) (st' := [.long 1, .long r70]) rfl rfl rfl ?_
        refine pm_R_lo pm_M243 (pc' := 55) rfl rfl rfl ?_
        refine sf_R_lany pm_M243 (pc' := 56) (st := [.long r70]) rfl rfl rfl (fun z81 => ?_)
        refine sf_R_lcmp pm_M243 (pc' := 57) rfl rfl (fun z82 e83 => ?_)
        refine pm_R_ifc pm_M243 (t := 64) (pc' := 60) rfl rfl rfl (fun c84 => ?_) (fun c84 => ?_)
        · have k85 := sf_lneC e83 c84
          refine pm_R_op pm_M243 (pc' := 65) (st' := [.int 0]) rfl rfl rfl ?_
          exact pm_R_ret pm_M243 (r := some (.int 0)) rfl rfl (K 0 m72 w73 h74 T75 F78 W80 (sf_weak sf_k0 (by decide) (by decide)))
        · have B86 : sf_B 0 0 z82 := sf_eqL (Classical.not_not.mp c84) sf_k0
          refine pm_R_op pm_M243 (pc' := 61) (st' := [.int 1]) rfl rfl rfl ?_
          refine pm_R_br pm_M243 (pc' := 65) rfl rfl ?_
          exact pm_R_ret pm_M243 (r := some (.int 1)) rfl rfl (K 1 m72 w73 h74 T75 F78 W80 (sf_weak sf_k1 (by decide) (by decide)))
    · have k87 := sf_lneC e53 c54
      refine pm_R_op pm_M243 (pc' := 40) (st' := [.int 0]) rfl rfl rfl ?_
      exact pm_R_ret pm_M243 (r := some (.int 0)) rfl rfl (K 0 m42 w43 h44 T45 F48 W50 (sf_weak sf_k0 (by decide) (by decide)))

set_option maxRecDepth 100000 in
set_option maxHeartbeats 4000000 in
/-- SilentTableModel.findBrief -/
theorem rf_c241 {d : Nat} {m : Nat → Int32} {w : Int64} {h : pm_H} {Q : Option Value → pm_H → Prop} {a0 : Int32} {a1 : Int32} (T : rf_T m w h) (Ba0 : sf_B 0 49 a0) (Ba1 : sf_B (-1) 9 a1) (K : ∀ (r : Int32) (m' : Nat → Int32) (w' : Int64) (h' : pm_H), rf_T m' w' h' → rf_G [41, 53, 54, 55, 66] h h' → rf_W [24, 26] m m' → sf_B 0 1 r → Q (some (.int r)) h') : pm_R (d + 8) 241 0 [.ref 41, .int a0, .int a1, pm_no, pm_no] [] h Q := by
  refine pm_R_op pm_M241 (pc' := 1) (st' := [.int 1]) rfl rfl rfl ?_
  refine pm_R_lo pm_M241 (pc' := 2) (ls' := [.ref 41, .int a0, .int a1, .int 1, pm_no]) (st' := []) rfl rfl rfl ?_
  have L_1325 : ∀ (N : Nat) (h_1325 : pm_H) (m_1325 : Nat → Int32) (w_1325 : Int64) (x3_1325 : Int32) (g4_1325 : Value), rf_T m_1325 w_1325 h_1325 → rf_G [41, 53, 54, 55, 66] h h_1325 → rf_W [24, 26] m m_1325 → sf_B 1 5 x3_1325 → g4_1325.category = 1 → (5 - x3_1325.toInt).toNat = N → pm_R (d + 8) 241 2 [.ref 41, .int a0, .int a1, .int x3_1325, g4_1325] [] h_1325 Q := by
    intro N
    induction N using Nat.strongRecOn with
    | ind N ih_1325 =>
      intro h_1325 m_1325 w_1325 x3_1325 g4_1325 T_1325 F_1325 W_1325 Bx3_1325 Cg4_1325 hN_1325
      have W1328 : rf_W [24, 26] m m_1325 := (rf_W.refl [24, 26] m).trans W_1325 (by decide)
      refine pm_R_lo pm_M241 (pc' := 3) rfl rfl rfl ?_
      refine pm_R_op pm_M241 (pc' := 4) (st' := [.int 4, .int x3_1325]) rfl rfl rfl ?_
      refine pm_R_icmp pm_M241 (t := 52) (pc' := 7) rfl rfl rfl (fun c1329 => ?_) (fun c1329 => ?_)
      · have B1330 : sf_B 5 5 x3_1325 := sf_ltR c1329 sf_k4 Bx3_1325
        refine pm_R_op pm_M241 (pc' := 53) (st' := [.int 0]) rfl rfl rfl ?_
        exact pm_R_ret pm_M241 (r := some (.int 0)) rfl rfl (K 0 m_1325 w_1325 h_1325 T_1325 F_1325 W1328 (sf_weak sf_k0 (by decide) (by decide)))
      · have B1331 : sf_B 1 4 x3_1325 := sf_leL (Int32.not_lt.mp c1329) Bx3_1325 sf_k4
        refine pm_R_op pm_M241 (pc' := 8) (st' := [.int 0]) rfl rfl rfl ?_
        refine pm_R_lo pm_M241 (pc' := 10) (ls' := [.ref 41, .int a0, .int a1, .int x3_1325, .int 0]) (st' := []) rfl rfl rfl ?_
        have L_1557 : ∀ (N : Nat) (h_1557 : pm_H) (m_1557 : Nat → Int32) (w_1557 : Int64) (x4_1557 : Int32), rf_T m_1557 w_1557 h_1557 → rf_G [41, 53, 54, 55, 66] h h_1557 → rf_W [24, 26] m_1325 m_1557 → sf_B 0 2147483647 x4_1557 → (2147483647 - x4_1557.toInt).toNat = N → pm_R (d + 8) 241 10 [.ref 41, .int a0, .int a1, .int x3_1325, .int x4_1557] [] h_1557 Q := by
          intro N
          induction N using Nat.strongRecOn with
          | ind N ih_1557 =>
            intro h_1557 m_1557 w_1557 x4_1557 T_1557 F_1557 W_1557 Bx4_1557 hN_1557
            have W1560 : rf_W [24, 26] m m_1557 := W1328.trans W_1557 (by decide)
            have W1561 : rf_W [24, 26] m m_1557 := W_1325.trans W_1557 (by decide)
            refine pm_R_lo pm_M241 (pc' := 12) rfl rfl rfl ?_
            refine pm_R_lo pm_M241 (pc' := 13) rfl rfl rfl ?_
            refine pm_R_cs pm_M241 (pc' := 16) (ra := [.int x3_1325]) (rest := [.int x4_1557]) (ls' := [.int x3_1325, pm_no, pm_no]) rfl rfl (Or.inl rfl) pm_M242 rfl rfl (Nat.le_of_ble_eq_true rfl) rfl rfl ?_
            refine rf_c242 (d := d + 7) (sf_weak B1331 (by decide) (by decide)) (fun r1562 => ?_)
            show pm_R _ 241 16 [.ref 41, .int a0, .int a1, .int x3_1325, .int x4_1557] [.int r1562, .int x4_1557] _ _
            refine pm_R_icmp pm_M241 (t := 46) (pc' := 19) rfl rfl rfl (fun c1570 => ?_) (fun c1570 => ?_)
            · skip
              refine sf_R_iinc pm_M241 (pc' := 49) (ls' := fun z => [.ref 41, .int a0, .int a1, .int z, .int x4_1557]) rfl B1331 rfl (by decide) (by decide) (by decide) (fun _ => rfl) rfl (fun z1571 e1572 B1573 => ?_)
              show pm_R _ 241 49 [.ref 41, .int a0, .int a1, .int z1571, .int x4_1557] [] _ _
              refine pm_R_br pm_M241 (pc' := 2) rfl rfl ?_
              exact ih_1325 _ (sf_up hN_1325 e1572 B1331 (by decide) (by decide)) h_1557 m_1557 w_1557 z1571 (.int x4_1557) T_1557 F_1557 W1561 (sf_weak B1573 (by decide) (by decide)) rfl rfl
            · have B1574 : sf_B 0 2147483646 x4_1557 := sf_ltL (Int32.not_le.mp c1570) Bx4_1557 (sf_any r1562)
              have B1575 : sf_B 1 2147483647 r1562 := sf_ltR (Int32.not_le.mp c1570) Bx4_1557 (sf_any r1562)
              refine pm_R_lo pm_M241 (pc' := 20) rfl rfl rfl ?_
              refine pm_R_lo pm_M241 (pc' := 21) rfl rfl rfl ?_
              refine pm_R_lo pm_M241 (pc' := 23) rfl rfl rfl ?_
              refine pm_R_lo pm_M241 (pc' := 24) rfl rfl rfl ?_
              refine pm_R_lo pm_M241 (pc' := 25) rfl rfl rfl ?_
              refine pm_R_cv pm_M241 (pc' := 28) (a := 41) (ra := [.int a1, .int a0, .int x4_1557, .int x3_1325]) (rest := []) (ls' := [.ref 41, .int x3_1325, .int x4_1557, .int a0, .int a1]) rfl rfl (Or.inl rfl) pm_M243 T_1557.2.1 rfl (by decide) (Nat.lt_of_lt_of_le (by decide) T_1557.1) rfl rfl (Nat.le_of_ble_eq_true rfl) rfl rfl ?_
              refine rf_c243 (d := d + 0) T_1557 B1331 (sf_weak B1574 (by decide) (by decide)) Ba0 Ba1 (fun r1576 m1578 w1579 h1580 T1581 F1582 W1583 B1577 => ?_)
              have F1584 := F_1557.trans F1582 (by decide)
              have W1585 : rf_W [24, 26] m m1578 := W1560.trans W1583 (by decide)
              have W1586 : rf_W [24, 26] m m1578 := W1561.trans W1583 (by decide)
              have W1587 : rf_W [24, 26] m_1325 m1578 := W_1557.trans W1583 (by decide)
              show pm_R _ 241 28 [.ref 41, .int a0, .int a1, .int x3_1325, .int x4_1557] [.int r1576] _ _
              refine pm_R_ifc pm_M241 (t := 40) (pc' := 31) rfl rfl rfl (fun c1588 => ?_) (fun c1588 => ?_)
              · have B1589 : sf_B 0 0 r1576 := sf_eqL c1588 sf_k0
                refine sf_R_iinc pm_M241 (pc' := 43) (ls' := fun z => [.ref 41, .int a0, .int a1, .int x3_1325, .int z]) rfl B1574 rfl (by decide) (by decide) (by decide) (fun _ => rfl) rfl (fun z1590 e1591 B1592 => ?_)
                show pm_R _ 241 43 [.ref 41, .int a0, .int a1, .int x3_1325, .int z1590] [] _ _
                refine pm_R_br pm_M241 (pc' := 10) rfl rfl ?_
                exact ih_1557 _ (sf_up hN_1557 e1591 B1574 (by decide) (by decide)) h1580 m1578 w1579 z1590 T1581 F1584 W1587 (sf_weak B1592 (by decide) (by decide)) rfl
              · have B1593 : sf_B 1 1 r1576 := sf_neL0 c1588 sf_k0 B1577
                refine pm_R_lo pm_M241 (pc' := 32) rfl rfl rfl ?_
                refine pm_R_lo pm_M241 (pc' := 33) rfl rfl rfl ?_
                refine pm_R_lo pm_M241 (pc' := 35) rfl rfl rfl ?_
                refine pm_R_cv pm_M241 (pc' := 38) (a := 41) (ra := [.int x4_1557, .int x3_1325]) (rest := []) (ls' := [.ref 41, .int x3_1325, .int x4_1557, pm_no, pm_no]) rfl rfl (Or.inl rfl) pm_M245 T1581.2.1 rfl (by decide) (Nat.lt_of_lt_of_le (by decide) T1581.1) rfl rfl (Nat.le_of_ble_eq_true rfl) rfl rfl ?_
                refine rf_c245 (d := d + 7) T1581 B1331 (sf_weak B1574 (by decide) (by decide)) (fun m1596 w1597 h1598 T1599 F1600 W1601 => ?_)
                have F1602 := F1584.trans F1600 (by decide)
                have W1603 : rf_W [24, 26] m m1596 := W1585.trans W1601 (by decide)
                have W1604 : rf_W [24, 26] m m1596 := W1586.trans W1601 (by decide)
                have W1605 : rf_W [24, 26] m_1325 m1596 := W1587.trans W1601 (by decide)
                show pm_R _ 241 38 [.ref 41, .int a0, .int a1, .int x3_1325, .int x4_1557] [] _ _
                refine pm_R_op pm_M241 (pc' := 39) (st' := [.int 1]) rfl rfl rfl ?_
                exact pm_R_ret pm_M241 (r := some (.int 1)) rfl rfl (K 1 m1596 w1597 h1598 T1599 F1602 W1603 (sf_weak sf_k1 (by decide) (by decide)))
        exact L_1557 _ h_1325 m_1325 w_1325 0 T_1325 F_1325 (rf_W.refl _ _) (sf_weak sf_k0 (by decide) (by decide)) rfl
  exact L_1325 _ h m w 1 (pm_no) T (rf_G.refl [41, 53, 54, 55, 66] h) (rf_W.refl _ _) (sf_weak sf_k1 (by decide) (by decide)) rfl rfl

theorem sf_aux15 (v0 v1 : Int) (q0 : v0 = 152 * v1) : v0 = 152 * v1 + 0 := by omega
theorem sf_aux16 (v0 v1 v2 : Int) (q0 : v0 = 152 * v1) (q1 : v2 = v0 + 1) : v2 = 152 * v1 + 1 := by omega
theorem sf_aux17 (v0 v1 v2 v3 v4 v5 v6 : Int) (q0 : v0 = 152 * v1) (q1 : v2 = v0 + 2) (q2 : v3 = 3 * v4) (q3 : v5 = v2 + v3) (q4 : v6 = v5 + 1) : v6 = 152 * v1 + 3 * v4 + 3 := by omega
theorem sf_aux18 (v0 v1 v2 v3 v4 v5 v6 : Int) (q0 : v0 = 152 * v1) (q1 : v2 = v0 + 2) (q2 : v3 = 3 * v4) (q3 : v5 = v2 + v3) (q4 : v6 = v5 + 0) : v6 = 152 * v1 + 3 * v4 + 2 := by omega
theorem sf_aux19 (v0 v1 v2 v3 v4 v5 v6 : Int) (q0 : v0 = 152 * v1) (q1 : v2 = v0 + 2) (q2 : v3 = 3 * v4) (q3 : v5 = v2 + v3) (q4 : v6 = v5 + 2) : v6 = 152 * v1 + 3 * v4 + 4 := by omega
set_option maxRecDepth 100000 in
set_option maxHeartbeats 4000000 in
/-- SilentTableModel.layMeal -/
theorem rf_c254 {d : Nat} {m : Nat → Int32} {w : Int64} {h : pm_H} {Q : Option Value → pm_H → Prop} {a0 : Int32} (T : rf_T m w h)  (K : ∀ (r : Int32) (m' : Nat → Int32) (w' : Int64) (h' : pm_H), rf_T m' w' h' → rf_G [41, 67, 68] h h' → rf_W [42, 43, 44] m m' → sf_B 0 1 r → Q (some (.int r)) h') : pm_R (d + 2) 254 0 [.ref 41, .int a0, pm_no, pm_no, pm_no, pm_no] [] h Q := by
  refine pm_R_lo pm_M254 (pc' := 1) rfl rfl rfl ?_
  refine pm_R_op pm_M254 (pc' := 2) (st' := [.int 2, .ref 41]) rfl rfl rfl ?_
  refine pm_R_lo pm_M254 (pc' := 3) rfl rfl rfl ?_
  refine pm_R_cv pm_M254 (pc' := 6) (a := 41) (ra := [.int a0, .int 2]) (rest := []) (ls' := [.ref 41, .int 2, .int a0]) rfl rfl (Or.inl rfl) pm_M177 T.2.1 rfl (by decide) (Nat.lt_of_lt_of_le (by decide) T.1) rfl rfl (Nat.le_of_ble_eq_true rfl) rfl rfl ?_
  refine pm_R_lo pm_M177 (pc' := 1) rfl rfl rfl ?_
  refine pm_R_op pm_M177 (pc' := 2) (st' := [.int 0, .int a0]) rfl rfl rfl ?_
  refine pm_R_lo pm_M177 (pc' := 3) rfl rfl rfl ?_
  refine rf_R_get pm_M177 T (pc' := 6) (v := .ref 46) rfl rfl rfl rfl ?_
  refine pm_R_lo pm_M177 (pc' := 7) rfl rfl rfl ?_
  obtain ⟨f1, e2, b3⟩ := T.2.2.2.1 46 (by decide) (by decide)
  refine rf_R_ild pm_M177 T (pc' := 8) rfl e2 (by decide) rfl rfl (fun z4 ez5 => ?_)
  have B6 : sf_B 0 2 z4 := ez5 ▸ (b3 2)
  refine pm_R_op pm_M177 (pc' := 9) (st' := [.int 1, .int z4, .int 0, .int a0]) rfl rfl rfl ?_
  refine sf_R_isub pm_M177 (pc' := 10) rfl rfl B6 sf_k1 (by decide) (by decide) (fun z7 e8 B9 => ?_)
  refine pm_R_cs pm_M177 (pc' := 13) (ra := [.int z7, .int 0, .int a0]) (rest := []) (ls' := [.int a0, .int 0, .int z7]) rfl rfl (Or.inl rfl) pm_M174 rfl rfl (Nat.le_of_ble_eq_true rfl) rfl rfl ?_
  refine pm_R_lo pm_M174 (pc' := 1) rfl rfl rfl ?_
  refine pm_R_lo pm_M174 (pc' := 2) rfl rfl rfl ?_
  refine pm_R_icmp pm_M174 (t := 14) (pc' := 5) rfl rfl rfl (fun c10 => ?_) (fun c10 => ?_)
  · have B11 : sf_B (-2147483648) (-1) a0 := sf_ltL c10 (sf_any a0) sf_k0
    refine pm_R_op pm_M174 (pc' := 15) (st' := [.int 0]) rfl rfl rfl ?_
    refine pm_R_ret pm_M174 (r := some (.int 0)) rfl rfl ?_
    show pm_R _ 177 13 [.ref 41, .int 2, .int a0] [.int 0] _ _
    refine pm_R_ret pm_M177 (r := some (.int 0)) rfl rfl ?_
    show pm_R _ 254 6 [.ref 41, .int a0, pm_no, pm_no, pm_no, pm_no] [.int 0] _ _
    refine pm_R_br pm_M254 (pc' := 9) (st' := []) rfl rfl ?_
    refine pm_R_op pm_M254 (pc' := 10) (st' := [.int 0]) rfl rfl rfl ?_
    exact pm_R_ret pm_M254 (r := some (.int 0)) rfl rfl (K 0 m w h T (rf_G.refl [41, 67, 68] h) (rf_W.refl [42, 43, 44] m) (sf_weak sf_k0 (by decide) (by decide)))
  · have B12 : sf_B 0 2147483647 a0 := sf_leR (Int32.not_lt.mp c10) sf_k0 (sf_any a0)
    refine pm_R_lo pm_M174 (pc' := 6) rfl rfl rfl ?_
    refine pm_R_lo pm_M174 (pc' := 7) rfl rfl rfl ?_
    refine pm_R_icmp pm_M174 (t := 14) (pc' := 10) rfl rfl rfl (fun c13 => ?_) (fun c13 => ?_)
    · skip
      refine pm_R_op pm_M174 (pc' := 15) (st' := [.int 0]) rfl rfl rfl ?_
      refine pm_R_ret pm_M174 (r := some (.int 0)) rfl rfl ?_
      show pm_R _ 177 13 [.ref 41, .int 2, .int a0] [.int 0] _ _
      refine pm_R_ret pm_M177 (r := some (.int 0)) rfl rfl ?_
      show pm_R _ 254 6 [.ref 41, .int a0, pm_no, pm_no, pm_no, pm_no] [.int 0] _ _
      refine pm_R_br pm_M254 (pc' := 9) (st' := []) rfl rfl ?_
      refine pm_R_op pm_M254 (pc' := 10) (st' := [.int 0]) rfl rfl rfl ?_
      exact pm_R_ret pm_M254 (r := some (.int 0)) rfl rfl (K 0 m w h T (rf_G.refl [41, 67, 68] h) (rf_W.refl [42, 43, 44] m) (sf_weak sf_k0 (by decide) (by decide)))
    · have B14 : sf_B 0 1 a0 := sf_leL (Int32.not_lt.mp c13) B12 B9
      have B15 : sf_B 0 1 z7 := sf_leR (Int32.not_lt.mp c13) B12 B9
      refine pm_R_op pm_M174 (pc' := 11) (st' := [.int 1]) rfl rfl rfl ?_
      refine pm_R_br pm_M174 (pc' := 15) rfl rfl ?_
      refine pm_R_ret pm_M174 (r := some (.int 1)) rfl rfl ?_
      show pm_R _ 177 13 [.ref 41, .int 2, .int a0] [.int 1] _ _
      refine pm_R_ret pm_M177 (r := some (.int 1)) rfl rfl ?_
      show pm_R _ 254 6 [.ref 41, .int a0, pm_no, pm_no, pm_no, pm_no] [.int 1] _ _
      refine pm_R_br pm_M254 (pc' := 11) (st' := []) rfl rfl ?_
      refine pm_R_lo pm_M254 (pc' := 12) rfl rfl rfl ?_
      refine pm_R_lo pm_M254 (pc' := 13) rfl rfl rfl ?_
      refine rf_R_put pm_M254 T (pc' := 16) rfl rfl rfl (by decide) rfl rfl B14 rfl rfl (fun h16 m19 em20 T17 F18 => ?_)
      have F21 := (rf_G.refl [41, 67, 68] h).trans F18 (by decide)
      have B22 : sf_B 0 1 (m19 44) := by rw [em20]; exact B14
      have ek23 : (m19 44).toInt = (a0).toInt := by rw [em20]; rfl
      have W24 : rf_W [42, 43, 44] m m19 := by rw [em20]; exact (rf_W.refl [42, 43, 44] m).put (by decide)
      refine pm_R_lo pm_M254 (pc' := 17) rfl rfl rfl ?_
      refine pm_R_lo pm_M254 (pc' := 18) rfl rfl rfl ?_
      refine rf_R_get pm_M254 T17 (pc' := 21) (v := .ref 49) rfl rfl rfl rfl ?_
      refine pm_R_op pm_M254 (pc' := 24) (st' := [.int 152, .ref 49, .ref 41]) rfl rfl rfl ?_
      refine pm_R_lo pm_M254 (pc' := 25) rfl rfl rfl ?_
      refine sf_R_imul pm_M254 (pc' := 26) rfl rfl sf_k152 B14 (by decide) (by decide) (by decide) (fun z25 e26 B27 => ?_)
      obtain ⟨f28, e29, b30⟩ := T17.2.2.2.1 49 (by decide) (by decide)
      refine rf_R_ild pm_M254 T17 (pc' := 27) rfl e29 (by decide) (sf_in B27 (by decide) (by decide)) rfl (fun z31 ez32 => ?_)
      have e33 : (z25).toInt = 152 * (a0).toInt + 0 := (sf_aux15 _ _ e26)
      have B34 : sf_B 0 6 z31 := ez32 ▸ rf_p49a b30 e33 B14 (by decide)
      refine rf_R_put pm_M254 T17 (pc' := 30) rfl rfl rfl (by decide) rfl rfl B34 rfl rfl (fun h35 m38 em39 T36 F37 => ?_)
      have F40 := F21.trans F37 (by decide)
      have B41 : sf_B 0 6 (m38 42) := by rw [em39]; exact B34
      have ek42 : (m38 42).toInt = (z31).toInt := by rw [em39]; rfl
      have W43 : rf_W [42, 43, 44] m m38 := by rw [em39]; exact W24.put (by decide)
      refine pm_R_lo pm_M254 (pc' := 31) rfl rfl rfl ?_
      refine pm_R_lo pm_M254 (pc' := 32) rfl rfl rfl ?_
      refine rf_R_get pm_M254 T36 (pc' := 35) (v := .ref 49) rfl rfl rfl rfl ?_
      refine pm_R_op pm_M254 (pc' := 38) (st' := [.int 152, .ref 49, .ref 41]) rfl rfl rfl ?_
      refine pm_R_lo pm_M254 (pc' := 39) rfl rfl rfl ?_
      refine sf_R_imulV pm_M254 (pc' := 40) rfl rfl sf_k152 B14 (by decide) (by decide) (by decide) e26 ?_
      refine pm_R_op pm_M254 (pc' := 41) (st' := [.int 1, .int z25, .ref 49, .ref 41]) rfl rfl rfl ?_
      refine sf_R_iadd pm_M254 (pc' := 42) rfl rfl B27 sf_k1 (by decide) (by decide) (fun z44 e45 B46 => ?_)
      have e47 := (F37.cell (by decide) e29)
      refine rf_R_ild pm_M254 T36 (pc' := 43) rfl e47 (by decide) (sf_in B46 (by decide) (by decide)) rfl (fun z48 ez49 => ?_)
      have e50 : (z44).toInt = 152 * (a0).toInt + 1 := (sf_aux16 _ _ _ e26 e45)
      have B51 : sf_B 0 50 z48 := ez49 ▸ rf_p49b b30 e50 B14 (by decide)
      refine rf_R_put pm_M254 T36 (pc' := 46) rfl rfl rfl (by decide) rfl rfl B51 rfl rfl (fun h52 m55 em56 T53 F54 => ?_)
      have F57 := F40.trans F54 (by decide)
      have B58 : sf_B 0 50 (m55 43) := by rw [em56]; exact B51
      have ek59 : (m55 43).toInt = (z48).toInt := by rw [em56]; rfl
      have W60 : rf_W [42, 43, 44] m m55 := by rw [em56]; exact W43.put (by decide)
      refine pm_R_op pm_M254 (pc' := 47) (st' := [.int 0]) rfl rfl rfl ?_
      refine pm_R_lo pm_M254 (pc' := 48) (ls' := [.ref 41, .int a0, .int 0, pm_no, pm_no, pm_no]) (st' := []) rfl rfl rfl ?_
      have L_12310 : ∀ (N : Nat) (h_12310 : pm_H) (m_12310 : Nat → Int32) (w_12310 : Int64) (x2_12310 : Int32), rf_T m_12310 w_12310 h_12310 → rf_G [41, 67, 68] h h_12310 → rf_W [] m55 m_12310 → sf_B 0 6 x2_12310 → (6 - x2_12310.toInt).toNat = N → pm_R (d + 2) 254 48 [.ref 41, .int a0, .int x2_12310, pm_no, pm_no, pm_no] [] h_12310 Q := by
        intro N
        induction N using Nat.strongRecOn with
        | ind N ih_12310 =>
          intro h_12310 m_12310 w_12310 x2_12310 T_12310 F_12310 W_12310 Bx2_12310 hN_12310
          have W12313 : rf_W [42, 43, 44] m m_12310 := W60.trans W_12310 (by decide)
          refine pm_R_lo pm_M254 (pc' := 49) rfl rfl rfl ?_
          refine pm_R_op pm_M254 (pc' := 51) (st' := [.int 6, .int x2_12310]) rfl rfl rfl ?_
          refine pm_R_icmp pm_M254 (t := 67) (pc' := 54) rfl rfl rfl (fun c12314 => ?_) (fun c12314 => ?_)
          · have B12315 : sf_B 6 6 x2_12310 := sf_leR c12314 sf_k6 Bx2_12310
            refine pm_R_op pm_M254 (pc' := 68) (st' := [.int 0]) rfl rfl rfl ?_
            refine pm_R_lo pm_M254 (pc' := 69) (ls' := [.ref 41, .int a0, .int 0, pm_no, pm_no, pm_no]) (st' := []) rfl rfl rfl ?_
            have L_18406 : ∀ (N : Nat) (h_18406 : pm_H) (m_18406 : Nat → Int32) (w_18406 : Int64) (x2_18406 : Int32) (g3_18406 : Value) (g4_18406 : Value) (g5_18406 : Value), rf_T m_18406 w_18406 h_18406 → rf_G [41, 67, 68] h h_18406 → rf_W [] m_12310 m_18406 → sf_B 0 50 x2_18406 → g3_18406.category = 1 → g4_18406.category = 1 → g5_18406.category = 1 → (50 - x2_18406.toInt).toNat = N → pm_R (d + 2) 254 69 [.ref 41, .int a0, .int x2_18406, g3_18406, g4_18406, g5_18406] [] h_18406 Q := by
              intro N
              induction N using Nat.strongRecOn with
              | ind N ih_18406 =>
                intro h_18406 m_18406 w_18406 x2_18406 g3_18406 g4_18406 g5_18406 T_18406 F_18406 W_18406 Bx2_18406 Cg3_18406 Cg4_18406 Cg5_18406 hN_18406
                have W18409 : rf_W [42, 43, 44] m m_18406 := W12313.trans W_18406 (by decide)
                have W18410 : rf_W [] m55 m_18406 := W_12310.trans W_18406 (by decide)
                refine pm_R_lo pm_M254 (pc' := 70) rfl rfl rfl ?_
                refine pm_R_lo pm_M254 (pc' := 71) rfl rfl rfl ?_
                have B18411 : sf_B 0 50 (m_18406 43) := T_18406.2.2.1 43
                refine rf_R_get pm_M254 T_18406 (pc' := 74) (v := .int (m_18406 43)) rfl rfl rfl rfl ?_
                refine pm_R_icmp pm_M254 (t := 214) (pc' := 77) rfl rfl rfl (fun c18412 => ?_) (fun c18412 => ?_)
                · skip
                  refine pm_R_op pm_M254 (pc' := 215) (st' := [.int 1]) (pm_q254_2 (Nat.le_of_ble_eq_true rfl)) rfl rfl ?_
                  exact pm_R_ret pm_M254 (r := some (.int 1)) (pm_q254_2 (Nat.le_of_ble_eq_true rfl)) rfl (K 1 m_18406 w_18406 h_18406 T_18406 F_18406 W18409 (sf_weak sf_k1 (by decide) (by decide)))
                · have B18413 : sf_B 0 49 x2_18406 := sf_ltL (Int32.not_le.mp c18412) Bx2_18406 B18411
                  have B18414 : sf_B 1 50 (m_18406 43) := sf_ltR (Int32.not_le.mp c18412) Bx2_18406 B18411
                  refine pm_R_lo pm_M254 (pc' := 78) rfl rfl rfl ?_
                  refine pm_R_lo pm_M254 (pc' := 79) rfl rfl rfl ?_
                  refine pm_R_op pm_M254 (pc' := 80) (st' := [.int 1, .int x2_18406, .ref 41]) rfl rfl rfl ?_
                  refine pm_R_cv pm_M254 (pc' := 83) (a := 41) (ra := [.int 1, .int x2_18406]) (rest := []) (ls' := [.ref 41, .int x2_18406, .int 1]) rfl rfl (Or.inl rfl) pm_M255 T_18406.2.1 rfl (by decide) (Nat.lt_of_lt_of_le (by decide) T_18406.1) rfl rfl (Nat.le_of_ble_eq_true rfl) rfl rfl ?_
                  refine pm_R_lo pm_M255 (pc' := 1) rfl rfl rfl ?_
                  refine rf_R_get pm_M255 T_18406 (pc' := 4) (v := .ref 49) rfl rfl rfl rfl ?_
                  refine pm_R_op pm_M255 (pc' := 7) (st' := [.int 152, .ref 49]) rfl rfl rfl ?_
                  refine pm_R_lo pm_M255 (pc' := 8) rfl rfl rfl ?_
                  have B18415 : sf_B 0 1 (m_18406 44) := T_18406.2.2.1 44
                  refine rf_R_get pm_M255 T_18406 (pc' := 11) (v := .int (m_18406 44)) rfl rfl rfl rfl ?_
                  refine sf_R_imul pm_M255 (pc' := 12) rfl rfl sf_k152 B18415 (by decide) (by decide) (by decide) (fun z18416 e18417 B18418 => ?_)
                  refine pm_R_op pm_M255 (pc' := 13) (st' := [.int 2, .int z18416, .ref 49]) rfl rfl rfl ?_
                  refine sf_R_iadd pm_M255 (pc' := 14) rfl rfl B18418 sf_k2 (by decide) (by decide) (fun z18419 e18420 B18421 => ?_)
                  refine pm_R_op pm_M255 (pc' := 15) (st' := [.int 3, .int z18419, .ref 49]) rfl rfl rfl ?_
                  refine pm_R_lo pm_M255 (pc' := 16) rfl rfl rfl ?_
                  refine sf_R_imul pm_M255 (pc' := 17) rfl rfl sf_k3 B18413 (by decide) (by decide) (by decide) (fun z18422 e18423 B18424 => ?_)
                  refine sf_R_iadd pm_M255 (pc' := 18) rfl rfl B18421 B18424 (by decide) (by decide) (fun z18425 e18426 B18427 => ?_)
                  refine pm_R_lo pm_M255 (pc' := 19) rfl rfl rfl ?_
                  refine sf_R_iadd pm_M255 (pc' := 20) rfl rfl B18427 sf_k1 (by decide) (by decide) (fun z18428 e18429 B18430 => ?_)
                  obtain ⟨f18431, e18432, b18433⟩ := T_18406.2.2.2.1 49 (by decide) (by decide)
                  refine rf_R_ild pm_M255 T_18406 (pc' := 21) rfl e18432 (by decide) (sf_in B18430 (by decide) (by decide)) rfl (fun z18434 ez18435 => ?_)
                  have e18436 : (z18428).toInt = 152 * ((m_18406 44)).toInt + 3 * (x2_18406).toInt + 3 := (sf_aux17 _ _ _ _ _ _ _ e18417 e18420 e18423 e18426 e18429)
                  have B18437 : sf_B 0 5 z18434 := ez18435 ▸ rf_p49w b18433 e18436 B18415 B18413 (by decide) (by decide) (by decide)
                  refine pm_R_ret pm_M255 (r := some (.int z18434)) rfl (pm_ret_i _) ?_
                  show pm_R _ 254 83 [.ref 41, .int a0, .int x2_18406, g3_18406, g4_18406, g5_18406] [.int z18434] _ _
                  refine pm_R_lo pm_M254 (pc' := 84) (ls' := [.ref 41, .int a0, .int x2_18406, .int z18434, g4_18406, g5_18406]) (st' := []) rfl rfl rfl ?_
                  refine pm_R_lo pm_M254 (pc' := 85) rfl rfl rfl ?_
                  refine rf_R_get pm_M254 T_18406 (pc' := 88) (v := .ref 68) rfl rfl rfl rfl ?_
                  refine pm_R_lo pm_M254 (pc' := 89) rfl rfl rfl ?_
                  refine pm_R_op pm_M254 (pc' := 90) (st' := [.int 0, .int x2_18406, .ref 68]) rfl rfl rfl ?_
                  obtain ⟨f18438, e18439⟩ := T_18406.2.2.2.1 68 (by decide) (by decide)
                  refine rf_R_ist pm_M254 T_18406 (pc' := 91) rfl e18439 (by decide) (by decide) (sf_in B18413 (by decide) (by decide)) ⟨_, rfl⟩ rfl (fun h18441 T18442 F18443 e18444 => ?_)
                  have F18445 := F_18406.trans F18443 (by decide)
                  refine pm_R_op pm_M254 (pc' := 92) (st' := [.int 0]) rfl rfl rfl ?_
                  refine pm_R_lo pm_M254 (pc' := 94) (ls' := [.ref 41, .int a0, .int x2_18406, .int z18434, .int 0, g5_18406]) (st' := []) rfl rfl rfl ?_
                  have L_19623 : ∀ (N : Nat) (h_19623 : pm_H) (m_19623 : Nat → Int32) (w_19623 : Int64) (x4_19623 : Int32) (g5_19623 : Value), rf_T m_19623 w_19623 h_19623 → rf_G [41, 67, 68] h h_19623 → rf_W [] m_18406 m_19623 → sf_B 0 6 x4_19623 → g5_19623.category = 1 → (6 - x4_19623.toInt).toNat = N → pm_R (d + 2) 254 94 [.ref 41, .int a0, .int x2_18406, .int z18434, .int x4_19623, g5_19623] [] h_19623 Q := by
                    intro N
                    induction N using Nat.strongRecOn with
                    | ind N ih_19623 =>
                      intro h_19623 m_19623 w_19623 x4_19623 g5_19623 T_19623 F_19623 W_19623 Bx4_19623 Cg5_19623 hN_19623
                      have B19626 : sf_B 1 50 (m_19623 43) := by rw [W_19623 43 (by decide)]; exact B18414
                      have W19627 : rf_W [42, 43, 44] m m_19623 := W18409.trans W_19623 (by decide)
                      have W19628 : rf_W [] m55 m_19623 := W18410.trans W_19623 (by decide)
                      have W19629 : rf_W [] m_12310 m_19623 := W_18406.trans W_19623 (by decide)
                      refine pm_R_lo pm_M254 (pc' := 96) rfl rfl rfl ?_
                      refine pm_R_op pm_M254 (pc' := 98) (st' := [.int 6, .int x4_19623]) rfl rfl rfl ?_
                      refine pm_R_icmp pm_M254 (t := 208) (pc' := 101) (pm_q254_1 (Nat.le_of_ble_eq_true rfl)) rfl rfl (fun c19630 => ?_) (fun c19630 => ?_)
                      · have B19631 : sf_B 6 6 x4_19623 := sf_leR c19630 sf_k6 Bx4_19623
                        refine sf_R_iinc pm_M254 (pc' := 211) (ls' := fun z => [.ref 41, .int a0, .int z, .int z18434, .int x4_19623, g5_19623]) (pm_q254_2 (Nat.le_of_ble_eq_true rfl)) B18413 rfl (by decide) (by decide) (by decide) (fun _ => rfl) rfl (fun z19632 e19633 B19634 => ?_)
                        show pm_R _ 254 211 [.ref 41, .int a0, .int z19632, .int z18434, .int x4_19623, g5_19623] [] _ _
                        refine pm_R_br pm_M254 (pc' := 69) (pm_q254_2 (Nat.le_of_ble_eq_true rfl)) rfl ?_
                        exact ih_18406 _ (sf_up hN_18406 e19633 B18413 (by decide) (by decide)) h_19623 m_19623 w_19623 z19632 (.int z18434) (.int x4_19623) (g5_19623) T_19623 F_19623 W19629 (sf_weak B19634 (by decide) (by decide)) rfl rfl Cg5_19623 rfl
                      · have B19635 : sf_B 0 5 x4_19623 := sf_ltL (Int32.not_le.mp c19630) Bx4_19623 sf_k6
                        refine pm_R_lo pm_M254 (pc' := 102) (pm_q254_1 (Nat.le_of_ble_eq_true rfl)) rfl rfl ?_
                        refine rf_R_get pm_M254 T_19623 (pc' := 105) (v := .ref 67) (pm_q254_1 (Nat.le_of_ble_eq_true rfl)) rfl rfl rfl ?_
                        refine pm_R_op pm_M254 (pc' := 107) (st' := [.int 6, .ref 67]) (pm_q254_1 (Nat.le_of_ble_eq_true rfl)) rfl rfl ?_
                        refine pm_R_lo pm_M254 (pc' := 108) (pm_q254_1 (Nat.le_of_ble_eq_true rfl)) rfl rfl ?_
                        refine sf_R_imul pm_M254 (pc' := 109) (pm_q254_1 (Nat.le_of_ble_eq_true rfl)) rfl sf_k6 B18413 (by decide) (by decide) (by decide) (fun z19636 e19637 B19638 => ?_)
                        refine pm_R_lo pm_M254 (pc' := 111) (pm_q254_1 (Nat.le_of_ble_eq_true rfl)) rfl rfl ?_
                        refine sf_R_iadd pm_M254 (pc' := 112) (pm_q254_1 (Nat.le_of_ble_eq_true rfl)) rfl B19638 B19635 (by decide) (by decide) (fun z19639 e19640 B19641 => ?_)
                        obtain ⟨f19642, e19643⟩ := T_19623.2.2.2.1 67 (by decide) (by decide)
                        refine rf_R_ild pm_M254 T_19623 (pc' := 113) (pm_q254_1 (Nat.le_of_ble_eq_true rfl)) e19643 (by decide) (sf_in B19641 (by decide) (by decide)) rfl (fun z19645 ez19646 => ?_)
                        refine pm_R_lo pm_M254 (pc' := 115) (ls' := [.ref 41, .int a0, .int x2_18406, .int z18434, .int x4_19623, .int z19645]) (st' := []) (pm_q254_1 (Nat.le_of_ble_eq_true rfl)) rfl rfl ?_
                        refine pm_R_lo pm_M254 (pc' := 116) (pm_q254_1 (Nat.le_of_ble_eq_true rfl)) rfl rfl ?_
                        refine rf_R_get pm_M254 T_19623 (pc' := 119) (v := .ref 68) (pm_q254_1 (Nat.le_of_ble_eq_true rfl)) rfl rfl rfl ?_
                        refine pm_R_lo pm_M254 (pc' := 120) (pm_q254_1 (Nat.le_of_ble_eq_true rfl)) rfl rfl ?_
                        refine pm_R_op pm_M254 (pc' := 121) (st' := [.int x2_18406, .ref 68, .int x2_18406, .ref 68]) (pm_q254_1 (Nat.le_of_ble_eq_true rfl)) rfl rfl ?_
                        obtain ⟨f19647, e19648⟩ := T_19623.2.2.2.1 68 (by decide) (by decide)
                        refine rf_R_ild pm_M254 T_19623 (pc' := 122) (pm_q254_1 (Nat.le_of_ble_eq_true rfl)) e19648 (by decide) (sf_in B18413 (by decide) (by decide)) rfl (fun z19650 ez19651 => ?_)
                        refine pm_R_lo pm_M254 (pc' := 123) (pm_q254_1 (Nat.le_of_ble_eq_true rfl)) rfl rfl ?_
                        refine pm_R_lo pm_M254 (pc' := 124) (pm_q254_1 (Nat.le_of_ble_eq_true rfl)) rfl rfl ?_
                        refine pm_R_op pm_M254 (pc' := 125) (st' := [.int 0, .int x2_18406, .ref 41, .int z19650, .int x2_18406, .ref 68]) (pm_q254_1 (Nat.le_of_ble_eq_true rfl)) rfl rfl ?_
                        refine pm_R_cv pm_M254 (pc' := 128) (a := 41) (ra := [.int 0, .int x2_18406]) (rest := [.int z19650, .int x2_18406, .ref 68]) (ls' := [.ref 41, .int x2_18406, .int 0]) (pm_q254_1 (Nat.le_of_ble_eq_true rfl)) rfl (Or.inl rfl) pm_M255 T_19623.2.1 rfl (by decide) (Nat.lt_of_lt_of_le (by decide) T_19623.1) rfl rfl (Nat.le_of_ble_eq_true rfl) rfl rfl ?_
                        refine pm_R_lo pm_M255 (pc' := 1) rfl rfl rfl ?_
                        refine rf_R_get pm_M255 T_19623 (pc' := 4) (v := .ref 49) rfl rfl rfl rfl ?_
                        refine pm_R_op pm_M255 (pc' := 7) (st' := [.int 152, .ref 49]) rfl rfl rfl ?_
                        refine pm_R_lo pm_M255 (pc' := 8) rfl rfl rfl ?_
                        have B19652 : sf_B 0 1 (m_19623 44) := T_19623.2.2.1 44
                        refine rf_R_get pm_M255 T_19623 (pc' := 11) (v := .int (m_19623 44)) rfl rfl rfl rfl ?_
                        refine sf_R_imul pm_M255 (pc' := 12) rfl rfl sf_k152 B19652 (by decide) (by decide) (by decide) (fun z19653 e19654 B19655 => ?_)
                        refine pm_R_op pm_M255 (pc' := 13) (st' := [.int 2, .int z19653, .ref 49]) rfl rfl rfl ?_
                        refine sf_R_iadd pm_M255 (pc' := 14) rfl rfl B19655 sf_k2 (by decide) (by decide) (fun z19656 e19657 B19658 => ?_)
                        refine pm_R_op pm_M255 (pc' := 15) (st' := [.int 3, .int z19656, .ref 49]) rfl rfl rfl ?_
                        refine pm_R_lo pm_M255 (pc' := 16) rfl rfl rfl ?_
                        refine sf_R_imulV pm_M255 (pc' := 17) rfl rfl sf_k3 B18413 (by decide) (by decide) (by decide) e18423 ?_
                        refine sf_R_iadd pm_M255 (pc' := 18) rfl rfl B19658 B18424 (by decide) (by decide) (fun z19659 e19660 B19661 => ?_)
                        refine pm_R_lo pm_M255 (pc' := 19) rfl rfl rfl ?_
                        refine sf_R_iadd pm_M255 (pc' := 20) rfl rfl B19661 sf_k0 (by decide) (by decide) (fun z19662 e19663 B19664 => ?_)
                        obtain ⟨f19665, e19666, b19667⟩ := T_19623.2.2.2.1 49 (by decide) (by decide)
                        refine rf_R_ild pm_M255 T_19623 (pc' := 21) rfl e19666 (by decide) (sf_in B19664 (by decide) (by decide)) rfl (fun z19668 ez19669 => ?_)
                        have e19670 : (z19662).toInt = 152 * ((m_19623 44)).toInt + 3 * (x2_18406).toInt + 2 := (sf_aux18 _ _ _ _ _ _ _ e19654 e19657 e18423 e19660 e19663)
                        have B19671 : sf_B 0 2 z19668 := ez19669 ▸ rf_p49s b19667 e19670 B19652 B18413 (by decide) (by decide) (by decide)
                        refine pm_R_ret pm_M255 (r := some (.int z19668)) rfl (pm_ret_i _) ?_
                        show pm_R _ 254 128 [.ref 41, .int a0, .int x2_18406, .int z18434, .int x4_19623, .int z19645] [.int z19668, .int z19650, .int x2_18406, .ref 68] _ _
                        refine pm_R_op pm_M254 (pc' := 129) (st' := [.int 2, .int z19668, .int z19650, .int x2_18406, .ref 68]) (pm_q254_1 (Nat.le_of_ble_eq_true rfl)) rfl rfl ?_
                        refine pm_R_icmp pm_M254 (t := 145) (pc' := 132) (pm_q254_1 (Nat.le_of_ble_eq_true rfl)) rfl rfl (fun c19672 => ?_) (fun c19672 => ?_)
                        · have B19673 : sf_B 0 1 z19668 := sf_neH0 c19672 sf_k2 B19671
                          refine pm_R_op pm_M254 (pc' := 146) (st' := [.int 0, .int z19650, .int x2_18406, .ref 68]) (pm_q254_1 (Nat.le_of_ble_eq_true rfl)) rfl rfl ?_
                          refine sf_R_iany pm_M254 (pc' := 147) (st := [.int x2_18406, .ref 68]) (pm_q254_1 (Nat.le_of_ble_eq_true rfl)) rfl rfl (fun z19677 => ?_)
                          refine rf_R_ist pm_M254 T_19623 (pc' := 148) (pm_q254_1 (Nat.le_of_ble_eq_true rfl)) e19648 (by decide) (by decide) (sf_in B18413 (by decide) (by decide)) ⟨_, rfl⟩ rfl (fun h19678 T19679 F19680 e19681 => ?_)
                          have F19682 := F_19623.trans F19680 (by decide)
                          refine pm_R_lo pm_M254 (pc' := 149) (pm_q254_1 (Nat.le_of_ble_eq_true rfl)) rfl rfl ?_
                          refine rf_R_get pm_M254 T19679 (pc' := 152) (v := .ref 67) (pm_q254_1 (Nat.le_of_ble_eq_true rfl)) rfl rfl rfl ?_
                          refine pm_R_op pm_M254 (pc' := 154) (st' := [.int 6, .ref 67]) (pm_q254_1 (Nat.le_of_ble_eq_true rfl)) rfl rfl ?_
                          refine pm_R_lo pm_M254 (pc' := 155) (pm_q254_1 (Nat.le_of_ble_eq_true rfl)) rfl rfl ?_
                          refine pm_R_op pm_M254 (pc' := 156) (st' := [.int 1, .int x2_18406, .int 6, .ref 67]) (pm_q254_1 (Nat.le_of_ble_eq_true rfl)) rfl rfl ?_
                          refine sf_R_iadd pm_M254 (pc' := 157) (pm_q254_1 (Nat.le_of_ble_eq_true rfl)) rfl B18413 sf_k1 (by decide) (by decide) (fun z19683 e19684 B19685 => ?_)
                          refine sf_R_imul pm_M254 (pc' := 158) (pm_q254_1 (Nat.le_of_ble_eq_true rfl)) rfl sf_k6 B19685 (by decide) (by decide) (by decide) (fun z19686 e19687 B19688 => ?_)
                          refine pm_R_lo pm_M254 (pc' := 160) (pm_q254_1 (Nat.le_of_ble_eq_true rfl)) rfl rfl ?_
                          refine sf_R_iadd pm_M254 (pc' := 161) (pm_q254_1 (Nat.le_of_ble_eq_true rfl)) rfl B19688 B19635 (by decide) (by decide) (fun z19689 e19690 B19691 => ?_)
                          refine pm_R_lo pm_M254 (pc' := 163) (pm_q254_1 (Nat.le_of_ble_eq_true rfl)) rfl rfl ?_
                          refine pm_R_lo pm_M254 (pc' := 164) (pm_q254_1 (Nat.le_of_ble_eq_true rfl)) rfl rfl ?_
                          refine pm_R_icmp pm_M254 (t := 177) (pc' := 167) (pm_q254_1 (Nat.le_of_ble_eq_true rfl)) rfl rfl (fun c19692 => ?_) (fun c19692 => ?_)
                          · skip
                            refine pm_R_lo pm_M254 (pc' := 179) (pm_q254_1 (Nat.le_of_ble_eq_true rfl)) rfl rfl ?_
                            refine pm_R_br pm_M254 (pc' := 201) (pm_q254_1 (Nat.le_of_ble_eq_true rfl)) rfl ?_
                            have e19693 := (F19680.cell (by decide) e19643)
                            refine rf_R_ist pm_M254 T19679 (pc' := 202) (pm_q254_2 (Nat.le_of_ble_eq_true rfl)) e19693 (by decide) (by decide) (sf_in B19691 (by decide) (by decide)) ⟨_, rfl⟩ rfl (fun h19694 T19695 F19696 e19697 => ?_)
                            have F19698 := F19682.trans F19696 (by decide)
                            refine sf_R_iinc pm_M254 (pc' := 205) (ls' := fun z => [.ref 41, .int a0, .int x2_18406, .int z18434, .int z, .int z19645]) (pm_q254_2 (Nat.le_of_ble_eq_true rfl)) B19635 rfl (by decide) (by decide) (by decide) (fun _ => rfl) rfl (fun z19699 e19700 B19701 => ?_)
                            show pm_R _ 254 205 [.ref 41, .int a0, .int x2_18406, .int z18434, .int z19699, .int z19645] [] _ _
                            refine pm_R_br pm_M254 (pc' := 94) (pm_q254_2 (Nat.le_of_ble_eq_true rfl)) rfl ?_
                            exact ih_19623 _ (sf_up hN_19623 e19700 B19635 (by decide) (by decide)) h19694 m_19623 w_19623 z19699 (.int z19645) T19695 F19698 W_19623 (sf_weak B19701 (by decide) (by decide)) rfl rfl
                          · refine pm_R_lo pm_M254 (pc' := 168) (pm_q254_1 (Nat.le_of_ble_eq_true rfl)) rfl rfl ?_
                            refine pm_R_lo pm_M254 (pc' := 169) (pm_q254_1 (Nat.le_of_ble_eq_true rfl)) rfl rfl ?_
                            refine pm_R_op pm_M254 (pc' := 170) (st' := [.int 0, .int x2_18406, .ref 41, .int z19689, .ref 67]) (pm_q254_1 (Nat.le_of_ble_eq_true rfl)) rfl rfl ?_
                            refine pm_R_cv pm_M254 (pc' := 173) (a := 41) (ra := [.int 0, .int x2_18406]) (rest := [.int z19689, .ref 67]) (ls' := [.ref 41, .int x2_18406, .int 0]) (pm_q254_1 (Nat.le_of_ble_eq_true rfl)) rfl (Or.inl rfl) pm_M255 T19679.2.1 rfl (by decide) (Nat.lt_of_lt_of_le (by decide) T19679.1) rfl rfl (Nat.le_of_ble_eq_true rfl) rfl rfl ?_
                            refine pm_R_lo pm_M255 (pc' := 1) rfl rfl rfl ?_
                            refine rf_R_get pm_M255 T19679 (pc' := 4) (v := .ref 49) rfl rfl rfl rfl ?_
                            refine pm_R_op pm_M255 (pc' := 7) (st' := [.int 152, .ref 49]) rfl rfl rfl ?_
                            refine pm_R_lo pm_M255 (pc' := 8) rfl rfl rfl ?_
                            refine rf_R_get pm_M255 T19679 (pc' := 11) (v := .int (m_19623 44)) rfl rfl rfl rfl ?_
                            refine sf_R_imulV pm_M255 (pc' := 12) rfl rfl sf_k152 B19652 (by decide) (by decide) (by decide) e19654 ?_
                            refine pm_R_op pm_M255 (pc' := 13) (st' := [.int 2, .int z19653, .ref 49]) rfl rfl rfl ?_
                            refine sf_R_iaddV pm_M255 (pc' := 14) rfl rfl B19655 sf_k2 (by decide) (by decide) e19657 ?_
                            refine pm_R_op pm_M255 (pc' := 15) (st' := [.int 3, .int z19656, .ref 49]) rfl rfl rfl ?_
                            refine pm_R_lo pm_M255 (pc' := 16) rfl rfl rfl ?_
                            refine sf_R_imulV pm_M255 (pc' := 17) rfl rfl sf_k3 B18413 (by decide) (by decide) (by decide) e18423 ?_
                            refine sf_R_iaddV pm_M255 (pc' := 18) rfl rfl B19658 B18424 (by decide) (by decide) e19660 ?_
                            refine pm_R_lo pm_M255 (pc' := 19) rfl rfl rfl ?_
                            refine sf_R_iaddV pm_M255 (pc' := 20) rfl rfl B19661 sf_k0 (by decide) (by decide) e19663 ?_
                            have e19702 := (F19680.cell (by decide) e19666)
                            refine pm_R_iald pm_M255 (pc' := 21) (v := z19668) rfl e19702 (Nat.lt_of_lt_of_le (by decide) T19679.1) (sf_in B19664 (by decide) (by decide)) ez19669 rfl ?_
                            refine pm_R_ret pm_M255 (r := some (.int z19668)) rfl (pm_ret_i _) ?_
                            show pm_R _ 254 173 [.ref 41, .int a0, .int x2_18406, .int z18434, .int x4_19623, .int z19645] [.int z19668, .int z19689, .ref 67] _ _
                            refine pm_R_op pm_M254 (pc' := 174) (st' := [.int 2, .int z19668, .int z19689, .ref 67]) (pm_q254_1 (Nat.le_of_ble_eq_true rfl)) rfl rfl ?_
                            refine pm_R_icmp pm_M254 (t := 182) (pc' := 177) (pm_q254_1 (Nat.le_of_ble_eq_true rfl)) rfl rfl (fun c19705 => ?_) (fun c19705 => absurd (Classical.not_not.mp c19705) (sf_neq2 B19673 sf_k2 (by decide)))
                            skip
                            refine pm_R_lo pm_M254 (pc' := 183) (pm_q254_1 (Nat.le_of_ble_eq_true rfl)) rfl rfl ?_
                            refine pm_R_lo pm_M254 (pc' := 184) (pm_q254_1 (Nat.le_of_ble_eq_true rfl)) rfl rfl ?_
                            refine pm_R_op pm_M254 (pc' := 185) (st' := [.int 0, .int x2_18406, .ref 41, .int z19689, .ref 67]) (pm_q254_1 (Nat.le_of_ble_eq_true rfl)) rfl rfl ?_
                            refine pm_R_cv pm_M254 (pc' := 188) (a := 41) (ra := [.int 0, .int x2_18406]) (rest := [.int z19689, .ref 67]) (ls' := [.ref 41, .int x2_18406, .int 0]) (pm_q254_1 (Nat.le_of_ble_eq_true rfl)) rfl (Or.inl rfl) pm_M255 T19679.2.1 rfl (by decide) (Nat.lt_of_lt_of_le (by decide) T19679.1) rfl rfl (Nat.le_of_ble_eq_true rfl) rfl rfl ?_
                            refine pm_R_lo pm_M255 (pc' := 1) rfl rfl rfl ?_
                            refine rf_R_get pm_M255 T19679 (pc' := 4) (v := .ref 49) rfl rfl rfl rfl ?_
                            refine pm_R_op pm_M255 (pc' := 7) (st' := [.int 152, .ref 49]) rfl rfl rfl ?_
                            refine pm_R_lo pm_M255 (pc' := 8) rfl rfl rfl ?_
                            refine rf_R_get pm_M255 T19679 (pc' := 11) (v := .int (m_19623 44)) rfl rfl rfl rfl ?_
                            refine sf_R_imulV pm_M255 (pc' := 12) rfl rfl sf_k152 B19652 (by decide) (by decide) (by decide) e19654 ?_
                            refine pm_R_op pm_M255 (pc' := 13) (st' := [.int 2, .int z19653, .ref 49]) rfl rfl rfl ?_
                            refine sf_R_iaddV pm_M255 (pc' := 14) rfl rfl B19655 sf_k2 (by decide) (by decide) e19657 ?_
                            refine pm_R_op pm_M255 (pc' := 15) (st' := [.int 3, .int z19656, .ref 49]) rfl rfl rfl ?_
                            refine pm_R_lo pm_M255 (pc' := 16) rfl rfl rfl ?_
                            refine sf_R_imulV pm_M255 (pc' := 17) rfl rfl sf_k3 B18413 (by decide) (by decide) (by decide) e18423 ?_
                            refine sf_R_iaddV pm_M255 (pc' := 18) rfl rfl B19658 B18424 (by decide) (by decide) e19660 ?_
                            refine pm_R_lo pm_M255 (pc' := 19) rfl rfl rfl ?_
                            refine sf_R_iaddV pm_M255 (pc' := 20) rfl rfl B19661 sf_k0 (by decide) (by decide) e19663 ?_
                            refine pm_R_iald pm_M255 (pc' := 21) (v := z19668) rfl e19702 (Nat.lt_of_lt_of_le (by decide) T19679.1) (sf_in B19664 (by decide) (by decide)) ez19669 rfl ?_
                            refine pm_R_ret pm_M255 (r := some (.int z19668)) rfl (pm_ret_i _) ?_
                            show pm_R _ 254 188 [.ref 41, .int a0, .int x2_18406, .int z18434, .int x4_19623, .int z19645] [.int z19668, .int z19689, .ref 67] _ _
                            refine pm_R_ifc pm_M254 (t := 200) (pc' := 191) (pm_q254_1 (Nat.le_of_ble_eq_true rfl)) rfl rfl (fun c19708 => ?_) (fun c19708 => ?_)
                            · have B19709 : sf_B 1 1 z19668 := sf_neL0 c19708 sf_k0 B19673
                              refine pm_R_op pm_M254 (pc' := 201) (st' := [.int (-1), .int z19689, .ref 67]) (pm_q254_2 (Nat.le_of_ble_eq_true rfl)) rfl rfl ?_
                              have e19710 := (F19680.cell (by decide) e19643)
                              refine rf_R_ist pm_M254 T19679 (pc' := 202) (pm_q254_2 (Nat.le_of_ble_eq_true rfl)) e19710 (by decide) (by decide) (sf_in B19691 (by decide) (by decide)) ⟨_, rfl⟩ rfl (fun h19711 T19712 F19713 e19714 => ?_)
                              have F19715 := F19682.trans F19713 (by decide)
                              refine sf_R_iinc pm_M254 (pc' := 205) (ls' := fun z => [.ref 41, .int a0, .int x2_18406, .int z18434, .int z, .int z19645]) (pm_q254_2 (Nat.le_of_ble_eq_true rfl)) B19635 rfl (by decide) (by decide) (by decide) (fun _ => rfl) rfl (fun z19716 e19717 B19718 => ?_)
                              show pm_R _ 254 205 [.ref 41, .int a0, .int x2_18406, .int z18434, .int z19716, .int z19645] [] _ _
                              refine pm_R_br pm_M254 (pc' := 94) (pm_q254_2 (Nat.le_of_ble_eq_true rfl)) rfl ?_
                              exact ih_19623 _ (sf_up hN_19623 e19717 B19635 (by decide) (by decide)) h19711 m_19623 w_19623 z19716 (.int z19645) T19712 F19715 W_19623 (sf_weak B19718 (by decide) (by decide)) rfl rfl
                            · have B19719 : sf_B 0 0 z19668 := sf_eqL (Classical.not_not.mp c19708) sf_k0
                              refine pm_R_lo pm_M254 (pc' := 192) (pm_q254_1 (Nat.le_of_ble_eq_true rfl)) rfl rfl ?_
                              refine pm_R_lo pm_M254 (pc' := 193) (pm_q254_1 (Nat.le_of_ble_eq_true rfl)) rfl rfl ?_
                              refine pm_R_op pm_M254 (pc' := 194) (st' := [.int 2, .int x2_18406, .ref 41, .int z19689, .ref 67]) (pm_q254_1 (Nat.le_of_ble_eq_true rfl)) rfl rfl ?_
                              refine pm_R_cv pm_M254 (pc' := 197) (a := 41) (ra := [.int 2, .int x2_18406]) (rest := [.int z19689, .ref 67]) (ls' := [.ref 41, .int x2_18406, .int 2]) (pm_q254_1 (Nat.le_of_ble_eq_true rfl)) rfl (Or.inl rfl) pm_M255 T19679.2.1 rfl (by decide) (Nat.lt_of_lt_of_le (by decide) T19679.1) rfl rfl (Nat.le_of_ble_eq_true rfl) rfl rfl ?_
                              refine pm_R_lo pm_M255 (pc' := 1) rfl rfl rfl ?_
                              refine rf_R_get pm_M255 T19679 (pc' := 4) (v := .ref 49) rfl rfl rfl rfl ?_
                              refine pm_R_op pm_M255 (pc' := 7) (st' := [.int 152, .ref 49]) rfl rfl rfl ?_
                              refine pm_R_lo pm_M255 (pc' := 8) rfl rfl rfl ?_
                              refine rf_R_get pm_M255 T19679 (pc' := 11) (v := .int (m_19623 44)) rfl rfl rfl rfl ?_
                              refine sf_R_imulV pm_M255 (pc' := 12) rfl rfl sf_k152 B19652 (by decide) (by decide) (by decide) e19654 ?_
                              refine pm_R_op pm_M255 (pc' := 13) (st' := [.int 2, .int z19653, .ref 49]) rfl rfl rfl ?_
                              refine sf_R_iaddV pm_M255 (pc' := 14) rfl rfl B19655 sf_k2 (by decide) (by decide) e19657 ?_
                              refine pm_R_op pm_M255 (pc' := 15) (st' := [.int 3, .int z19656, .ref 49]) rfl rfl rfl ?_
                              refine pm_R_lo pm_M255 (pc' := 16) rfl rfl rfl ?_
                              refine sf_R_imulV pm_M255 (pc' := 17) rfl rfl sf_k3 B18413 (by decide) (by decide) (by decide) e18423 ?_
                              refine sf_R_iaddV pm_M255 (pc' := 18) rfl rfl B19658 B18424 (by decide) (by decide) e19660 ?_
                              refine pm_R_lo pm_M255 (pc' := 19) rfl rfl rfl ?_
                              refine sf_R_iadd pm_M255 (pc' := 20) rfl rfl B19661 sf_k2 (by decide) (by decide) (fun z19720 e19721 B19722 => ?_)
                              refine rf_R_ild pm_M255 T19679 (pc' := 21) rfl e19702 (by decide) (sf_in B19722 (by decide) (by decide)) rfl (fun z19723 ez19724 => ?_)
                              have e19725 : (z19720).toInt = 152 * ((m_19623 44)).toInt + 3 * (x2_18406).toInt + 4 := (sf_aux19 _ _ _ _ _ _ _ e19654 e19657 e18423 e19660 e19721)
                              have B19726 : sf_B (-1) 9 z19723 := ez19724 ▸ rf_p49o b19667 e19725 B19652 B18413 (by decide) (by decide) (by decide)
                              refine pm_R_ret pm_M255 (r := some (.int z19723)) rfl (pm_ret_i _) ?_
                              show pm_R _ 254 197 [.ref 41, .int a0, .int x2_18406, .int z18434, .int x4_19623, .int z19645] [.int z19723, .int z19689, .ref 67] _ _
                              refine pm_R_br pm_M254 (pc' := 201) (pm_q254_2 (Nat.le_of_ble_eq_true rfl)) rfl ?_
                              have e19727 := (F19680.cell (by decide) e19643)
                              refine rf_R_ist pm_M254 T19679 (pc' := 202) (pm_q254_2 (Nat.le_of_ble_eq_true rfl)) e19727 (by decide) (by decide) (sf_in B19691 (by decide) (by decide)) ⟨_, rfl⟩ rfl (fun h19728 T19729 F19730 e19731 => ?_)
                              have F19732 := F19682.trans F19730 (by decide)
                              refine sf_R_iinc pm_M254 (pc' := 205) (ls' := fun z => [.ref 41, .int a0, .int x2_18406, .int z18434, .int z, .int z19645]) (pm_q254_2 (Nat.le_of_ble_eq_true rfl)) B19635 rfl (by decide) (by decide) (by decide) (fun _ => rfl) rfl (fun z19733 e19734 B19735 => ?_)
                              show pm_R _ 254 205 [.ref 41, .int a0, .int x2_18406, .int z18434, .int z19733, .int z19645] [] _ _
                              refine pm_R_br pm_M254 (pc' := 94) (pm_q254_2 (Nat.le_of_ble_eq_true rfl)) rfl ?_
                              exact ih_19623 _ (sf_up hN_19623 e19734 B19635 (by decide) (by decide)) h19728 m_19623 w_19623 z19733 (.int z19645) T19729 F19732 W_19623 (sf_weak B19735 (by decide) (by decide)) rfl rfl
                        · have B19736 : sf_B 2 2 z19668 := sf_eqL (Classical.not_not.mp c19672) sf_k2
                          refine pm_R_lo pm_M254 (pc' := 134) (pm_q254_1 (Nat.le_of_ble_eq_true rfl)) rfl rfl ?_
                          refine pm_R_lo pm_M254 (pc' := 135) (pm_q254_1 (Nat.le_of_ble_eq_true rfl)) rfl rfl ?_
                          refine pm_R_icmp pm_M254 (t := 145) (pc' := 138) (pm_q254_1 (Nat.le_of_ble_eq_true rfl)) rfl rfl (fun c19737 => ?_) (fun c19737 => ?_)
                          · skip
                            refine pm_R_op pm_M254 (pc' := 146) (st' := [.int 0, .int z19650, .int x2_18406, .ref 68]) (pm_q254_1 (Nat.le_of_ble_eq_true rfl)) rfl rfl ?_
                            refine sf_R_iany pm_M254 (pc' := 147) (st := [.int x2_18406, .ref 68]) (pm_q254_1 (Nat.le_of_ble_eq_true rfl)) rfl rfl (fun z19741 => ?_)
                            refine rf_R_ist pm_M254 T_19623 (pc' := 148) (pm_q254_1 (Nat.le_of_ble_eq_true rfl)) e19648 (by decide) (by decide) (sf_in B18413 (by decide) (by decide)) ⟨_, rfl⟩ rfl (fun h19742 T19743 F19744 e19745 => ?_)
                            have F19746 := F_19623.trans F19744 (by decide)
                            refine pm_R_lo pm_M254 (pc' := 149) (pm_q254_1 (Nat.le_of_ble_eq_true rfl)) rfl rfl ?_
                            refine rf_R_get pm_M254 T19743 (pc' := 152) (v := .ref 67) (pm_q254_1 (Nat.le_of_ble_eq_true rfl)) rfl rfl rfl ?_
                            refine pm_R_op pm_M254 (pc' := 154) (st' := [.int 6, .ref 67]) (pm_q254_1 (Nat.le_of_ble_eq_true rfl)) rfl rfl ?_
                            refine pm_R_lo pm_M254 (pc' := 155) (pm_q254_1 (Nat.le_of_ble_eq_true rfl)) rfl rfl ?_
                            refine pm_R_op pm_M254 (pc' := 156) (st' := [.int 1, .int x2_18406, .int 6, .ref 67]) (pm_q254_1 (Nat.le_of_ble_eq_true rfl)) rfl rfl ?_
                            refine sf_R_iadd pm_M254 (pc' := 157) (pm_q254_1 (Nat.le_of_ble_eq_true rfl)) rfl B18413 sf_k1 (by decide) (by decide) (fun z19747 e19748 B19749 => ?_)
                            refine sf_R_imul pm_M254 (pc' := 158) (pm_q254_1 (Nat.le_of_ble_eq_true rfl)) rfl sf_k6 B19749 (by decide) (by decide) (by decide) (fun z19750 e19751 B19752 => ?_)
                            refine pm_R_lo pm_M254 (pc' := 160) (pm_q254_1 (Nat.le_of_ble_eq_true rfl)) rfl rfl ?_
                            refine sf_R_iadd pm_M254 (pc' := 161) (pm_q254_1 (Nat.le_of_ble_eq_true rfl)) rfl B19752 B19635 (by decide) (by decide) (fun z19753 e19754 B19755 => ?_)
                            refine pm_R_lo pm_M254 (pc' := 163) (pm_q254_1 (Nat.le_of_ble_eq_true rfl)) rfl rfl ?_
                            refine pm_R_lo pm_M254 (pc' := 164) (pm_q254_1 (Nat.le_of_ble_eq_true rfl)) rfl rfl ?_
                            refine pm_R_icmp pm_M254 (t := 177) (pc' := 167) (pm_q254_1 (Nat.le_of_ble_eq_true rfl)) rfl rfl (fun c19756 => ?_) (fun c19756 => ?_)
                            · skip
                              refine pm_R_lo pm_M254 (pc' := 179) (pm_q254_1 (Nat.le_of_ble_eq_true rfl)) rfl rfl ?_
                              refine pm_R_br pm_M254 (pc' := 201) (pm_q254_1 (Nat.le_of_ble_eq_true rfl)) rfl ?_
                              have e19757 := (F19744.cell (by decide) e19643)
                              refine rf_R_ist pm_M254 T19743 (pc' := 202) (pm_q254_2 (Nat.le_of_ble_eq_true rfl)) e19757 (by decide) (by decide) (sf_in B19755 (by decide) (by decide)) ⟨_, rfl⟩ rfl (fun h19758 T19759 F19760 e19761 => ?_)
                              have F19762 := F19746.trans F19760 (by decide)
                              refine sf_R_iinc pm_M254 (pc' := 205) (ls' := fun z => [.ref 41, .int a0, .int x2_18406, .int z18434, .int z, .int z19645]) (pm_q254_2 (Nat.le_of_ble_eq_true rfl)) B19635 rfl (by decide) (by decide) (by decide) (fun _ => rfl) rfl (fun z19763 e19764 B19765 => ?_)
                              show pm_R _ 254 205 [.ref 41, .int a0, .int x2_18406, .int z18434, .int z19763, .int z19645] [] _ _
                              refine pm_R_br pm_M254 (pc' := 94) (pm_q254_2 (Nat.le_of_ble_eq_true rfl)) rfl ?_
                              exact ih_19623 _ (sf_up hN_19623 e19764 B19635 (by decide) (by decide)) h19758 m_19623 w_19623 z19763 (.int z19645) T19759 F19762 W_19623 (sf_weak B19765 (by decide) (by decide)) rfl rfl
                            · refine pm_R_lo pm_M254 (pc' := 168) (pm_q254_1 (Nat.le_of_ble_eq_true rfl)) rfl rfl ?_
                              refine pm_R_lo pm_M254 (pc' := 169) (pm_q254_1 (Nat.le_of_ble_eq_true rfl)) rfl rfl ?_
                              refine pm_R_op pm_M254 (pc' := 170) (st' := [.int 0, .int x2_18406, .ref 41, .int z19753, .ref 67]) (pm_q254_1 (Nat.le_of_ble_eq_true rfl)) rfl rfl ?_
                              refine pm_R_cv pm_M254 (pc' := 173) (a := 41) (ra := [.int 0, .int x2_18406]) (rest := [.int z19753, .ref 67]) (ls' := [.ref 41, .int x2_18406, .int 0]) (pm_q254_1 (Nat.le_of_ble_eq_true rfl)) rfl (Or.inl rfl) pm_M255 T19743.2.1 rfl (by decide) (Nat.lt_of_lt_of_le (by decide) T19743.1) rfl rfl (Nat.le_of_ble_eq_true rfl) rfl rfl ?_
                              refine pm_R_lo pm_M255 (pc' := 1) rfl rfl rfl ?_
                              refine rf_R_get pm_M255 T19743 (pc' := 4) (v := .ref 49) rfl rfl rfl rfl ?_
                              refine pm_R_op pm_M255 (pc' := 7) (st' := [.int 152, .ref 49]) rfl rfl rfl ?_
                              refine pm_R_lo pm_M255 (pc' := 8) rfl rfl rfl ?_
                              refine rf_R_get pm_M255 T19743 (pc' := 11) (v := .int (m_19623 44)) rfl rfl rfl rfl ?_
                              refine sf_R_imulV pm_M255 (pc' := 12) rfl rfl sf_k152 B19652 (by decide) (by decide) (by decide) e19654 ?_
                              refine pm_R_op pm_M255 (pc' := 13) (st' := [.int 2, .int z19653, .ref 49]) rfl rfl rfl ?_
                              refine sf_R_iaddV pm_M255 (pc' := 14) rfl rfl B19655 sf_k2 (by decide) (by decide) e19657 ?_
                              refine pm_R_op pm_M255 (pc' := 15) (st' := [.int 3, .int z19656, .ref 49]) rfl rfl rfl ?_
                              refine pm_R_lo pm_M255 (pc' := 16) rfl rfl rfl ?_
                              refine sf_R_imulV pm_M255 (pc' := 17) rfl rfl sf_k3 B18413 (by decide) (by decide) (by decide) e18423 ?_
                              refine sf_R_iaddV pm_M255 (pc' := 18) rfl rfl B19658 B18424 (by decide) (by decide) e19660 ?_
                              refine pm_R_lo pm_M255 (pc' := 19) rfl rfl rfl ?_
                              refine sf_R_iaddV pm_M255 (pc' := 20) rfl rfl B19661 sf_k0 (by decide) (by decide) e19663 ?_
                              have e19766 := (F19744.cell (by decide) e19666)
                              refine pm_R_iald pm_M255 (pc' := 21) (v := z19668) rfl e19766 (Nat.lt_of_lt_of_le (by decide) T19743.1) (sf_in B19664 (by decide) (by decide)) ez19669 rfl ?_
                              refine pm_R_ret pm_M255 (r := some (.int z19668)) rfl (pm_ret_i _) ?_
                              show pm_R _ 254 173 [.ref 41, .int a0, .int x2_18406, .int z18434, .int x4_19623, .int z19645] [.int z19668, .int z19753, .ref 67] _ _
                              refine pm_R_op pm_M254 (pc' := 174) (st' := [.int 2, .int z19668, .int z19753, .ref 67]) (pm_q254_1 (Nat.le_of_ble_eq_true rfl)) rfl rfl ?_
                              refine pm_R_icmp pm_M254 (t := 182) (pc' := 177) (pm_q254_1 (Nat.le_of_ble_eq_true rfl)) rfl rfl (fun c19769 => absurd (sf_pt2 B19736 sf_k2) c19769) (fun c19769 => ?_)
                              refine pm_R_lo pm_M254 (pc' := 179) (pm_q254_1 (Nat.le_of_ble_eq_true rfl)) rfl rfl ?_
                              refine pm_R_br pm_M254 (pc' := 201) (pm_q254_1 (Nat.le_of_ble_eq_true rfl)) rfl ?_
                              have e19770 := (F19744.cell (by decide) e19643)
                              refine rf_R_ist pm_M254 T19743 (pc' := 202) (pm_q254_2 (Nat.le_of_ble_eq_true rfl)) e19770 (by decide) (by decide) (sf_in B19755 (by decide) (by decide)) ⟨_, rfl⟩ rfl (fun h19771 T19772 F19773 e19774 => ?_)
                              have F19775 := F19746.trans F19773 (by decide)
                              refine sf_R_iinc pm_M254 (pc' := 205) (ls' := fun z => [.ref 41, .int a0, .int x2_18406, .int z18434, .int z, .int z19645]) (pm_q254_2 (Nat.le_of_ble_eq_true rfl)) B19635 rfl (by decide) (by decide) (by decide) (fun _ => rfl) rfl (fun z19776 e19777 B19778 => ?_)
                              show pm_R _ 254 205 [.ref 41, .int a0, .int x2_18406, .int z18434, .int z19776, .int z19645] [] _ _
                              refine pm_R_br pm_M254 (pc' := 94) (pm_q254_2 (Nat.le_of_ble_eq_true rfl)) rfl ?_
                              exact ih_19623 _ (sf_up hN_19623 e19777 B19635 (by decide) (by decide)) h19771 m_19623 w_19623 z19776 (.int z19645) T19772 F19775 W_19623 (sf_weak B19778 (by decide) (by decide)) rfl rfl
                          · have B19779 : sf_B 0 5 z19645 := sf_eqL (Classical.not_not.mp c19737) B18437
                            refine pm_R_op pm_M254 (pc' := 139) (st' := [.int 1, .int z19650, .int x2_18406, .ref 68]) (pm_q254_1 (Nat.le_of_ble_eq_true rfl)) rfl rfl ?_
                            refine pm_R_lo pm_M254 (pc' := 141) (pm_q254_1 (Nat.le_of_ble_eq_true rfl)) rfl rfl ?_
                            refine sf_R_iany pm_M254 (pc' := 142) (st := [.int z19650, .int x2_18406, .ref 68]) (pm_q254_1 (Nat.le_of_ble_eq_true rfl)) rfl rfl (fun z19783 => ?_)
                            refine pm_R_br pm_M254 (pc' := 146) (pm_q254_1 (Nat.le_of_ble_eq_true rfl)) rfl ?_
                            refine sf_R_iany pm_M254 (pc' := 147) (st := [.int x2_18406, .ref 68]) (pm_q254_1 (Nat.le_of_ble_eq_true rfl)) rfl rfl (fun z19787 => ?_)
                            refine rf_R_ist pm_M254 T_19623 (pc' := 148) (pm_q254_1 (Nat.le_of_ble_eq_true rfl)) e19648 (by decide) (by decide) (sf_in B18413 (by decide) (by decide)) ⟨_, rfl⟩ rfl (fun h19788 T19789 F19790 e19791 => ?_)
                            have F19792 := F_19623.trans F19790 (by decide)
                            refine pm_R_lo pm_M254 (pc' := 149) (pm_q254_1 (Nat.le_of_ble_eq_true rfl)) rfl rfl ?_
                            refine rf_R_get pm_M254 T19789 (pc' := 152) (v := .ref 67) (pm_q254_1 (Nat.le_of_ble_eq_true rfl)) rfl rfl rfl ?_
                            refine pm_R_op pm_M254 (pc' := 154) (st' := [.int 6, .ref 67]) (pm_q254_1 (Nat.le_of_ble_eq_true rfl)) rfl rfl ?_
                            refine pm_R_lo pm_M254 (pc' := 155) (pm_q254_1 (Nat.le_of_ble_eq_true rfl)) rfl rfl ?_
                            refine pm_R_op pm_M254 (pc' := 156) (st' := [.int 1, .int x2_18406, .int 6, .ref 67]) (pm_q254_1 (Nat.le_of_ble_eq_true rfl)) rfl rfl ?_
                            refine sf_R_iadd pm_M254 (pc' := 157) (pm_q254_1 (Nat.le_of_ble_eq_true rfl)) rfl B18413 sf_k1 (by decide) (by decide) (fun z19793 e19794 B19795 => ?_)
                            refine sf_R_imul pm_M254 (pc' := 158) (pm_q254_1 (Nat.le_of_ble_eq_true rfl)) rfl sf_k6 B19795 (by decide) (by decide) (by decide) (fun z19796 e19797 B19798 => ?_)
                            refine pm_R_lo pm_M254 (pc' := 160) (pm_q254_1 (Nat.le_of_ble_eq_true rfl)) rfl rfl ?_
                            refine sf_R_iadd pm_M254 (pc' := 161) (pm_q254_1 (Nat.le_of_ble_eq_true rfl)) rfl B19798 B19635 (by decide) (by decide) (fun z19799 e19800 B19801 => ?_)
                            refine pm_R_lo pm_M254 (pc' := 163) (pm_q254_1 (Nat.le_of_ble_eq_true rfl)) rfl rfl ?_
                            refine pm_R_lo pm_M254 (pc' := 164) (pm_q254_1 (Nat.le_of_ble_eq_true rfl)) rfl rfl ?_
                            refine pm_R_icmp pm_M254 (t := 177) (pc' := 167) (pm_q254_1 (Nat.le_of_ble_eq_true rfl)) rfl rfl (fun c19802 => ?_) (fun c19802 => ?_)
                            · skip
                              refine pm_R_lo pm_M254 (pc' := 179) (pm_q254_1 (Nat.le_of_ble_eq_true rfl)) rfl rfl ?_
                              refine pm_R_br pm_M254 (pc' := 201) (pm_q254_1 (Nat.le_of_ble_eq_true rfl)) rfl ?_
                              have e19803 := (F19790.cell (by decide) e19643)
                              refine rf_R_ist pm_M254 T19789 (pc' := 202) (pm_q254_2 (Nat.le_of_ble_eq_true rfl)) e19803 (by decide) (by decide) (sf_in B19801 (by decide) (by decide)) ⟨_, rfl⟩ rfl (fun h19804 T19805 F19806 e19807 => ?_)
                              have F19808 := F19792.trans F19806 (by decide)
                              refine sf_R_iinc pm_M254 (pc' := 205) (ls' := fun z => [.ref 41, .int a0, .int x2_18406, .int z18434, .int z, .int z19645]) (pm_q254_2 (Nat.le_of_ble_eq_true rfl)) B19635 rfl (by decide) (by decide) (by decide) (fun _ => rfl) rfl (fun z19809 e19810 B19811 => ?_)
                              show pm_R _ 254 205 [.ref 41, .int a0, .int x2_18406, .int z18434, .int z19809, .int z19645] [] _ _
                              refine pm_R_br pm_M254 (pc' := 94) (pm_q254_2 (Nat.le_of_ble_eq_true rfl)) rfl ?_
                              exact ih_19623 _ (sf_up hN_19623 e19810 B19635 (by decide) (by decide)) h19804 m_19623 w_19623 z19809 (.int z19645) T19805 F19808 W_19623 (sf_weak B19811 (by decide) (by decide)) rfl rfl
                            · refine pm_R_lo pm_M254 (pc' := 168) (pm_q254_1 (Nat.le_of_ble_eq_true rfl)) rfl rfl ?_
                              refine pm_R_lo pm_M254 (pc' := 169) (pm_q254_1 (Nat.le_of_ble_eq_true rfl)) rfl rfl ?_
                              refine pm_R_op pm_M254 (pc' := 170) (st' := [.int 0, .int x2_18406, .ref 41, .int z19799, .ref 67]) (pm_q254_1 (Nat.le_of_ble_eq_true rfl)) rfl rfl ?_
                              refine pm_R_cv pm_M254 (pc' := 173) (a := 41) (ra := [.int 0, .int x2_18406]) (rest := [.int z19799, .ref 67]) (ls' := [.ref 41, .int x2_18406, .int 0]) (pm_q254_1 (Nat.le_of_ble_eq_true rfl)) rfl (Or.inl rfl) pm_M255 T19789.2.1 rfl (by decide) (Nat.lt_of_lt_of_le (by decide) T19789.1) rfl rfl (Nat.le_of_ble_eq_true rfl) rfl rfl ?_
                              refine pm_R_lo pm_M255 (pc' := 1) rfl rfl rfl ?_
                              refine rf_R_get pm_M255 T19789 (pc' := 4) (v := .ref 49) rfl rfl rfl rfl ?_
                              refine pm_R_op pm_M255 (pc' := 7) (st' := [.int 152, .ref 49]) rfl rfl rfl ?_
                              refine pm_R_lo pm_M255 (pc' := 8) rfl rfl rfl ?_
                              refine rf_R_get pm_M255 T19789 (pc' := 11) (v := .int (m_19623 44)) rfl rfl rfl rfl ?_
                              refine sf_R_imulV pm_M255 (pc' := 12) rfl rfl sf_k152 B19652 (by decide) (by decide) (by decide) e19654 ?_
                              refine pm_R_op pm_M255 (pc' := 13) (st' := [.int 2, .int z19653, .ref 49]) rfl rfl rfl ?_
                              refine sf_R_iaddV pm_M255 (pc' := 14) rfl rfl B19655 sf_k2 (by decide) (by decide) e19657 ?_
                              refine pm_R_op pm_M255 (pc' := 15) (st' := [.int 3, .int z19656, .ref 49]) rfl rfl rfl ?_
                              refine pm_R_lo pm_M255 (pc' := 16) rfl rfl rfl ?_
                              refine sf_R_imulV pm_M255 (pc' := 17) rfl rfl sf_k3 B18413 (by decide) (by decide) (by decide) e18423 ?_
                              refine sf_R_iaddV pm_M255 (pc' := 18) rfl rfl B19658 B18424 (by decide) (by decide) e19660 ?_
                              refine pm_R_lo pm_M255 (pc' := 19) rfl rfl rfl ?_
                              refine sf_R_iaddV pm_M255 (pc' := 20) rfl rfl B19661 sf_k0 (by decide) (by decide) e19663 ?_
                              have e19812 := (F19790.cell (by decide) e19666)
                              refine pm_R_iald pm_M255 (pc' := 21) (v := z19668) rfl e19812 (Nat.lt_of_lt_of_le (by decide) T19789.1) (sf_in B19664 (by decide) (by decide)) ez19669 rfl ?_
                              refine pm_R_ret pm_M255 (r := some (.int z19668)) rfl (pm_ret_i _) ?_
                              show pm_R _ 254 173 [.ref 41, .int a0, .int x2_18406, .int z18434, .int x4_19623, .int z19645] [.int z19668, .int z19799, .ref 67] _ _
                              refine pm_R_op pm_M254 (pc' := 174) (st' := [.int 2, .int z19668, .int z19799, .ref 67]) (pm_q254_1 (Nat.le_of_ble_eq_true rfl)) rfl rfl ?_
                              refine pm_R_icmp pm_M254 (t := 182) (pc' := 177) (pm_q254_1 (Nat.le_of_ble_eq_true rfl)) rfl rfl (fun c19815 => absurd (sf_pt2 B19736 sf_k2) c19815) (fun c19815 => ?_)
                              refine pm_R_lo pm_M254 (pc' := 179) (pm_q254_1 (Nat.le_of_ble_eq_true rfl)) rfl rfl ?_
                              refine pm_R_br pm_M254 (pc' := 201) (pm_q254_1 (Nat.le_of_ble_eq_true rfl)) rfl ?_
                              have e19816 := (F19790.cell (by decide) e19643)
                              refine rf_R_ist pm_M254 T19789 (pc' := 202) (pm_q254_2 (Nat.le_of_ble_eq_true rfl)) e19816 (by decide) (by decide) (sf_in B19801 (by decide) (by decide)) ⟨_, rfl⟩ rfl (fun h19817 T19818 F19819 e19820 => ?_)
                              have F19821 := F19792.trans F19819 (by decide)
                              refine sf_R_iinc pm_M254 (pc' := 205) (ls' := fun z => [.ref 41, .int a0, .int x2_18406, .int z18434, .int z, .int z19645]) (pm_q254_2 (Nat.le_of_ble_eq_true rfl)) B19635 rfl (by decide) (by decide) (by decide) (fun _ => rfl) rfl (fun z19822 e19823 B19824 => ?_)
                              show pm_R _ 254 205 [.ref 41, .int a0, .int x2_18406, .int z18434, .int z19822, .int z19645] [] _ _
                              refine pm_R_br pm_M254 (pc' := 94) (pm_q254_2 (Nat.le_of_ble_eq_true rfl)) rfl ?_
                              exact ih_19623 _ (sf_up hN_19623 e19823 B19635 (by decide) (by decide)) h19817 m_19623 w_19623 z19822 (.int z19645) T19818 F19821 W_19623 (sf_weak B19824 (by decide) (by decide)) rfl rfl
                  exact L_19623 _ h18441 m_18406 w_18406 0 (g5_18406) T18442 F18445 (rf_W.refl _ _) (sf_weak sf_k0 (by decide) (by decide)) Cg5_18406 rfl
            exact L_18406 _ h_12310 m_12310 w_12310 0 (pm_no) (pm_no) (pm_no) T_12310 F_12310 (rf_W.refl _ _) (sf_weak sf_k0 (by decide) (by decide)) rfl rfl rfl rfl
          · have B19825 : sf_B 0 5 x2_12310 := sf_ltL (Int32.not_le.mp c12314) Bx2_12310 sf_k6
            refine pm_R_lo pm_M254 (pc' := 55) rfl rfl rfl ?_
            refine rf_R_get pm_M254 T_12310 (pc' := 58) (v := .ref 67) rfl rfl rfl rfl ?_
            refine pm_R_lo pm_M254 (pc' := 59) rfl rfl rfl ?_
            refine pm_R_op pm_M254 (pc' := 60) (st' := [.int (-1), .int x2_12310, .ref 67]) rfl rfl rfl ?_
            obtain ⟨f19826, e19827⟩ := T_12310.2.2.2.1 67 (by decide) (by decide)
            refine rf_R_ist pm_M254 T_12310 (pc' := 61) rfl e19827 (by decide) (by decide) (sf_in B19825 (by decide) (by decide)) ⟨_, rfl⟩ rfl (fun h19829 T19830 F19831 e19832 => ?_)
            have F19833 := F_12310.trans F19831 (by decide)
            refine sf_R_iinc pm_M254 (pc' := 64) (ls' := fun z => [.ref 41, .int a0, .int z, pm_no, pm_no, pm_no]) rfl B19825 rfl (by decide) (by decide) (by decide) (fun _ => rfl) rfl (fun z19834 e19835 B19836 => ?_)
            show pm_R _ 254 64 [.ref 41, .int a0, .int z19834, pm_no, pm_no, pm_no] [] _ _
            refine pm_R_br pm_M254 (pc' := 48) rfl rfl ?_
            exact ih_12310 _ (sf_up hN_12310 e19835 B19825 (by decide) (by decide)) h19829 m_12310 w_12310 z19834 T19830 F19833 W_12310 (sf_weak B19836 (by decide) (by decide)) rfl
      exact L_12310 _ h52 m55 w 0 T53 F57 (rf_W.refl _ _) (sf_weak sf_k0 (by decide) (by decide)) rfl

set_option maxRecDepth 100000 in
set_option maxHeartbeats 4000000 in
/-- SilentTableModel.looked -/
theorem rf_c267 {d : Nat} {m : Nat → Int32} {w : Int64} {h : pm_H} {Q : Option Value → pm_H → Prop} {a0 : Int32} {a1 : Int32} (T : rf_T m w h) (Ba0 : sf_B 0 5 a0) (K : ∀ (r : Int32), sf_B 0 1 r → Q (some (.int r)) h) : pm_R (d + 0) 267 0 [.ref 41, .int a0, .int a1, pm_no] [] h Q := by
  refine pm_R_op pm_M267 (pc' := 1) (st' := [.int 1]) rfl rfl rfl ?_
  refine pm_R_lo pm_M267 (pc' := 2) (ls' := [.ref 41, .int a0, .int a1, .int 1]) (st' := []) rfl rfl rfl ?_
  have L_121 : ∀ (N : Nat) (x3_121 : Int32), sf_B 1 51 x3_121 → (51 - x3_121.toInt).toNat = N → pm_R (d + 0) 267 2 [.ref 41, .int a0, .int a1, .int x3_121] [] h Q := by
    intro N
    induction N using Nat.strongRecOn with
    | ind N ih_121 =>
      intro x3_121 Bx3_121 hN_121
      refine pm_R_lo pm_M267 (pc' := 3) rfl rfl rfl ?_
      refine pm_R_lo pm_M267 (pc' := 4) rfl rfl rfl ?_
      have B122 : sf_B 0 50 (m 43) := T.2.2.1 43
      refine rf_R_get pm_M267 T (pc' := 7) (v := .int (m 43)) rfl rfl rfl rfl ?_
      refine pm_R_icmp pm_M267 (t := 33) (pc' := 10) rfl rfl rfl (fun c123 => ?_) (fun c123 => ?_)
      · skip
        refine pm_R_op pm_M267 (pc' := 34) (st' := [.int 0]) rfl rfl rfl ?_
        exact pm_R_ret pm_M267 (r := some (.int 0)) rfl rfl (K 0 (sf_weak sf_k0 (by decide) (by decide)))
      · have B124 : sf_B 1 50 x3_121 := sf_leL (Int32.not_lt.mp c123) Bx3_121 B122
        have B125 : sf_B 1 50 (m 43) := sf_leR (Int32.not_lt.mp c123) Bx3_121 B122
        refine pm_R_lo pm_M267 (pc' := 11) rfl rfl rfl ?_
        refine rf_R_get pm_M267 T (pc' := 14) (v := .ref 67) rfl rfl rfl rfl ?_
        refine pm_R_op pm_M267 (pc' := 16) (st' := [.int 6, .ref 67]) rfl rfl rfl ?_
        refine pm_R_lo pm_M267 (pc' := 17) rfl rfl rfl ?_
        refine sf_R_imul pm_M267 (pc' := 18) rfl rfl sf_k6 B124 (by decide) (by decide) (by decide) (fun z126 e127 B128 => ?_)
        refine pm_R_lo pm_M267 (pc' := 19) rfl rfl rfl ?_
        refine sf_R_iadd pm_M267 (pc' := 20) rfl rfl B128 Ba0 (by decide) (by decide) (fun z129 e130 B131 => ?_)
        obtain ⟨f132, e133⟩ := T.2.2.2.1 67 (by decide) (by decide)
        refine rf_R_ild pm_M267 T (pc' := 21) rfl e133 (by decide) (sf_in B131 (by decide) (by decide)) rfl (fun z135 ez136 => ?_)
        refine pm_R_lo pm_M267 (pc' := 22) rfl rfl rfl ?_
        refine pm_R_icmp pm_M267 (t := 27) (pc' := 25) rfl rfl rfl (fun c137 => ?_) (fun c137 => ?_)
        · skip
          refine sf_R_iinc pm_M267 (pc' := 30) (ls' := fun z => [.ref 41, .int a0, .int a1, .int z]) rfl B124 rfl (by decide) (by decide) (by decide) (fun _ => rfl) rfl (fun z138 e139 B140 => ?_)
          show pm_R _ 267 30 [.ref 41, .int a0, .int a1, .int z138] [] _ _
          refine pm_R_br pm_M267 (pc' := 2) rfl rfl ?_
          exact ih_121 _ (sf_up hN_121 e139 B124 (by decide) (by decide)) z138 (sf_weak B140 (by decide) (by decide)) rfl
        · refine pm_R_op pm_M267 (pc' := 26) (st' := [.int 1]) rfl rfl rfl ?_
          exact pm_R_ret pm_M267 (r := some (.int 1)) rfl rfl (K 1 (sf_weak sf_k1 (by decide) (by decide)))
  exact L_121 _ 1 (sf_weak sf_k1 (by decide) (by decide)) rfl

set_option maxRecDepth 100000 in
set_option maxHeartbeats 4000000 in
/-- SilentTableModel.hands -/
theorem rf_c266 {d : Nat} {m : Nat → Int32} {w : Int64} {h : pm_H} {Q : Option Value → pm_H → Prop} {a0 : Int32} {a1 : Int32} {a2 : Int32} (T : rf_T m w h)  (K : ∀ (r : Int32) (m' : Nat → Int32) (w' : Int64) (h' : pm_H), rf_T m' w' h' → rf_G [41, 67, 68] h h' → rf_W [42, 43, 44] m m' → sf_B (-1) 5 r → Q (some (.int r)) h') : pm_R (d + 3) 266 0 [.ref 41, .int a0, .int a1, .int a2, pm_no, pm_no, pm_no, pm_no, pm_no] [] h Q := by
  refine pm_R_lo pm_M266 (pc' := 1) rfl rfl rfl ?_
  refine pm_R_lo pm_M266 (pc' := 2) rfl rfl rfl ?_
  refine pm_R_cv pm_M266 (pc' := 5) (a := 41) (ra := [.int a0]) (rest := []) (ls' := [.ref 41, .int a0, pm_no, pm_no, pm_no, pm_no]) rfl rfl (Or.inl rfl) pm_M254 T.2.1 rfl (by decide) (Nat.lt_of_lt_of_le (by decide) T.1) rfl rfl (Nat.le_of_ble_eq_true rfl) rfl rfl ?_
  refine rf_c254 (d := d + 0) T  (fun r1 m3 w4 h5 T6 F7 W8 B2 => ?_)
  have F9 := (rf_G.refl [41, 67, 68] h).trans F7 (by decide)
  have W10 : rf_W [42, 43, 44] m m3 := (rf_W.refl [42, 43, 44] m).trans W8 (by decide)
  show pm_R _ 266 5 [.ref 41, .int a0, .int a1, .int a2, pm_no, pm_no, pm_no, pm_no, pm_no] [.int r1] _ _
  refine pm_R_ifc pm_M266 (t := 29) (pc' := 8) rfl rfl rfl (fun c11 => ?_) (fun c11 => ?_)
  · have B12 : sf_B 0 0 r1 := sf_eqL c11 sf_k0
    refine pm_R_op pm_M266 (pc' := 30) (st' := [.int (-1)]) rfl rfl rfl ?_
    exact pm_R_ret pm_M266 (r := some (.int (-1))) rfl rfl (K (-1) m3 w4 h5 T6 F9 W10 (sf_weak sf_kn1 (by decide) (by decide)))
  · have B13 : sf_B 1 1 r1 := sf_neL0 c11 sf_k0 B2
    refine pm_R_lo pm_M266 (pc' := 9) rfl rfl rfl ?_
    refine pm_R_lo pm_M266 (pc' := 10) rfl rfl rfl ?_
    refine pm_R_cv pm_M266 (pc' := 13) (a := 41) (ra := [.int a1]) (rest := []) (ls' := [.ref 41, .int a1]) rfl rfl (Or.inl rfl) pm_M259 T6.2.1 rfl (by decide) (Nat.lt_of_lt_of_le (by decide) T6.1) rfl rfl (Nat.le_of_ble_eq_true rfl) rfl rfl ?_
    refine pm_R_lo pm_M259 (pc' := 1) rfl rfl rfl ?_
    refine pm_R_op pm_M259 (pc' := 2) (st' := [.int 0, .int a1]) rfl rfl rfl ?_
    refine pm_R_lo pm_M259 (pc' := 3) rfl rfl rfl ?_
    have B14 : sf_B 0 6 (m3 42) := T6.2.2.1 42
    refine rf_R_get pm_M259 T6 (pc' := 6) (v := .int (m3 42)) rfl rfl rfl rfl ?_
    refine pm_R_op pm_M259 (pc' := 7) (st' := [.int 1, .int (m3 42), .int 0, .int a1]) rfl rfl rfl ?_
    refine sf_R_isub pm_M259 (pc' := 8) rfl rfl B14 sf_k1 (by decide) (by decide) (fun z15 e16 B17 => ?_)
    refine pm_R_cs pm_M259 (pc' := 11) (ra := [.int z15, .int 0, .int a1]) (rest := []) (ls' := [.int a1, .int 0, .int z15]) rfl rfl (Or.inl rfl) pm_M174 rfl rfl (Nat.le_of_ble_eq_true rfl) rfl rfl ?_
    refine pm_R_lo pm_M174 (pc' := 1) rfl rfl rfl ?_
    refine pm_R_lo pm_M174 (pc' := 2) rfl rfl rfl ?_
    refine pm_R_icmp pm_M174 (t := 14) (pc' := 5) rfl rfl rfl (fun c18 => ?_) (fun c18 => ?_)
    · have B19 : sf_B (-2147483648) (-1) a1 := sf_ltL c18 (sf_any a1) sf_k0
      refine pm_R_op pm_M174 (pc' := 15) (st' := [.int 0]) rfl rfl rfl ?_
      refine pm_R_ret pm_M174 (r := some (.int 0)) rfl rfl ?_
      show pm_R _ 259 11 [.ref 41, .int a1] [.int 0] _ _
      refine pm_R_ret pm_M259 (r := some (.int 0)) rfl rfl ?_
      show pm_R _ 266 13 [.ref 41, .int a0, .int a1, .int a2, pm_no, pm_no, pm_no, pm_no, pm_no] [.int 0] _ _
      refine pm_R_br pm_M266 (pc' := 29) (st' := []) rfl rfl ?_
      refine pm_R_op pm_M266 (pc' := 30) (st' := [.int (-1)]) rfl rfl rfl ?_
      exact pm_R_ret pm_M266 (r := some (.int (-1))) rfl rfl (K (-1) m3 w4 h5 T6 F9 W10 (sf_weak sf_kn1 (by decide) (by decide)))
    · have B20 : sf_B 0 2147483647 a1 := sf_leR (Int32.not_lt.mp c18) sf_k0 (sf_any a1)
      refine pm_R_lo pm_M174 (pc' := 6) rfl rfl rfl ?_
      refine pm_R_lo pm_M174 (pc' := 7) rfl rfl rfl ?_
      refine pm_R_icmp pm_M174 (t := 14) (pc' := 10) rfl rfl rfl (fun c21 => ?_) (fun c21 => ?_)
      · skip
        refine pm_R_op pm_M174 (pc' := 15) (st' := [.int 0]) rfl rfl rfl ?_
        refine pm_R_ret pm_M174 (r := some (.int 0)) rfl rfl ?_
        show pm_R _ 259 11 [.ref 41, .int a1] [.int 0] _ _
        refine pm_R_ret pm_M259 (r := some (.int 0)) rfl rfl ?_
        show pm_R _ 266 13 [.ref 41, .int a0, .int a1, .int a2, pm_no, pm_no, pm_no, pm_no, pm_no] [.int 0] _ _
        refine pm_R_br pm_M266 (pc' := 29) (st' := []) rfl rfl ?_
        refine pm_R_op pm_M266 (pc' := 30) (st' := [.int (-1)]) rfl rfl rfl ?_
        exact pm_R_ret pm_M266 (r := some (.int (-1))) rfl rfl (K (-1) m3 w4 h5 T6 F9 W10 (sf_weak sf_kn1 (by decide) (by decide)))
      · have B22 : sf_B 0 5 a1 := sf_leL (Int32.not_lt.mp c21) B20 B17
        have B23 : sf_B 0 5 z15 := sf_leR (Int32.not_lt.mp c21) B20 B17
        refine pm_R_op pm_M174 (pc' := 11) (st' := [.int 1]) rfl rfl rfl ?_
        refine pm_R_br pm_M174 (pc' := 15) rfl rfl ?_
        refine pm_R_ret pm_M174 (r := some (.int 1)) rfl rfl ?_
        show pm_R _ 259 11 [.ref 41, .int a1] [.int 1] _ _
        refine pm_R_ret pm_M259 (r := some (.int 1)) rfl rfl ?_
        show pm_R _ 266 13 [.ref 41, .int a0, .int a1, .int a2, pm_no, pm_no, pm_no, pm_no, pm_no] [.int 1] _ _
        refine pm_R_br pm_M266 (pc' := 16) (st' := []) rfl rfl ?_
        refine pm_R_lo pm_M266 (pc' := 17) rfl rfl rfl ?_
        refine pm_R_lo pm_M266 (pc' := 18) rfl rfl rfl ?_
        refine pm_R_cv pm_M266 (pc' := 21) (a := 41) (ra := [.int a2]) (rest := []) (ls' := [.ref 41, .int a2]) rfl rfl (Or.inl rfl) pm_M259 T6.2.1 rfl (by decide) (Nat.lt_of_lt_of_le (by decide) T6.1) rfl rfl (Nat.le_of_ble_eq_true rfl) rfl rfl ?_
        refine pm_R_lo pm_M259 (pc' := 1) rfl rfl rfl ?_
        refine pm_R_op pm_M259 (pc' := 2) (st' := [.int 0, .int a2]) rfl rfl rfl ?_
        refine pm_R_lo pm_M259 (pc' := 3) rfl rfl rfl ?_
        refine rf_R_get pm_M259 T6 (pc' := 6) (v := .int (m3 42)) rfl rfl rfl rfl ?_
        refine pm_R_op pm_M259 (pc' := 7) (st' := [.int 1, .int (m3 42), .int 0, .int a2]) rfl rfl rfl ?_
        refine sf_R_isubV pm_M259 (pc' := 8) rfl rfl B14 sf_k1 (by decide) (by decide) e16 ?_
        refine pm_R_cs pm_M259 (pc' := 11) (ra := [.int z15, .int 0, .int a2]) (rest := []) (ls' := [.int a2, .int 0, .int z15]) rfl rfl (Or.inl rfl) pm_M174 rfl rfl (Nat.le_of_ble_eq_true rfl) rfl rfl ?_
        refine pm_R_lo pm_M174 (pc' := 1) rfl rfl rfl ?_
        refine pm_R_lo pm_M174 (pc' := 2) rfl rfl rfl ?_
        refine pm_R_icmp pm_M174 (t := 14) (pc' := 5) rfl rfl rfl (fun c24 => ?_) (fun c24 => ?_)
        · have B25 : sf_B (-2147483648) (-1) a2 := sf_ltL c24 (sf_any a2) sf_k0
          refine pm_R_op pm_M174 (pc' := 15) (st' := [.int 0]) rfl rfl rfl ?_
          refine pm_R_ret pm_M174 (r := some (.int 0)) rfl rfl ?_
          show pm_R _ 259 11 [.ref 41, .int a2] [.int 0] _ _
          refine pm_R_ret pm_M259 (r := some (.int 0)) rfl rfl ?_
          show pm_R _ 266 21 [.ref 41, .int a0, .int a1, .int a2, pm_no, pm_no, pm_no, pm_no, pm_no] [.int 0] _ _
          refine pm_R_br pm_M266 (pc' := 29) (st' := []) rfl rfl ?_
          refine pm_R_op pm_M266 (pc' := 30) (st' := [.int (-1)]) rfl rfl rfl ?_
          exact pm_R_ret pm_M266 (r := some (.int (-1))) rfl rfl (K (-1) m3 w4 h5 T6 F9 W10 (sf_weak sf_kn1 (by decide) (by decide)))
        · have B26 : sf_B 0 2147483647 a2 := sf_leR (Int32.not_lt.mp c24) sf_k0 (sf_any a2)
          refine pm_R_lo pm_M174 (pc' := 6) rfl rfl rfl ?_
          refine pm_R_lo pm_M174 (pc' := 7) rfl rfl rfl ?_
          refine pm_R_icmp pm_M174 (t := 14) (pc' := 10) rfl rfl rfl (fun c27 => ?_) (fun c27 => ?_)
          · have B28 : sf_B 1 2147483647 a2 := sf_ltR c27 B23 B26
            refine pm_R_op pm_M174 (pc' := 15) (st' := [.int 0]) rfl rfl rfl ?_
            refine pm_R_ret pm_M174 (r := some (.int 0)) rfl rfl ?_
            show pm_R _ 259 11 [.ref 41, .int a2] [.int 0] _ _
            refine pm_R_ret pm_M259 (r := some (.int 0)) rfl rfl ?_
            show pm_R _ 266 21 [.ref 41, .int a0, .int a1, .int a2, pm_no, pm_no, pm_no, pm_no, pm_no] [.int 0] _ _
            refine pm_R_br pm_M266 (pc' := 29) (st' := []) rfl rfl ?_
            refine pm_R_op pm_M266 (pc' := 30) (st' := [.int (-1)]) rfl rfl rfl ?_
            exact pm_R_ret pm_M266 (r := some (.int (-1))) rfl rfl (K (-1) m3 w4 h5 T6 F9 W10 (sf_weak sf_kn1 (by decide) (by decide)))
          · have B29 : sf_B 0 5 a2 := sf_leL (Int32.not_lt.mp c27) B26 B23
            refine pm_R_op pm_M174 (pc' := 11) (st' := [.int 1]) rfl rfl rfl ?_
            refine pm_R_br pm_M174 (pc' := 15) rfl rfl ?_
            refine pm_R_ret pm_M174 (r := some (.int 1)) rfl rfl ?_
            show pm_R _ 259 11 [.ref 41, .int a2] [.int 1] _ _
            refine pm_R_ret pm_M259 (r := some (.int 1)) rfl rfl ?_
            show pm_R _ 266 21 [.ref 41, .int a0, .int a1, .int a2, pm_no, pm_no, pm_no, pm_no, pm_no] [.int 1] _ _
            refine pm_R_br pm_M266 (pc' := 24) (st' := []) rfl rfl ?_
            refine pm_R_lo pm_M266 (pc' := 25) rfl rfl rfl ?_
            refine pm_R_lo pm_M266 (pc' := 26) rfl rfl rfl ?_
            refine pm_R_icmp pm_M266 (t := 31) (pc' := 29) rfl rfl rfl (fun c30 => ?_) (fun c30 => ?_)
            · skip
              refine pm_R_op pm_M266 (pc' := 32) (st' := [.int 1]) rfl rfl rfl ?_
              refine pm_R_lo pm_M266 (pc' := 33) rfl rfl rfl ?_
              refine sf_R_iany pm_M266 (pc' := 34) (st := []) rfl rfl rfl (fun z34 => ?_)
              refine pm_R_lo pm_M266 (pc' := 36) (ls' := [.ref 41, .int a0, .int a1, .int a2, .int z34, pm_no, pm_no, pm_no, pm_no]) (st' := []) rfl rfl rfl ?_
              refine pm_R_op pm_M266 (pc' := 37) (st' := [.int 1]) rfl rfl rfl ?_
              refine pm_R_lo pm_M266 (pc' := 39) (ls' := [.ref 41, .int a0, .int a1, .int a2, .int z34, .int 1, pm_no, pm_no, pm_no]) (st' := []) rfl rfl rfl ?_
              have L_8169 : ∀ (N : Nat) (x4_8169 : Int32) (x5_8169 : Int32) (g6_8169 : Value) (g7_8169 : Value) (g8_8169 : Value), sf_B (-2147483648) 2147483647 x4_8169 → sf_B 1 6 x5_8169 → g6_8169.category = 1 → g7_8169.category = 1 → g8_8169.category = 1 → (6 - x5_8169.toInt).toNat = N → pm_R (d + 3) 266 39 [.ref 41, .int a0, .int a1, .int a2, .int x4_8169, .int x5_8169, g6_8169, g7_8169, g8_8169] [] h5 Q := by
                intro N
                induction N using Nat.strongRecOn with
                | ind N ih_8169 =>
                  intro x4_8169 x5_8169 g6_8169 g7_8169 g8_8169 Bx4_8169 Bx5_8169 Cg6_8169 Cg7_8169 Cg8_8169 hN_8169
                  refine pm_R_lo pm_M266 (pc' := 41) rfl rfl rfl ?_
                  refine pm_R_op pm_M266 (pc' := 43) (st' := [.int 6, .int x5_8169]) rfl rfl rfl ?_
                  refine pm_R_icmp pm_M266 (t := 144) (pc' := 46) rfl rfl rfl (fun c8170 => ?_) (fun c8170 => ?_)
                  · have B8171 : sf_B 6 6 x5_8169 := sf_leR c8170 sf_k6 Bx5_8169
                    refine pm_R_op pm_M266 (pc' := 145) (st' := [.int (-1)]) (pm_q266_1 (Nat.le_of_ble_eq_true rfl)) rfl rfl ?_
                    exact pm_R_ret pm_M266 (r := some (.int (-1))) (pm_q266_1 (Nat.le_of_ble_eq_true rfl)) rfl (K (-1) m3 w4 h5 T6 F9 W10 (sf_weak sf_kn1 (by decide) (by decide)))
                  · have B8172 : sf_B 1 5 x5_8169 := sf_ltL (Int32.not_le.mp c8170) Bx5_8169 sf_k6
                    refine pm_R_lo pm_M266 (pc' := 48) rfl rfl rfl ?_
                    refine pm_R_lo pm_M266 (pc' := 50) (ls' := [.ref 41, .int a0, .int a1, .int a2, .int x4_8169, .int x5_8169, .int x4_8169, g7_8169, g8_8169]) (st' := []) rfl rfl rfl ?_
                    refine pm_R_op pm_M266 (pc' := 51) (st' := [.int 0]) rfl rfl rfl ?_
                    refine pm_R_lo pm_M266 (pc' := 53) (ls' := [.ref 41, .int a0, .int a1, .int a2, .int x4_8169, .int x5_8169, .int x4_8169, .int 0, g8_8169]) (st' := []) rfl rfl rfl ?_
                    have L_9793 : ∀ (N : Nat) (x6_9793 : Int32) (x7_9793 : Int32) (g8_9793 : Value), sf_B (-2147483648) 2147483647 x6_9793 → sf_B 0 6 x7_9793 → g8_9793.category = 1 → (6 - x7_9793.toInt).toNat = N → pm_R (d + 3) 266 53 [.ref 41, .int a0, .int a1, .int a2, .int x4_8169, .int x5_8169, .int x6_9793, .int x7_9793, g8_9793] [] h5 Q := by
                      intro N
                      induction N using Nat.strongRecOn with
                      | ind N ih_9793 =>
                        intro x6_9793 x7_9793 g8_9793 Bx6_9793 Bx7_9793 Cg8_9793 hN_9793
                        refine pm_R_lo pm_M266 (pc' := 55) rfl rfl rfl ?_
                        refine pm_R_lo pm_M266 (pc' := 56) rfl rfl rfl ?_
                        refine rf_R_get pm_M266 T6 (pc' := 59) (v := .int (m3 42)) rfl rfl rfl rfl ?_
                        refine pm_R_icmp pm_M266 (t := 121) (pc' := 62) rfl rfl rfl (fun c9794 => ?_) (fun c9794 => ?_)
                        · skip
                          refine pm_R_lo pm_M266 (pc' := 123) (pm_q266_1 (Nat.le_of_ble_eq_true rfl)) rfl rfl ?_
                          refine pm_R_lo pm_M266 (pc' := 125) (ls' := [.ref 41, .int a0, .int a1, .int a2, .int x6_9793, .int x5_8169, .int x6_9793, .int x7_9793, g8_9793]) (st' := []) (pm_q266_1 (Nat.le_of_ble_eq_true rfl)) rfl rfl ?_
                          refine pm_R_lo pm_M266 (pc' := 127) (pm_q266_1 (Nat.le_of_ble_eq_true rfl)) rfl rfl ?_
                          refine sf_R_lany pm_M266 (pc' := 128) (st := []) (pm_q266_1 (Nat.le_of_ble_eq_true rfl)) rfl rfl (fun z9795 => ?_)
                          refine pm_R_lo pm_M266 (pc' := 129) (pm_q266_1 (Nat.le_of_ble_eq_true rfl)) rfl rfl ?_
                          refine pm_R_cs pm_M266 (pc' := 132) (ra := [.int a2, .long z9795]) (rest := []) (ls' := [.long z9795, pm_no, .int a2]) (pm_q266_1 (Nat.le_of_ble_eq_true rfl)) rfl (Or.inl rfl) pm_M206 rfl rfl (Nat.le_of_ble_eq_true rfl) rfl rfl ?_
                          refine pm_R_lo pm_M206 (pc' := 1) rfl rfl rfl ?_
                          refine pm_R_lo pm_M206 (pc' := 2) rfl rfl rfl ?_
                          refine sf_R_lany pm_M206 (pc' := 3) (st := []) rfl rfl rfl (fun z9796 => ?_)
                          refine pm_R_op pm_M206 (pc' := 4) (st' := [.long 1, .long z9796]) rfl rfl rfl ?_
                          refine sf_R_lany pm_M206 (pc' := 5) (st := []) rfl rfl rfl (fun z9797 => ?_)
                          refine pm_R_op pm_M206 (pc' := 6) (st' := [.long 1, .long z9797]) rfl rfl rfl ?_
                          refine sf_R_lcmp pm_M206 (pc' := 7) rfl rfl (fun z9798 e9799 => ?_)
                          refine pm_R_ifc pm_M206 (t := 14) (pc' := 10) rfl rfl rfl (fun c9800 => ?_) (fun c9800 => ?_)
                          · have k9801 := sf_lneC e9799 c9800
                            refine pm_R_op pm_M206 (pc' := 15) (st' := [.int 0]) rfl rfl rfl ?_
                            refine pm_R_ret pm_M206 (r := some (.int 0)) rfl rfl ?_
                            show pm_R _ 266 132 [.ref 41, .int a0, .int a1, .int a2, .int x6_9793, .int x5_8169, .int x6_9793, .int x7_9793, g8_9793] [.int 0] _ _
                            refine pm_R_br pm_M266 (pc' := 138) (st' := []) (pm_q266_1 (Nat.le_of_ble_eq_true rfl)) rfl ?_
                            refine sf_R_iinc pm_M266 (pc' := 141) (ls' := fun z => [.ref 41, .int a0, .int a1, .int a2, .int x6_9793, .int z, .int x6_9793, .int x7_9793, g8_9793]) (pm_q266_1 (Nat.le_of_ble_eq_true rfl)) B8172 rfl (by decide) (by decide) (by decide) (fun _ => rfl) rfl (fun z9802 e9803 B9804 => ?_)
                            show pm_R _ 266 141 [.ref 41, .int a0, .int a1, .int a2, .int x6_9793, .int z9802, .int x6_9793, .int x7_9793, g8_9793] [] _ _
                            refine pm_R_br pm_M266 (pc' := 39) (pm_q266_1 (Nat.le_of_ble_eq_true rfl)) rfl ?_
                            exact ih_8169 _ (sf_up hN_8169 e9803 B8172 (by decide) (by decide)) x6_9793 z9802 (.int x6_9793) (.int x7_9793) (g8_9793) Bx6_9793 (sf_weak B9804 (by decide) (by decide)) rfl rfl Cg8_9793 rfl
                          · have B9805 : sf_B 0 0 z9798 := sf_eqL (Classical.not_not.mp c9800) sf_k0
                            refine pm_R_op pm_M206 (pc' := 11) (st' := [.int 1]) rfl rfl rfl ?_
                            refine pm_R_br pm_M206 (pc' := 15) rfl rfl ?_
                            refine pm_R_ret pm_M206 (r := some (.int 1)) rfl rfl ?_
                            show pm_R _ 266 132 [.ref 41, .int a0, .int a1, .int a2, .int x6_9793, .int x5_8169, .int x6_9793, .int x7_9793, g8_9793] [.int 1] _ _
                            refine pm_R_br pm_M266 (pc' := 135) (st' := []) (pm_q266_1 (Nat.le_of_ble_eq_true rfl)) rfl ?_
                            refine pm_R_lo pm_M266 (pc' := 137) (pm_q266_1 (Nat.le_of_ble_eq_true rfl)) rfl rfl ?_
                            exact pm_R_ret pm_M266 (r := some (.int x5_8169)) (pm_q266_1 (Nat.le_of_ble_eq_true rfl)) (pm_ret_i _) (K x5_8169 m3 w4 h5 T6 F9 W10 (sf_weak B8172 (by decide) (by decide)))
                        · have B9806 : sf_B 0 5 x7_9793 := sf_ltL (Int32.not_le.mp c9794) Bx7_9793 B14
                          have B9807 : sf_B 1 6 (m3 42) := sf_ltR (Int32.not_le.mp c9794) Bx7_9793 B14
                          refine pm_R_op pm_M266 (pc' := 63) (st' := [.int 0]) rfl rfl rfl ?_
                          refine pm_R_lo pm_M266 (pc' := 65) (ls' := [.ref 41, .int a0, .int a1, .int a2, .int x4_8169, .int x5_8169, .int x6_9793, .int x7_9793, .int 0]) (st' := []) rfl rfl rfl ?_
                          have L_10115 : ∀ (N : Nat) (x6_10115 : Int32) (x8_10115 : Int32), sf_B (-2147483648) 2147483647 x6_10115 → sf_B 0 6 x8_10115 → (6 - x8_10115.toInt).toNat = N → pm_R (d + 3) 266 65 [.ref 41, .int a0, .int a1, .int a2, .int x4_8169, .int x5_8169, .int x6_10115, .int x7_9793, .int x8_10115] [] h5 Q := by
                            intro N
                            induction N using Nat.strongRecOn with
                            | ind N ih_10115 =>
                              intro x6_10115 x8_10115 Bx6_10115 Bx8_10115 hN_10115
                              refine pm_R_lo pm_M266 (pc' := 67) rfl rfl rfl ?_
                              refine pm_R_lo pm_M266 (pc' := 68) rfl rfl rfl ?_
                              refine rf_R_get pm_M266 T6 (pc' := 71) (v := .int (m3 42)) rfl rfl rfl rfl ?_
                              refine pm_R_icmp pm_M266 (t := 115) (pc' := 74) rfl rfl rfl (fun c10116 => ?_) (fun c10116 => ?_)
                              · have B10117 : sf_B 1 6 x8_10115 := sf_leR c10116 B9807 Bx8_10115
                                refine sf_R_iinc pm_M266 (pc' := 118) (ls' := fun z => [.ref 41, .int a0, .int a1, .int a2, .int x4_8169, .int x5_8169, .int x6_10115, .int z, .int x8_10115]) (pm_q266_1 (Nat.le_of_ble_eq_true rfl)) B9806 rfl (by decide) (by decide) (by decide) (fun _ => rfl) rfl (fun z10118 e10119 B10120 => ?_)
                                show pm_R _ 266 118 [.ref 41, .int a0, .int a1, .int a2, .int x4_8169, .int x5_8169, .int x6_10115, .int z10118, .int x8_10115] [] _ _
                                refine pm_R_br pm_M266 (pc' := 53) (pm_q266_1 (Nat.le_of_ble_eq_true rfl)) rfl ?_
                                exact ih_9793 _ (sf_up hN_9793 e10119 B9806 (by decide) (by decide)) x6_10115 z10118 (.int x8_10115) Bx6_10115 (sf_weak B10120 (by decide) (by decide)) rfl rfl
                              · have B10121 : sf_B 0 5 x8_10115 := sf_ltL (Int32.not_le.mp c10116) Bx8_10115 B9807
                                refine pm_R_lo pm_M266 (pc' := 76) rfl rfl rfl ?_
                                refine pm_R_lo pm_M266 (pc' := 78) rfl rfl rfl ?_
                                refine sf_R_lany pm_M266 (pc' := 79) (st := [.int x6_10115]) rfl rfl rfl (fun z10122 => ?_)
                                refine pm_R_lo pm_M266 (pc' := 81) rfl rfl rfl ?_
                                refine pm_R_cs pm_M266 (pc' := 84) (ra := [.int x8_10115, .long z10122]) (rest := [.int x6_10115]) (ls' := [.long z10122, pm_no, .int x8_10115]) rfl rfl (Or.inl rfl) pm_M206 rfl rfl (Nat.le_of_ble_eq_true rfl) rfl rfl ?_
                                refine pm_R_lo pm_M206 (pc' := 1) rfl rfl rfl ?_
                                refine pm_R_lo pm_M206 (pc' := 2) rfl rfl rfl ?_
                                refine sf_R_lany pm_M206 (pc' := 3) (st := []) rfl rfl rfl (fun z10123 => ?_)
                                refine pm_R_op pm_M206 (pc' := 4) (st' := [.long 1, .long z10123]) rfl rfl rfl ?_
                                refine sf_R_lany pm_M206 (pc' := 5) (st := []) rfl rfl rfl (fun z10124 => ?_)
                                refine pm_R_op pm_M206 (pc' := 6) (st' := [.long 1, .long z10124]) rfl rfl rfl ?_
                                refine sf_R_lcmp pm_M206 (pc' := 7) rfl rfl (fun z10125 e10126 => ?_)
                                refine pm_R_ifc pm_M206 (t := 14) (pc' := 10) rfl rfl rfl (fun c10127 => ?_) (fun c10127 => ?_)
                                · have k10128 := sf_lneC e10126 c10127
                                  refine pm_R_op pm_M206 (pc' := 15) (st' := [.int 0]) rfl rfl rfl ?_
                                  refine pm_R_ret pm_M206 (r := some (.int 0)) rfl rfl ?_
                                  show pm_R _ 266 84 [.ref 41, .int a0, .int a1, .int a2, .int x4_8169, .int x5_8169, .int x6_10115, .int x7_9793, .int x8_10115] [.int 0, .int x6_10115] _ _
                                  refine pm_R_br pm_M266 (pc' := 105) (st' := [.int x6_10115]) rfl rfl ?_
                                  refine pm_R_op pm_M266 (pc' := 106) (st' := [.int 0, .int x6_10115]) rfl rfl rfl ?_
                                  refine sf_R_iany pm_M266 (pc' := 107) (st := []) rfl rfl rfl (fun z10132 => ?_)
                                  refine pm_R_lo pm_M266 (pc' := 109) (ls' := [.ref 41, .int a0, .int a1, .int a2, .int x4_8169, .int x5_8169, .int z10132, .int x7_9793, .int x8_10115]) (st' := []) rfl rfl rfl ?_
                                  refine sf_R_iinc pm_M266 (pc' := 112) (ls' := fun z => [.ref 41, .int a0, .int a1, .int a2, .int x4_8169, .int x5_8169, .int z10132, .int x7_9793, .int z]) rfl B10121 rfl (by decide) (by decide) (by decide) (fun _ => rfl) rfl (fun z10133 e10134 B10135 => ?_)
                                  show pm_R _ 266 112 [.ref 41, .int a0, .int a1, .int a2, .int x4_8169, .int x5_8169, .int z10132, .int x7_9793, .int z10133] [] _ _
                                  refine pm_R_br pm_M266 (pc' := 65) rfl rfl ?_
                                  exact ih_10115 _ (sf_up hN_10115 e10134 B10121 (by decide) (by decide)) z10132 z10133 (sf_any z10132) (sf_weak B10135 (by decide) (by decide)) rfl
                                · have B10136 : sf_B 0 0 z10125 := sf_eqL (Classical.not_not.mp c10127) sf_k0
                                  refine pm_R_op pm_M206 (pc' := 11) (st' := [.int 1]) rfl rfl rfl ?_
                                  refine pm_R_br pm_M206 (pc' := 15) rfl rfl ?_
                                  refine pm_R_ret pm_M206 (r := some (.int 1)) rfl rfl ?_
                                  show pm_R _ 266 84 [.ref 41, .int a0, .int a1, .int a2, .int x4_8169, .int x5_8169, .int x6_10115, .int x7_9793, .int x8_10115] [.int 1, .int x6_10115] _ _
                                  refine pm_R_br pm_M266 (pc' := 87) (st' := [.int x6_10115]) rfl rfl ?_
                                  refine pm_R_lo pm_M266 (pc' := 88) rfl rfl rfl ?_
                                  refine pm_R_lo pm_M266 (pc' := 90) rfl rfl rfl ?_
                                  refine pm_R_lo pm_M266 (pc' := 92) rfl rfl rfl ?_
                                  refine pm_R_cv pm_M266 (pc' := 95) (a := 41) (ra := [.int x8_10115, .int x7_9793]) (rest := [.int x6_10115]) (ls' := [.ref 41, .int x7_9793, .int x8_10115, pm_no]) rfl rfl (Or.inl rfl) pm_M267 T6.2.1 rfl (by decide) (Nat.lt_of_lt_of_le (by decide) T6.1) rfl rfl (Nat.le_of_ble_eq_true rfl) rfl rfl ?_
                                  refine rf_c267 (d := d + 2) T6 B9806 (fun r10137 B10138 => ?_)
                                  show pm_R _ 266 95 [.ref 41, .int a0, .int a1, .int a2, .int x4_8169, .int x5_8169, .int x6_10115, .int x7_9793, .int x8_10115] [.int r10137, .int x6_10115] _ _
                                  refine pm_R_ifc pm_M266 (t := 105) (pc' := 98) rfl rfl rfl (fun c10145 => ?_) (fun c10145 => ?_)
                                  · have B10146 : sf_B 0 0 r10137 := sf_eqL c10145 sf_k0
                                    refine pm_R_op pm_M266 (pc' := 106) (st' := [.int 0, .int x6_10115]) rfl rfl rfl ?_
                                    refine sf_R_iany pm_M266 (pc' := 107) (st := []) rfl rfl rfl (fun z10150 => ?_)
                                    refine pm_R_lo pm_M266 (pc' := 109) (ls' := [.ref 41, .int a0, .int a1, .int a2, .int x4_8169, .int x5_8169, .int z10150, .int x7_9793, .int x8_10115]) (st' := []) rfl rfl rfl ?_
                                    refine sf_R_iinc pm_M266 (pc' := 112) (ls' := fun z => [.ref 41, .int a0, .int a1, .int a2, .int x4_8169, .int x5_8169, .int z10150, .int x7_9793, .int z]) rfl B10121 rfl (by decide) (by decide) (by decide) (fun _ => rfl) rfl (fun z10151 e10152 B10153 => ?_)
                                    show pm_R _ 266 112 [.ref 41, .int a0, .int a1, .int a2, .int x4_8169, .int x5_8169, .int z10150, .int x7_9793, .int z10151] [] _ _
                                    refine pm_R_br pm_M266 (pc' := 65) rfl rfl ?_
                                    exact ih_10115 _ (sf_up hN_10115 e10152 B10121 (by decide) (by decide)) z10150 z10151 (sf_any z10150) (sf_weak B10153 (by decide) (by decide)) rfl
                                  · have B10154 : sf_B 1 1 r10137 := sf_neL0 c10145 sf_k0 B10138
                                    refine pm_R_op pm_M266 (pc' := 99) (st' := [.int 1, .int x6_10115]) rfl rfl rfl ?_
                                    refine pm_R_lo pm_M266 (pc' := 101) rfl rfl rfl ?_
                                    refine sf_R_iany pm_M266 (pc' := 102) (st := [.int x6_10115]) rfl rfl rfl (fun z10158 => ?_)
                                    refine pm_R_br pm_M266 (pc' := 106) rfl rfl ?_
                                    refine sf_R_iany pm_M266 (pc' := 107) (st := []) rfl rfl rfl (fun z10162 => ?_)
                                    refine pm_R_lo pm_M266 (pc' := 109) (ls' := [.ref 41, .int a0, .int a1, .int a2, .int x4_8169, .int x5_8169, .int z10162, .int x7_9793, .int x8_10115]) (st' := []) rfl rfl rfl ?_
                                    refine sf_R_iinc pm_M266 (pc' := 112) (ls' := fun z => [.ref 41, .int a0, .int a1, .int a2, .int x4_8169, .int x5_8169, .int z10162, .int x7_9793, .int z]) rfl B10121 rfl (by decide) (by decide) (by decide) (fun _ => rfl) rfl (fun z10163 e10164 B10165 => ?_)
                                    show pm_R _ 266 112 [.ref 41, .int a0, .int a1, .int a2, .int x4_8169, .int x5_8169, .int z10162, .int x7_9793, .int z10163] [] _ _
                                    refine pm_R_br pm_M266 (pc' := 65) rfl rfl ?_
                                    exact ih_10115 _ (sf_up hN_10115 e10164 B10121 (by decide) (by decide)) z10162 z10163 (sf_any z10162) (sf_weak B10165 (by decide) (by decide)) rfl
                          exact L_10115 _ x6_9793 0 Bx6_9793 (sf_weak sf_k0 (by decide) (by decide)) rfl
                    exact L_9793 _ x4_8169 0 (g8_8169) Bx4_8169 (sf_weak sf_k0 (by decide) (by decide)) Cg8_8169 rfl
              exact L_8169 _ z34 1 (pm_no) (pm_no) (pm_no) (sf_any z34) (sf_weak sf_k1 (by decide) (by decide)) rfl rfl rfl rfl
            · refine pm_R_op pm_M266 (pc' := 30) (st' := [.int (-1)]) rfl rfl rfl ?_
              exact pm_R_ret pm_M266 (r := some (.int (-1))) rfl rfl (K (-1) m3 w4 h5 T6 F9 W10 (sf_weak sf_kn1 (by decide) (by decide)))

set_option maxRecDepth 100000 in
set_option maxHeartbeats 4000000 in
/-- SilentTableModel.saidBy -/
theorem rf_c270 {d : Nat} {m : Nat → Int32} {w : Int64} {h : pm_H} {Q : Option Value → pm_H → Prop} {a0 : Int32} (T : rf_T m w h)  (K : ∀ (r : Int32), Q (some (.int r)) h) : pm_R (d + 2) 270 0 [.ref 41, .int a0, pm_no, pm_no] [] h Q := by
  refine pm_R_op pm_M270 (pc' := 1) (st' := [.int 0]) rfl rfl rfl ?_
  refine pm_R_lo pm_M270 (pc' := 2) (ls' := [.ref 41, .int a0, .int 0, pm_no]) (st' := []) rfl rfl rfl ?_
  refine pm_R_op pm_M270 (pc' := 3) (st' := [.int 0]) rfl rfl rfl ?_
  refine pm_R_lo pm_M270 (pc' := 4) (ls' := [.ref 41, .int a0, .int 0, .int 0]) (st' := []) rfl rfl rfl ?_
  have L_299 : ∀ (N : Nat) (x2_299 : Int32) (x3_299 : Int32), sf_B (-2147483648) 2147483647 x2_299 → sf_B 0 50 x3_299 → (50 - x3_299.toInt).toNat = N → pm_R (d + 2) 270 4 [.ref 41, .int a0, .int x2_299, .int x3_299] [] h Q := by
    intro N
    induction N using Nat.strongRecOn with
    | ind N ih_299 =>
      intro x2_299 x3_299 Bx2_299 Bx3_299 hN_299
      refine pm_R_lo pm_M270 (pc' := 5) rfl rfl rfl ?_
      refine pm_R_lo pm_M270 (pc' := 6) rfl rfl rfl ?_
      have B300 : sf_B 0 50 (m 43) := T.2.2.1 43
      refine rf_R_get pm_M270 T (pc' := 9) (v := .int (m 43)) rfl rfl rfl rfl ?_
      refine pm_R_icmp pm_M270 (t := 44) (pc' := 12) rfl rfl rfl (fun c301 => ?_) (fun c301 => ?_)
      · skip
        refine pm_R_lo pm_M270 (pc' := 45) rfl rfl rfl ?_
        exact pm_R_ret pm_M270 (r := some (.int x2_299)) rfl (pm_ret_i _) (K x2_299)
      · have B302 : sf_B 0 49 x3_299 := sf_ltL (Int32.not_le.mp c301) Bx3_299 B300
        have B303 : sf_B 1 50 (m 43) := sf_ltR (Int32.not_le.mp c301) Bx3_299 B300
        refine pm_R_lo pm_M270 (pc' := 13) rfl rfl rfl ?_
        refine pm_R_lo pm_M270 (pc' := 14) rfl rfl rfl ?_
        refine pm_R_lo pm_M270 (pc' := 15) rfl rfl rfl ?_
        refine pm_R_cv pm_M270 (pc' := 18) (a := 41) (ra := [.int x3_299]) (rest := [.int x2_299]) (ls' := [.ref 41, .int x3_299]) rfl rfl (Or.inl rfl) pm_M256 T.2.1 rfl (by decide) (Nat.lt_of_lt_of_le (by decide) T.1) rfl rfl (Nat.le_of_ble_eq_true rfl) rfl rfl ?_
        refine pm_R_lo pm_M256 (pc' := 1) rfl rfl rfl ?_
        refine pm_R_lo pm_M256 (pc' := 2) rfl rfl rfl ?_
        refine pm_R_op pm_M256 (pc' := 3) (st' := [.int 0, .int x3_299, .ref 41]) rfl rfl rfl ?_
        refine pm_R_cv pm_M256 (pc' := 6) (a := 41) (ra := [.int 0, .int x3_299]) (rest := []) (ls' := [.ref 41, .int x3_299, .int 0]) rfl rfl (Or.inl rfl) pm_M255 T.2.1 rfl (by decide) (Nat.lt_of_lt_of_le (by decide) T.1) rfl rfl (Nat.le_of_ble_eq_true rfl) rfl rfl ?_
        refine pm_R_lo pm_M255 (pc' := 1) rfl rfl rfl ?_
        refine rf_R_get pm_M255 T (pc' := 4) (v := .ref 49) rfl rfl rfl rfl ?_
        refine pm_R_op pm_M255 (pc' := 7) (st' := [.int 152, .ref 49]) rfl rfl rfl ?_
        refine pm_R_lo pm_M255 (pc' := 8) rfl rfl rfl ?_
        have B304 : sf_B 0 1 (m 44) := T.2.2.1 44
        refine rf_R_get pm_M255 T (pc' := 11) (v := .int (m 44)) rfl rfl rfl rfl ?_
        refine sf_R_imul pm_M255 (pc' := 12) rfl rfl sf_k152 B304 (by decide) (by decide) (by decide) (fun z305 e306 B307 => ?_)
        refine pm_R_op pm_M255 (pc' := 13) (st' := [.int 2, .int z305, .ref 49]) rfl rfl rfl ?_
        refine sf_R_iadd pm_M255 (pc' := 14) rfl rfl B307 sf_k2 (by decide) (by decide) (fun z308 e309 B310 => ?_)
        refine pm_R_op pm_M255 (pc' := 15) (st' := [.int 3, .int z308, .ref 49]) rfl rfl rfl ?_
        refine pm_R_lo pm_M255 (pc' := 16) rfl rfl rfl ?_
        refine sf_R_imul pm_M255 (pc' := 17) rfl rfl sf_k3 B302 (by decide) (by decide) (by decide) (fun z311 e312 B313 => ?_)
        refine sf_R_iadd pm_M255 (pc' := 18) rfl rfl B310 B313 (by decide) (by decide) (fun z314 e315 B316 => ?_)
        refine pm_R_lo pm_M255 (pc' := 19) rfl rfl rfl ?_
        refine sf_R_iadd pm_M255 (pc' := 20) rfl rfl B316 sf_k0 (by decide) (by decide) (fun z317 e318 B319 => ?_)
        obtain ⟨f320, e321, b322⟩ := T.2.2.2.1 49 (by decide) (by decide)
        refine rf_R_ild pm_M255 T (pc' := 21) rfl e321 (by decide) (sf_in B319 (by decide) (by decide)) rfl (fun z323 ez324 => ?_)
        have e325 : (z317).toInt = 152 * ((m 44)).toInt + 3 * (x3_299).toInt + 2 := (sf_aux18 _ _ _ _ _ _ _ e306 e309 e312 e315 e318)
        have B326 : sf_B 0 2 z323 := ez324 ▸ rf_p49s b322 e325 B304 B302 (by decide) (by decide) (by decide)
        refine pm_R_ret pm_M255 (r := some (.int z323)) rfl (pm_ret_i _) ?_
        show pm_R _ 256 6 [.ref 41, .int x3_299] [.int z323] _ _
        refine pm_R_op pm_M256 (pc' := 7) (st' := [.int 2, .int z323]) rfl rfl rfl ?_
        refine pm_R_icmp pm_M256 (t := 14) (pc' := 10) rfl rfl rfl (fun c327 => ?_) (fun c327 => ?_)
        · have B328 : sf_B 0 1 z323 := sf_neH0 c327 sf_k2 B326
          refine pm_R_op pm_M256 (pc' := 15) (st' := [.int 0]) rfl rfl rfl ?_
          refine pm_R_ret pm_M256 (r := some (.int 0)) rfl rfl ?_
          show pm_R _ 270 18 [.ref 41, .int a0, .int x2_299, .int x3_299] [.int 0, .int x2_299] _ _
          refine pm_R_br pm_M270 (pc' := 35) (st' := [.int x2_299]) rfl rfl ?_
          refine pm_R_op pm_M270 (pc' := 36) (st' := [.int 0, .int x2_299]) rfl rfl rfl ?_
          refine sf_R_iadd pm_M270 (pc' := 37) rfl rfl Bx2_299 sf_k0 (by decide) (by decide) (fun z329 e330 B331 => ?_)
          refine pm_R_lo pm_M270 (pc' := 38) (ls' := [.ref 41, .int a0, .int z329, .int x3_299]) (st' := []) rfl rfl rfl ?_
          refine sf_R_iinc pm_M270 (pc' := 41) (ls' := fun z => [.ref 41, .int a0, .int z329, .int z]) rfl B302 rfl (by decide) (by decide) (by decide) (fun _ => rfl) rfl (fun z332 e333 B334 => ?_)
          show pm_R _ 270 41 [.ref 41, .int a0, .int z329, .int z332] [] _ _
          refine pm_R_br pm_M270 (pc' := 4) rfl rfl ?_
          exact ih_299 _ (sf_up hN_299 e333 B302 (by decide) (by decide)) z329 z332 B331 (sf_weak B334 (by decide) (by decide)) rfl
        · have B335 : sf_B 2 2 z323 := sf_eqL (Classical.not_not.mp c327) sf_k2
          refine pm_R_op pm_M256 (pc' := 11) (st' := [.int 1]) rfl rfl rfl ?_
          refine pm_R_br pm_M256 (pc' := 15) rfl rfl ?_
          refine pm_R_ret pm_M256 (r := some (.int 1)) rfl rfl ?_
          show pm_R _ 270 18 [.ref 41, .int a0, .int x2_299, .int x3_299] [.int 1, .int x2_299] _ _
          refine pm_R_br pm_M270 (pc' := 21) (st' := [.int x2_299]) rfl rfl ?_
          refine pm_R_lo pm_M270 (pc' := 22) rfl rfl rfl ?_
          refine pm_R_lo pm_M270 (pc' := 23) rfl rfl rfl ?_
          refine pm_R_op pm_M270 (pc' := 24) (st' := [.int 1, .int x3_299, .ref 41, .int x2_299]) rfl rfl rfl ?_
          refine pm_R_cv pm_M270 (pc' := 27) (a := 41) (ra := [.int 1, .int x3_299]) (rest := [.int x2_299]) (ls' := [.ref 41, .int x3_299, .int 1]) rfl rfl (Or.inl rfl) pm_M255 T.2.1 rfl (by decide) (Nat.lt_of_lt_of_le (by decide) T.1) rfl rfl (Nat.le_of_ble_eq_true rfl) rfl rfl ?_
          refine pm_R_lo pm_M255 (pc' := 1) rfl rfl rfl ?_
          refine rf_R_get pm_M255 T (pc' := 4) (v := .ref 49) rfl rfl rfl rfl ?_
          refine pm_R_op pm_M255 (pc' := 7) (st' := [.int 152, .ref 49]) rfl rfl rfl ?_
          refine pm_R_lo pm_M255 (pc' := 8) rfl rfl rfl ?_
          refine rf_R_get pm_M255 T (pc' := 11) (v := .int (m 44)) rfl rfl rfl rfl ?_
          refine sf_R_imulV pm_M255 (pc' := 12) rfl rfl sf_k152 B304 (by decide) (by decide) (by decide) e306 ?_
          refine pm_R_op pm_M255 (pc' := 13) (st' := [.int 2, .int z305, .ref 49]) rfl rfl rfl ?_
          refine sf_R_iaddV pm_M255 (pc' := 14) rfl rfl B307 sf_k2 (by decide) (by decide) e309 ?_
          refine pm_R_op pm_M255 (pc' := 15) (st' := [.int 3, .int z308, .ref 49]) rfl rfl rfl ?_
          refine pm_R_lo pm_M255 (pc' := 16) rfl rfl rfl ?_
          refine sf_R_imulV pm_M255 (pc' := 17) rfl rfl sf_k3 B302 (by decide) (by decide) (by decide) e312 ?_
          refine sf_R_iaddV pm_M255 (pc' := 18) rfl rfl B310 B313 (by decide) (by decide) e315 ?_
          refine pm_R_lo pm_M255 (pc' := 19) rfl rfl rfl ?_
          refine sf_R_iadd pm_M255 (pc' := 20) rfl rfl B316 sf_k1 (by decide) (by decide) (fun z336 e337 B338 => ?_)
          refine rf_R_ild pm_M255 T (pc' := 21) rfl e321 (by decide) (sf_in B338 (by decide) (by decide)) rfl (fun z339 ez340 => ?_)
          have e341 : (z336).toInt = 152 * ((m 44)).toInt + 3 * (x3_299).toInt + 3 := (sf_aux17 _ _ _ _ _ _ _ e306 e309 e312 e315 e337)
          have B342 : sf_B 0 5 z339 := ez340 ▸ rf_p49w b322 e341 B304 B302 (by decide) (by decide) (by decide)
          refine pm_R_ret pm_M255 (r := some (.int z339)) rfl (pm_ret_i _) ?_
          show pm_R _ 270 27 [.ref 41, .int a0, .int x2_299, .int x3_299] [.int z339, .int x2_299] _ _
          refine pm_R_lo pm_M270 (pc' := 28) rfl rfl rfl ?_
          refine pm_R_icmp pm_M270 (t := 35) (pc' := 31) rfl rfl rfl (fun c343 => ?_) (fun c343 => ?_)
          · skip
            refine pm_R_op pm_M270 (pc' := 36) (st' := [.int 0, .int x2_299]) rfl rfl rfl ?_
            refine sf_R_iadd pm_M270 (pc' := 37) rfl rfl Bx2_299 sf_k0 (by decide) (by decide) (fun z344 e345 B346 => ?_)
            refine pm_R_lo pm_M270 (pc' := 38) (ls' := [.ref 41, .int a0, .int z344, .int x3_299]) (st' := []) rfl rfl rfl ?_
            refine sf_R_iinc pm_M270 (pc' := 41) (ls' := fun z => [.ref 41, .int a0, .int z344, .int z]) rfl B302 rfl (by decide) (by decide) (by decide) (fun _ => rfl) rfl (fun z347 e348 B349 => ?_)
            show pm_R _ 270 41 [.ref 41, .int a0, .int z344, .int z347] [] _ _
            refine pm_R_br pm_M270 (pc' := 4) rfl rfl ?_
            exact ih_299 _ (sf_up hN_299 e348 B302 (by decide) (by decide)) z344 z347 B346 (sf_weak B349 (by decide) (by decide)) rfl
          · have B350 : sf_B 0 5 a0 := sf_eqR (Classical.not_not.mp c343) B342
            refine pm_R_op pm_M270 (pc' := 32) (st' := [.int 1, .int x2_299]) rfl rfl rfl ?_
            refine pm_R_br pm_M270 (pc' := 36) rfl rfl ?_
            refine sf_R_iany pm_M270 (pc' := 37) (st := []) rfl rfl rfl (fun z354 => ?_)
            refine pm_R_lo pm_M270 (pc' := 38) (ls' := [.ref 41, .int a0, .int z354, .int x3_299]) (st' := []) rfl rfl rfl ?_
            refine sf_R_iinc pm_M270 (pc' := 41) (ls' := fun z => [.ref 41, .int a0, .int z354, .int z]) rfl B302 rfl (by decide) (by decide) (by decide) (fun _ => rfl) rfl (fun z355 e356 B357 => ?_)
            show pm_R _ 270 41 [.ref 41, .int a0, .int z354, .int z355] [] _ _
            refine pm_R_br pm_M270 (pc' := 4) rfl rfl ?_
            exact ih_299 _ (sf_up hN_299 e356 B302 (by decide) (by decide)) z354 z355 (sf_any z354) (sf_weak B357 (by decide) (by decide)) rfl
  exact L_299 _ 0 0 (sf_weak sf_k0 (by decide) (by decide)) (sf_weak sf_k0 (by decide) (by decide)) rfl
