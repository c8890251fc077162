set_option maxRecDepth 100000 in
set_option maxHeartbeats 4000000 in
/-- SilentTableModel.findByValue -/
theorem rf_c224 {d : Nat} {m : Nat → Int32} {w : Int64} {h : pm_H} {Q : Option Value → pm_H → Prop}  (T : rf_T m w h)  (K : ∀ (m_q : Nat → Int32) (w_q : Int64) (h_q : pm_H), rf_T m_q w_q h_q → rf_G [56] h h_q → rf_W [] m m_q → Q none h_q) : pm_R (d + 3) 224 0 [.ref 41, pm_no, pm_no, pm_no, pm_no] [] h Q := by
  refine pm_R_op pm_M224 (pc_q := 1) (st_q := [.int 0]) rfl rfl rfl ?_
  refine pm_R_lo pm_M224 (pc_q := 2) (ls_q := [.ref 41, .int 0, pm_no, pm_no, pm_no]) (st_q := []) rfl rfl rfl ?_
  have L_768009 : ∀ (N : Nat) (h_768009 : pm_H) (m_768009 : Nat → Int32) (w_768009 : Int64) (x1_768009 : Int32), rf_T m_768009 w_768009 h_768009 → rf_G [56] h h_768009 → rf_W [] m m_768009 → sf_B 0 43200 x1_768009 → (43200 - x1_768009.toInt).toNat = N → pm_R (d + 3) 224 2 [.ref 41, .int x1_768009, pm_no, pm_no, pm_no] [] h_768009 Q := by
    intro N
    induction N using Nat.strongRecOn with
    | ind N ih_768009 =>
      intro h_768009 m_768009 w_768009 x1_768009 T_768009 F_768009 W_768009 Bx1_768009 hN_768009
      have W768012 : rf_W [] m m_768009 := (rf_W.refl [] m).trans W_768009 (by decide)
      refine pm_R_lo pm_M224 (pc_q := 3) rfl rfl rfl ?_
      refine pm_R_lo pm_M224 (pc_q := 4) rfl rfl rfl ?_
      refine rf_R_get pm_M224 T_768009 (pc_q := 7) (v := .ref 56) rfl rfl rfl rfl ?_
      obtain ⟨f768013, e768014⟩ := T_768009.2.2.2.1 56 (by decide) (by decide)
      refine pm_R_alen pm_M224 (pc_q := 8) (v := 43200) rfl e768014 (by decide) (Nat.lt_of_lt_of_le (by decide) T_768009.1) (by decide) rfl rfl ?_
      refine pm_R_icmp pm_M224 (t := 24) (pc_q := 11) rfl rfl rfl (fun c768016 => ?_) (fun c768016 => ?_)
      · have B768017 : sf_B 43200 43200 x1_768009 := sf_leR c768016 sf_k43200 Bx1_768009
        refine pm_R_op pm_M224 (pc_q := 25) (st_q := [.int 0]) rfl rfl rfl ?_
        refine pm_R_lo pm_M224 (pc_q := 26) (ls_q := [.ref 41, .int 0, pm_no, pm_no, pm_no]) (st_q := []) rfl rfl rfl ?_
        have L_1166392 : ∀ (N : Nat) (h_1166392 : pm_H) (m_1166392 : Nat → Int32) (w_1166392 : Int64) (x1_1166392 : Int32) (g2_1166392 : Value), rf_T m_1166392 w_1166392 h_1166392 → rf_G [56] h h_1166392 → rf_W [] m_768009 m_1166392 → sf_B 0 12 x1_1166392 → g2_1166392.category = 1 → (12 - x1_1166392.toInt).toNat = N → pm_R (d + 3) 224 26 [.ref 41, .int x1_1166392, g2_1166392, pm_no, pm_no] [] h_1166392 Q := by
          intro N
          induction N using Nat.strongRecOn with
          | ind N ih_1166392 =>
            intro h_1166392 m_1166392 w_1166392 x1_1166392 g2_1166392 T_1166392 F_1166392 W_1166392 Bx1_1166392 Cg2_1166392 hN_1166392
            have W1166395 : rf_W [] m m_1166392 := W768012.trans W_1166392 (by decide)
            have W1166396 : rf_W [] m m_1166392 := W_768009.trans W_1166392 (by decide)
            refine pm_R_lo pm_M224 (pc_q := 27) rfl rfl rfl ?_
            refine pm_R_lo pm_M224 (pc_q := 28) rfl rfl rfl ?_
            have B1166397 : sf_B 0 12 (m_1166392 24) := T_1166392.2.2.1 24
            refine rf_R_get pm_M224 T_1166392 (pc_q := 31) (v := .int (m_1166392 24)) rfl rfl rfl rfl ?_
            refine pm_R_icmp pm_M224 (t := 95) (pc_q := 34) rfl rfl rfl (fun c1166398 => ?_) (fun c1166398 => ?_)
            · skip
              refine pm_R_op pm_M224 (pc_q := 96) (st_q := [.int 1]) rfl rfl rfl ?_
              refine pm_R_lo pm_M224 (pc_q := 97) (ls_q := [.ref 41, .int 1, g2_1166392, pm_no, pm_no]) (st_q := []) rfl rfl rfl ?_
              have L_1280108 : ∀ (N : Nat) (h_1280108 : pm_H) (m_1280108 : Nat → Int32) (w_1280108 : Int64) (x1_1280108 : Int32) (g2_1280108 : Value) (g3_1280108 : Value) (g4_1280108 : Value), rf_T m_1280108 w_1280108 h_1280108 → rf_G [56] h h_1280108 → rf_W [] m_1166392 m_1280108 → sf_B 1 12 x1_1280108 → g2_1280108.category = 1 → g3_1280108.category = 1 → g4_1280108.category = 1 → (12 - x1_1280108.toInt).toNat = N → pm_R (d + 3) 224 97 [.ref 41, .int x1_1280108, g2_1280108, g3_1280108, g4_1280108] [] h_1280108 Q := by
                intro N
                induction N using Nat.strongRecOn with
                | ind N ih_1280108 =>
                  intro h_1280108 m_1280108 w_1280108 x1_1280108 g2_1280108 g3_1280108 g4_1280108 T_1280108 F_1280108 W_1280108 Bx1_1280108 Cg2_1280108 Cg3_1280108 Cg4_1280108 hN_1280108
                  have W1280111 : rf_W [] m m_1280108 := W1166395.trans W_1280108 (by decide)
                  have W1280112 : rf_W [] m m_1280108 := W1166396.trans W_1280108 (by decide)
                  have W1280113 : rf_W [] m_768009 m_1280108 := W_1166392.trans W_1280108 (by decide)
                  refine pm_R_lo pm_M224 (pc_q := 98) rfl rfl rfl ?_
                  refine pm_R_lo pm_M224 (pc_q := 99) rfl rfl rfl ?_
                  have B1280114 : sf_B 0 12 (m_1280108 24) := T_1280108.2.2.1 24
                  refine rf_R_get pm_M224 T_1280108 (pc_q := 102) (v := .int (m_1280108 24)) rfl rfl rfl rfl ?_
                  refine pm_R_icmp pm_M224 (t := 173) (pc_q := 105) (pm_q224_1 (Nat.le_of_ble_eq_true rfl)) rfl rfl (fun c1280115 => ?_) (fun c1280115 => ?_)
                  · skip
                    exact pm_R_ret pm_M224 (r := none) (pm_q224_1 (Nat.le_of_ble_eq_true rfl)) rfl (K m_1280108 w_1280108 h_1280108 T_1280108 F_1280108 W1280111)
                  · have B1280116 : sf_B 1 11 x1_1280108 := sf_ltL (Int32.not_le.mp c1280115) Bx1_1280108 B1280114
                    have B1280117 : sf_B 2 12 (m_1280108 24) := sf_ltR (Int32.not_le.mp c1280115) Bx1_1280108 B1280114
                    refine pm_R_op pm_M224 (pc_q := 106) (st_q := [.int 0]) (pm_q224_1 (Nat.le_of_ble_eq_true rfl)) rfl rfl ?_
                    refine pm_R_lo pm_M224 (pc_q := 107) (ls_q := [.ref 41, .int x1_1280108, .int 0, g3_1280108, g4_1280108]) (st_q := []) (pm_q224_1 (Nat.le_of_ble_eq_true rfl)) rfl rfl ?_
                    have L_1289532 : ∀ (N : Nat) (h_1289532 : pm_H) (m_1289532 : Nat → Int32) (w_1289532 : Int64) (x2_1289532 : Int32) (g3_1289532 : Value) (g4_1289532 : Value), rf_T m_1289532 w_1289532 h_1289532 → rf_G [56] h h_1289532 → rf_W [] m_1280108 m_1289532 → sf_B 0 11 x2_1289532 → g3_1289532.category = 1 → g4_1289532.category = 1 → (11 - x2_1289532.toInt).toNat = N → pm_R (d + 3) 224 107 [.ref 41, .int x1_1280108, .int x2_1289532, g3_1289532, g4_1289532] [] h_1289532 Q := by
                      intro N
                      induction N using Nat.strongRecOn with
                      | ind N ih_1289532 =>
                        intro h_1289532 m_1289532 w_1289532 x2_1289532 g3_1289532 g4_1289532 T_1289532 F_1289532 W_1289532 Bx2_1289532 Cg3_1289532 Cg4_1289532 hN_1289532
                        have B1289535 : sf_B 2 12 (m_1289532 24) := by rw [W_1289532 24 (by decide)]; exact B1280117
                        have W1289536 : rf_W [] m m_1289532 := W1280111.trans W_1289532 (by decide)
                        have W1289537 : rf_W [] m m_1289532 := W1280112.trans W_1289532 (by decide)
                        have W1289538 : rf_W [] m_768009 m_1289532 := W1280113.trans W_1289532 (by decide)
                        have W1289539 : rf_W [] m_1166392 m_1289532 := W_1280108.trans W_1289532 (by decide)
                        refine pm_R_lo pm_M224 (pc_q := 108) (pm_q224_1 (Nat.le_of_ble_eq_true rfl)) rfl rfl ?_
                        refine pm_R_lo pm_M224 (pc_q := 109) (pm_q224_1 (Nat.le_of_ble_eq_true rfl)) rfl rfl ?_
                        refine sf_R_iadd pm_M224 (pc_q := 110) (pm_q224_1 (Nat.le_of_ble_eq_true rfl)) rfl Bx2_1289532 B1280116 (by decide) (by decide) (fun z1289540 e1289541 B1289542 => ?_)
                        refine pm_R_lo pm_M224 (pc_q := 111) (pm_q224_1 (Nat.le_of_ble_eq_true rfl)) rfl rfl ?_
                        refine rf_R_get pm_M224 T_1289532 (pc_q := 114) (v := .int (m_1289532 24)) (pm_q224_1 (Nat.le_of_ble_eq_true rfl)) rfl rfl rfl ?_
                        refine pm_R_icmp pm_M224 (t := 167) (pc_q := 117) (pm_q224_1 (Nat.le_of_ble_eq_true rfl)) rfl rfl (fun c1289543 => ?_) (fun c1289543 => ?_)
                        · have B1289544 : sf_B 2 22 z1289540 := sf_leR c1289543 B1289535 B1289542
                          refine sf_R_iinc pm_M224 (pc_q := 170) (ls_q := fun z => [.ref 41, .int z, .int x2_1289532, g3_1289532, g4_1289532]) (pm_q224_1 (Nat.le_of_ble_eq_true rfl)) B1280116 rfl (by decide) (by decide) (by decide) (fun _ => rfl) rfl (fun z1289545 e1289546 B1289547 => ?_)
                          show pm_R _ 224 170 [.ref 41, .int z1289545, .int x2_1289532, g3_1289532, g4_1289532] [] _ _
                          refine pm_R_br pm_M224 (pc_q := 97) (pm_q224_1 (Nat.le_of_ble_eq_true rfl)) rfl ?_
                          exact ih_1280108 _ (sf_up hN_1280108 e1289546 B1280116 (by decide) (by decide)) h_1289532 m_1289532 w_1289532 z1289545 (.int x2_1289532) (g3_1289532) (g4_1289532) T_1289532 F_1289532 W1289539 (sf_weak B1289547 (by decide) (by decide)) rfl Cg3_1289532 Cg4_1289532 rfl
                        · have B1289548 : sf_B 1 11 z1289540 := sf_ltL (Int32.not_le.mp c1289543) B1289542 B1289535
                          have B1289549 : sf_B 0 10 x2_1289532 := sf_addL e1289541 B1289548 B1280116 Bx2_1289532
                          refine pm_R_op pm_M224 (pc_q := 118) (st_q := [.int 0]) (pm_q224_1 (Nat.le_of_ble_eq_true rfl)) rfl rfl ?_
                          refine pm_R_lo pm_M224 (pc_q := 119) (ls_q := [.ref 41, .int x1_1280108, .int x2_1289532, .int 0, g4_1289532]) (st_q := []) (pm_q224_1 (Nat.le_of_ble_eq_true rfl)) rfl rfl ?_
                          have L_1290070 : ∀ (N : Nat) (h_1290070 : pm_H) (m_1290070 : Nat → Int32) (w_1290070 : Int64) (x3_1290070 : Int32) (g4_1290070 : Value), rf_T m_1290070 w_1290070 h_1290070 → rf_G [56] h h_1290070 → rf_W [] m_1289532 m_1290070 → sf_B 0 10 x3_1290070 → g4_1290070.category = 1 → (10 - x3_1290070.toInt).toNat = N → pm_R (d + 3) 224 119 [.ref 41, .int x1_1280108, .int x2_1289532, .int x3_1290070, g4_1290070] [] h_1290070 Q := by
                            intro N
                            induction N using Nat.strongRecOn with
                            | ind N ih_1290070 =>
                              intro h_1290070 m_1290070 w_1290070 x3_1290070 g4_1290070 T_1290070 F_1290070 W_1290070 Bx3_1290070 Cg4_1290070 hN_1290070
                              have B1290073 : sf_B 2 12 (m_1290070 24) := by rw [W_1290070 24 (by decide)]; exact B1289535
                              have W1290074 : rf_W [] m m_1290070 := W1289536.trans W_1290070 (by decide)
                              have W1290075 : rf_W [] m m_1290070 := W1289537.trans W_1290070 (by decide)
                              have W1290076 : rf_W [] m_768009 m_1290070 := W1289538.trans W_1290070 (by decide)
                              have W1290077 : rf_W [] m_1166392 m_1290070 := W1289539.trans W_1290070 (by decide)
                              have W1290078 : rf_W [] m_1280108 m_1290070 := W_1289532.trans W_1290070 (by decide)
                              refine pm_R_lo pm_M224 (pc_q := 120) (pm_q224_1 (Nat.le_of_ble_eq_true rfl)) rfl rfl ?_
                              refine pm_R_lo pm_M224 (pc_q := 121) (pm_q224_1 (Nat.le_of_ble_eq_true rfl)) rfl rfl ?_
                              refine pm_R_cv pm_M224 (pc_q := 124) (a := 41) (ra := []) (rest := [.int x3_1290070]) (ls_q := [.ref 41]) (pm_q224_1 (Nat.le_of_ble_eq_true rfl)) rfl (Or.inl rfl) pm_M209 T_1290070.2.1 rfl (by decide) (Nat.lt_of_lt_of_le (by decide) T_1290070.1) rfl rfl (Nat.le_of_ble_eq_true rfl) rfl rfl ?_
                              refine pm_R_lo pm_M209 (pc_q := 1) rfl rfl rfl ?_
                              refine rf_R_get pm_M209 T_1290070 (pc_q := 4) (v := .ref 47) rfl rfl rfl rfl ?_
                              refine pm_R_op pm_M209 (pc_q := 6) (st_q := [.int 100, .ref 47]) rfl rfl rfl ?_
                              refine pm_R_lo pm_M209 (pc_q := 7) rfl rfl rfl ?_
                              have B1290079 : sf_B 0 1 (m_1290070 23) := T_1290070.2.2.1 23
                              refine rf_R_get pm_M209 T_1290070 (pc_q := 10) (v := .int (m_1290070 23)) rfl rfl rfl rfl ?_
                              refine sf_R_imul pm_M209 (pc_q := 11) rfl rfl sf_k100 B1290079 (by decide) (by decide) (by decide) (fun z1290080 e1290081 B1290082 => ?_)
                              obtain ⟨f1290083, e1290084, b1290085⟩ := T_1290070.2.2.2.1 47 (by decide) (by decide)
                              refine rf_R_ild pm_M209 T_1290070 (pc_q := 12) rfl e1290084 (by decide) (sf_in B1290082 (by decide) (by decide)) rfl (fun z1290086 ez1290087 => ?_)
                              have e1290088 : (z1290080).toInt = 100 * ((m_1290070 23)).toInt + 0 := (sf_aux2 _ _ e1290081)
                              have B1290089 : sf_B 0 10 z1290086 := ez1290087 ▸ rf_p47a b1290085 e1290088 B1290079 (by decide)
                              refine pm_R_ret pm_M209 (r := some (.int z1290086)) rfl (pm_ret_i _) ?_
                              show pm_R _ 224 124 [.ref 41, .int x1_1280108, .int x2_1289532, .int x3_1290070, g4_1290070] [.int z1290086, .int x3_1290070] _ _
                              refine pm_R_icmp pm_M224 (t := 161) (pc_q := 127) (pm_q224_1 (Nat.le_of_ble_eq_true rfl)) rfl rfl (fun c1290090 => ?_) (fun c1290090 => ?_)
                              · skip
                                refine sf_R_iinc pm_M224 (pc_q := 164) (ls_q := fun z => [.ref 41, .int x1_1280108, .int z, .int x3_1290070, g4_1290070]) (pm_q224_1 (Nat.le_of_ble_eq_true rfl)) B1289549 rfl (by decide) (by decide) (by decide) (fun _ => rfl) rfl (fun z1290091 e1290092 B1290093 => ?_)
                                show pm_R _ 224 164 [.ref 41, .int x1_1280108, .int z1290091, .int x3_1290070, g4_1290070] [] _ _
                                refine pm_R_br pm_M224 (pc_q := 107) (pm_q224_1 (Nat.le_of_ble_eq_true rfl)) rfl ?_
                                exact ih_1289532 _ (sf_up hN_1289532 e1290092 B1289549 (by decide) (by decide)) h_1290070 m_1290070 w_1290070 z1290091 (.int x3_1290070) (g4_1290070) T_1290070 F_1290070 W1290078 (sf_weak B1290093 (by decide) (by decide)) rfl Cg4_1290070 rfl
                              · have B1290094 : sf_B 0 9 x3_1290070 := sf_ltL (Int32.not_le.mp c1290090) Bx3_1290070 B1290089
                                have B1290095 : sf_B 1 10 z1290086 := sf_ltR (Int32.not_le.mp c1290090) Bx3_1290070 B1290089
                                refine pm_R_lo pm_M224 (pc_q := 128) (pm_q224_1 (Nat.le_of_ble_eq_true rfl)) rfl rfl ?_
                                refine pm_R_lo pm_M224 (pc_q := 130) (ls_q := [.ref 41, .int x1_1280108, .int x2_1289532, .int x3_1290070, .int x2_1289532]) (st_q := []) (pm_q224_1 (Nat.le_of_ble_eq_true rfl)) rfl rfl ?_
                                have L_1290182 : ∀ (N : Nat) (h_1290182 : pm_H) (m_1290182 : Nat → Int32) (w_1290182 : Int64) (x4_1290182 : Int32), rf_T m_1290182 w_1290182 h_1290182 → rf_G [56] h h_1290182 → rf_W [] m_1290070 m_1290182 → sf_B 0 11 x4_1290182 → (11 - x4_1290182.toInt).toNat = N → pm_R (d + 3) 224 130 [.ref 41, .int x1_1280108, .int x2_1289532, .int x3_1290070, .int x4_1290182] [] h_1290182 Q := by
                                  intro N
                                  induction N using Nat.strongRecOn with
                                  | ind N ih_1290182 =>
                                    intro h_1290182 m_1290182 w_1290182 x4_1290182 T_1290182 F_1290182 W_1290182 Bx4_1290182 hN_1290182
                                    have B1290185 : sf_B 2 12 (m_1290182 24) := by rw [W_1290182 24 (by decide)]; exact B1290073
                                    have W1290186 : rf_W [] m m_1290182 := W1290074.trans W_1290182 (by decide)
                                    have W1290187 : rf_W [] m m_1290182 := W1290075.trans W_1290182 (by decide)
                                    have W1290188 : rf_W [] m_768009 m_1290182 := W1290076.trans W_1290182 (by decide)
                                    have W1290189 : rf_W [] m_1166392 m_1290182 := W1290077.trans W_1290182 (by decide)
                                    have W1290190 : rf_W [] m_1280108 m_1290182 := W1290078.trans W_1290182 (by decide)
                                    have W1290191 : rf_W [] m_1289532 m_1290182 := W_1290070.trans W_1290182 (by decide)
                                    refine pm_R_lo pm_M224 (pc_q := 132) (pm_q224_1 (Nat.le_of_ble_eq_true rfl)) rfl rfl ?_
                                    refine pm_R_lo pm_M224 (pc_q := 133) (pm_q224_1 (Nat.le_of_ble_eq_true rfl)) rfl rfl ?_
                                    refine pm_R_lo pm_M224 (pc_q := 134) (pm_q224_1 (Nat.le_of_ble_eq_true rfl)) rfl rfl ?_
                                    refine sf_R_iaddV pm_M224 (pc_q := 135) (pm_q224_1 (Nat.le_of_ble_eq_true rfl)) rfl Bx2_1289532 B1280116 (by decide) (by decide) e1289541 ?_
                                    refine pm_R_icmp pm_M224 (t := 155) (pc_q := 138) (pm_q224_1 (Nat.le_of_ble_eq_true rfl)) rfl rfl (fun c1290192 => ?_) (fun c1290192 => ?_)
                                    · have B1290193 : sf_B 1 11 x4_1290182 := sf_leR c1290192 B1289548 Bx4_1290182
                                      refine sf_R_iinc pm_M224 (pc_q := 158) (ls_q := fun z => [.ref 41, .int x1_1280108, .int x2_1289532, .int z, .int x4_1290182]) (pm_q224_1 (Nat.le_of_ble_eq_true rfl)) B1290094 rfl (by decide) (by decide) (by decide) (fun _ => rfl) rfl (fun z1290194 e1290195 B1290196 => ?_)
                                      show pm_R _ 224 158 [.ref 41, .int x1_1280108, .int x2_1289532, .int z1290194, .int x4_1290182] [] _ _
                                      refine pm_R_br pm_M224 (pc_q := 119) (pm_q224_1 (Nat.le_of_ble_eq_true rfl)) rfl ?_
                                      exact ih_1290070 _ (sf_up hN_1290070 e1290195 B1290094 (by decide) (by decide)) h_1290182 m_1290182 w_1290182 z1290194 (.int x4_1290182) T_1290182 F_1290182 W1290191 (sf_weak B1290196 (by decide) (by decide)) rfl rfl
                                    · have B1290197 : sf_B 0 10 x4_1290182 := sf_ltL (Int32.not_le.mp c1290192) Bx4_1290182 B1289548
                                      refine pm_R_lo pm_M224 (pc_q := 139) (pm_q224_1 (Nat.le_of_ble_eq_true rfl)) rfl rfl ?_
                                      refine pm_R_lo pm_M224 (pc_q := 140) (pm_q224_1 (Nat.le_of_ble_eq_true rfl)) rfl rfl ?_
                                      refine pm_R_lo pm_M224 (pc_q := 141) (pm_q224_1 (Nat.le_of_ble_eq_true rfl)) rfl rfl ?_
                                      refine pm_R_lo pm_M224 (pc_q := 143) (pm_q224_1 (Nat.le_of_ble_eq_true rfl)) rfl rfl ?_
                                      refine pm_R_lo pm_M224 (pc_q := 144) (pm_q224_1 (Nat.le_of_ble_eq_true rfl)) rfl rfl ?_
                                      refine pm_R_lo pm_M224 (pc_q := 145) (pm_q224_1 (Nat.le_of_ble_eq_true rfl)) rfl rfl ?_
                                      refine sf_R_iaddV pm_M224 (pc_q := 146) (pm_q224_1 (Nat.le_of_ble_eq_true rfl)) rfl Bx2_1289532 B1280116 (by decide) (by decide) e1289541 ?_
                                      refine pm_R_cv pm_M224 (pc_q := 149) (a := 41) (ra := [.int z1289540, .int x4_1290182, .int x2_1289532, .int x3_1290070]) (rest := []) (ls_q := [.ref 41, .int x3_1290070, .int x2_1289532, .int x4_1290182, .int z1289540, pm_no, pm_no, pm_no, pm_no, pm_no, pm_no, pm_no]) (pm_q224_1 (Nat.le_of_ble_eq_true rfl)) rfl (Or.inl rfl) pm_M226 T_1290182.2.1 rfl (by decide) (Nat.lt_of_lt_of_le (by decide) T_1290182.1) rfl rfl (Nat.le_of_ble_eq_true rfl) rfl rfl ?_
                                      refine rf_c226 (d := d + 0) T_1290182 B1290094 (sf_weak B1289549 (by decide) (by decide)) B1290197 (sf_weak B1289548 (by decide) (by decide)) (fun m1290200 w1290201 h1290202 T1290203 F1290204 W1290205 => ?_)
                                      have F1290206 := F_1290182.trans F1290204 (by decide)
                                      have B1290207 : sf_B 2 12 (m1290200 24) := by rw [W1290205 24 (by decide)]; exact B1290185
                                      have W1290208 : rf_W [] m m1290200 := W1290186.trans W1290205 (by decide)
                                      have W1290209 : rf_W [] m m1290200 := W1290187.trans W1290205 (by decide)
                                      have W1290210 : rf_W [] m_768009 m1290200 := W1290188.trans W1290205 (by decide)
                                      have W1290211 : rf_W [] m_1166392 m1290200 := W1290189.trans W1290205 (by decide)
                                      have W1290212 : rf_W [] m_1280108 m1290200 := W1290190.trans W1290205 (by decide)
                                      have W1290213 : rf_W [] m_1289532 m1290200 := W1290191.trans W1290205 (by decide)
                                      have W1290214 : rf_W [] m_1290070 m1290200 := W_1290182.trans W1290205 (by decide)
                                      show pm_R _ 224 149 [.ref 41, .int x1_1280108, .int x2_1289532, .int x3_1290070, .int x4_1290182] [] _ _
                                      refine sf_R_iinc pm_M224 (pc_q := 152) (ls_q := fun z => [.ref 41, .int x1_1280108, .int x2_1289532, .int x3_1290070, .int z]) (pm_q224_1 (Nat.le_of_ble_eq_true rfl)) B1290197 rfl (by decide) (by decide) (by decide) (fun _ => rfl) rfl (fun z1290215 e1290216 B1290217 => ?_)
                                      show pm_R _ 224 152 [.ref 41, .int x1_1280108, .int x2_1289532, .int x3_1290070, .int z1290215] [] _ _
                                      refine pm_R_br pm_M224 (pc_q := 130) (pm_q224_1 (Nat.le_of_ble_eq_true rfl)) rfl ?_
                                      exact ih_1290182 _ (sf_up hN_1290182 e1290216 B1290197 (by decide) (by decide)) h1290202 m1290200 w1290201 z1290215 T1290203 F1290206 W1290214 (sf_weak B1290217 (by decide) (by decide)) rfl
                                exact L_1290182 _ h_1290070 m_1290070 w_1290070 x2_1289532 T_1290070 F_1290070 (rf_W.refl _ _) (sf_weak B1289549 (by decide) (by decide)) rfl
                          exact L_1290070 _ h_1289532 m_1289532 w_1289532 0 (g4_1289532) T_1289532 F_1289532 (rf_W.refl _ _) (sf_weak sf_k0 (by decide) (by decide)) Cg4_1289532 rfl
                    exact L_1289532 _ h_1280108 m_1280108 w_1280108 0 (g3_1280108) (g4_1280108) T_1280108 F_1280108 (rf_W.refl _ _) (sf_weak sf_k0 (by decide) (by decide)) Cg3_1280108 Cg4_1280108 rfl
              exact L_1280108 _ h_1166392 m_1166392 w_1166392 1 (g2_1166392) (pm_no) (pm_no) T_1166392 F_1166392 (rf_W.refl _ _) (sf_weak sf_k1 (by decide) (by decide)) Cg2_1166392 rfl rfl rfl
            · have B1290218 : sf_B 0 11 x1_1166392 := sf_ltL (Int32.not_le.mp c1166398) Bx1_1166392 B1166397
              have B1290219 : sf_B 1 12 (m_1166392 24) := sf_ltR (Int32.not_le.mp c1166398) Bx1_1166392 B1166397
              refine pm_R_op pm_M224 (pc_q := 35) (st_q := [.int 0]) rfl rfl rfl ?_
              refine pm_R_lo pm_M224 (pc_q := 36) (ls_q := [.ref 41, .int x1_1166392, .int 0, pm_no, pm_no]) (st_q := []) rfl rfl rfl ?_
              have L_1291010 : ∀ (N : Nat) (h_1291010 : pm_H) (m_1291010 : Nat → Int32) (w_1291010 : Int64) (x2_1291010 : Int32), rf_T m_1291010 w_1291010 h_1291010 → rf_G [56] h h_1291010 → rf_W [] m_1166392 m_1291010 → sf_B 0 16 x2_1291010 → (16 - x2_1291010.toInt).toNat = N → pm_R (d + 3) 224 36 [.ref 41, .int x1_1166392, .int x2_1291010, pm_no, pm_no] [] h_1291010 Q := by
                intro N
                induction N using Nat.strongRecOn with
                | ind N ih_1291010 =>
                  intro h_1291010 m_1291010 w_1291010 x2_1291010 T_1291010 F_1291010 W_1291010 Bx2_1291010 hN_1291010
                  have B1291013 : sf_B 1 12 (m_1291010 24) := by rw [W_1291010 24 (by decide)]; exact B1290219
                  have W1291014 : rf_W [] m m_1291010 := W1166395.trans W_1291010 (by decide)
                  have W1291015 : rf_W [] m m_1291010 := W1166396.trans W_1291010 (by decide)
                  have W1291016 : rf_W [] m_768009 m_1291010 := W_1166392.trans W_1291010 (by decide)
                  refine pm_R_lo pm_M224 (pc_q := 37) rfl rfl rfl ?_
                  refine pm_R_lo pm_M224 (pc_q := 38) rfl rfl rfl ?_
                  refine pm_R_cv pm_M224 (pc_q := 41) (a := 41) (ra := []) (rest := [.int x2_1291010]) (ls_q := [.ref 41]) rfl rfl (Or.inl rfl) pm_M203 T_1291010.2.1 rfl (by decide) (Nat.lt_of_lt_of_le (by decide) T_1291010.1) rfl rfl (Nat.le_of_ble_eq_true rfl) rfl rfl ?_
                  refine pm_R_lo pm_M203 (pc_q := 1) rfl rfl rfl ?_
                  refine rf_R_get pm_M203 T_1291010 (pc_q := 4) (v := .ref 47) rfl rfl rfl rfl ?_
                  refine pm_R_op pm_M203 (pc_q := 6) (st_q := [.int 100, .ref 47]) rfl rfl rfl ?_
                  refine pm_R_lo pm_M203 (pc_q := 7) rfl rfl rfl ?_
                  have B1291017 : sf_B 0 1 (m_1291010 23) := T_1291010.2.2.1 23
                  refine rf_R_get pm_M203 T_1291010 (pc_q := 10) (v := .int (m_1291010 23)) rfl rfl rfl rfl ?_
                  refine sf_R_imul pm_M203 (pc_q := 11) rfl rfl sf_k100 B1291017 (by decide) (by decide) (by decide) (fun z1291018 e1291019 B1291020 => ?_)
                  refine pm_R_op pm_M203 (pc_q := 12) (st_q := [.int 1, .int z1291018, .ref 47]) rfl rfl rfl ?_
                  refine sf_R_iadd pm_M203 (pc_q := 13) rfl rfl B1291020 sf_k1 (by decide) (by decide) (fun z1291021 e1291022 B1291023 => ?_)
                  obtain ⟨f1291024, e1291025, b1291026⟩ := T_1291010.2.2.2.1 47 (by decide) (by decide)
                  refine rf_R_ild pm_M203 T_1291010 (pc_q := 14) rfl e1291025 (by decide) (sf_in B1291023 (by decide) (by decide)) rfl (fun z1291027 ez1291028 => ?_)
                  have e1291029 : (z1291021).toInt = 100 * ((m_1291010 23)).toInt + 1 := (sf_aux7 _ _ _ e1291019 e1291022)
                  have B1291030 : sf_B 0 16 z1291027 := ez1291028 ▸ rf_p47b b1291026 e1291029 B1291017 (by decide)
                  refine pm_R_ret pm_M203 (r := some (.int z1291027)) rfl (pm_ret_i _) ?_
                  show pm_R _ 224 41 [.ref 41, .int x1_1166392, .int x2_1291010, pm_no, pm_no] [.int z1291027, .int x2_1291010] _ _
                  refine pm_R_icmp pm_M224 (t := 89) (pc_q := 44) rfl rfl rfl (fun c1291031 => ?_) (fun c1291031 => ?_)
                  · skip
                    refine sf_R_iinc pm_M224 (pc_q := 92) (ls_q := fun z => [.ref 41, .int z, .int x2_1291010, pm_no, pm_no]) rfl B1290218 rfl (by decide) (by decide) (by decide) (fun _ => rfl) rfl (fun z1291032 e1291033 B1291034 => ?_)
                    show pm_R _ 224 92 [.ref 41, .int z1291032, .int x2_1291010, pm_no, pm_no] [] _ _
                    refine pm_R_br pm_M224 (pc_q := 26) rfl rfl ?_
                    exact ih_1166392 _ (sf_up hN_1166392 e1291033 B1290218 (by decide) (by decide)) h_1291010 m_1291010 w_1291010 z1291032 (.int x2_1291010) T_1291010 F_1291010 W1291016 (sf_weak B1291034 (by decide) (by decide)) rfl rfl
                  · have B1291035 : sf_B 0 15 x2_1291010 := sf_ltL (Int32.not_le.mp c1291031) Bx2_1291010 B1291030
                    have B1291036 : sf_B 1 16 z1291027 := sf_ltR (Int32.not_le.mp c1291031) Bx2_1291010 B1291030
                    refine pm_R_lo pm_M224 (pc_q := 45) rfl rfl rfl ?_
                    refine rf_R_get pm_M224 T_1291010 (pc_q := 48) (v := .ref 56) rfl rfl rfl rfl ?_
                    refine pm_R_lo pm_M224 (pc_q := 49) rfl rfl rfl ?_
                    refine pm_R_lo pm_M224 (pc_q := 50) rfl rfl rfl ?_
                    refine pm_R_op pm_M224 (pc_q := 51) (st_q := [.int 1, .int x2_1291010, .ref 41, .ref 56]) rfl rfl rfl ?_
                    refine pm_R_cv pm_M224 (pc_q := 54) (a := 41) (ra := [.int 1, .int x2_1291010]) (rest := [.ref 56]) (ls_q := [.ref 41, .int x2_1291010, .int 1]) rfl rfl (Or.inl rfl) pm_M205 T_1291010.2.1 rfl (by decide) (Nat.lt_of_lt_of_le (by decide) T_1291010.1) rfl rfl (Nat.le_of_ble_eq_true rfl) rfl rfl ?_
                    refine pm_R_lo pm_M205 (pc_q := 1) rfl rfl rfl ?_
                    refine rf_R_get pm_M205 T_1291010 (pc_q := 4) (v := .ref 47) rfl rfl rfl rfl ?_
                    refine pm_R_op pm_M205 (pc_q := 6) (st_q := [.int 100, .ref 47]) rfl rfl rfl ?_
                    refine pm_R_lo pm_M205 (pc_q := 7) rfl rfl rfl ?_
                    refine rf_R_get pm_M205 T_1291010 (pc_q := 10) (v := .int (m_1291010 23)) rfl rfl rfl rfl ?_
                    refine sf_R_imulV pm_M205 (pc_q := 11) rfl rfl sf_k100 B1291017 (by decide) (by decide) (by decide) e1291019 ?_
                    refine pm_R_op pm_M205 (pc_q := 13) (st_q := [.int 42, .int z1291018, .ref 47]) rfl rfl rfl ?_
                    refine sf_R_iadd pm_M205 (pc_q := 14) rfl rfl B1291020 sf_k42 (by decide) (by decide) (fun z1291037 e1291038 B1291039 => ?_)
                    refine pm_R_op pm_M205 (pc_q := 15) (st_q := [.int 3, .int z1291037, .ref 47]) rfl rfl rfl ?_
                    refine pm_R_lo pm_M205 (pc_q := 16) rfl rfl rfl ?_
                    refine sf_R_imul pm_M205 (pc_q := 17) rfl rfl sf_k3 B1291035 (by decide) (by decide) (by decide) (fun z1291040 e1291041 B1291042 => ?_)
                    refine sf_R_iadd pm_M205 (pc_q := 18) rfl rfl B1291039 B1291042 (by decide) (by decide) (fun z1291043 e1291044 B1291045 => ?_)
                    refine pm_R_lo pm_M205 (pc_q := 19) rfl rfl rfl ?_
                    refine sf_R_iadd pm_M205 (pc_q := 20) rfl rfl B1291045 sf_k1 (by decide) (by decide) (fun z1291046 e1291047 B1291048 => ?_)
                    refine rf_R_ild pm_M205 T_1291010 (pc_q := 21) rfl e1291025 (by decide) (sf_in B1291048 (by decide) (by decide)) rfl (fun z1291049 ez1291050 => ?_)
                    have e1291051 : (z1291046).toInt = 100 * ((m_1291010 23)).toInt + 3 * (x2_1291010).toInt + 43 := (sf_aux9 _ _ _ _ _ _ _ e1291019 e1291038 e1291041 e1291044 e1291047)
                    have B1291052 : sf_B 0 5 z1291049 := ez1291050 ▸ rf_p47k b1291026 e1291051 B1291017 B1291035 (by decide) (by decide) (by decide)
                    refine pm_R_ret pm_M205 (r := some (.int z1291049)) rfl (pm_ret_i _) ?_
                    show pm_R _ 224 54 [.ref 41, .int x1_1166392, .int x2_1291010, pm_no, pm_no] [.int z1291049, .ref 56] _ _
                    refine pm_R_lo pm_M224 (pc_q := 55) rfl rfl rfl ?_
                    refine pm_R_lo pm_M224 (pc_q := 56) rfl rfl rfl ?_
                    refine pm_R_lo pm_M224 (pc_q := 57) rfl rfl rfl ?_
                    refine pm_R_lo pm_M224 (pc_q := 58) rfl rfl rfl ?_
                    refine pm_R_op pm_M224 (pc_q := 59) (st_q := [.int 2, .int x2_1291010, .ref 41, .int x1_1166392, .int x1_1166392, .int z1291049, .ref 56]) rfl rfl rfl ?_
                    refine pm_R_cv pm_M224 (pc_q := 62) (a := 41) (ra := [.int 2, .int x2_1291010]) (rest := [.int x1_1166392, .int x1_1166392, .int z1291049, .ref 56]) (ls_q := [.ref 41, .int x2_1291010, .int 2]) rfl rfl (Or.inl rfl) pm_M205 T_1291010.2.1 rfl (by decide) (Nat.lt_of_lt_of_le (by decide) T_1291010.1) rfl rfl (Nat.le_of_ble_eq_true rfl) rfl rfl ?_
                    refine pm_R_lo pm_M205 (pc_q := 1) rfl rfl rfl ?_
                    refine rf_R_get pm_M205 T_1291010 (pc_q := 4) (v := .ref 47) rfl rfl rfl rfl ?_
                    refine pm_R_op pm_M205 (pc_q := 6) (st_q := [.int 100, .ref 47]) rfl rfl rfl ?_
                    refine pm_R_lo pm_M205 (pc_q := 7) rfl rfl rfl ?_
                    refine rf_R_get pm_M205 T_1291010 (pc_q := 10) (v := .int (m_1291010 23)) rfl rfl rfl rfl ?_
                    refine sf_R_imulV pm_M205 (pc_q := 11) rfl rfl sf_k100 B1291017 (by decide) (by decide) (by decide) e1291019 ?_
                    refine pm_R_op pm_M205 (pc_q := 13) (st_q := [.int 42, .int z1291018, .ref 47]) rfl rfl rfl ?_
                    refine sf_R_iaddV pm_M205 (pc_q := 14) rfl rfl B1291020 sf_k42 (by decide) (by decide) e1291038 ?_
                    refine pm_R_op pm_M205 (pc_q := 15) (st_q := [.int 3, .int z1291037, .ref 47]) rfl rfl rfl ?_
                    refine pm_R_lo pm_M205 (pc_q := 16) rfl rfl rfl ?_
                    refine sf_R_imulV pm_M205 (pc_q := 17) rfl rfl sf_k3 B1291035 (by decide) (by decide) (by decide) e1291041 ?_
                    refine sf_R_iaddV pm_M205 (pc_q := 18) rfl rfl B1291039 B1291042 (by decide) (by decide) e1291044 ?_
                    refine pm_R_lo pm_M205 (pc_q := 19) rfl rfl rfl ?_
                    refine sf_R_iadd pm_M205 (pc_q := 20) rfl rfl B1291045 sf_k2 (by decide) (by decide) (fun z1291053 e1291054 B1291055 => ?_)
                    refine rf_R_ild pm_M205 T_1291010 (pc_q := 21) rfl e1291025 (by decide) (sf_in B1291055 (by decide) (by decide)) rfl (fun z1291056 ez1291057 => ?_)
                    have e1291058 : (z1291053).toInt = 100 * ((m_1291010 23)).toInt + 3 * (x2_1291010).toInt + 44 := (sf_aux10 _ _ _ _ _ _ _ e1291019 e1291038 e1291041 e1291044 e1291054)
                    have B1291059 : sf_B 0 49 z1291056 := ez1291057 ▸ rf_p47v b1291026 e1291058 B1291017 B1291035 (by decide) (by decide) (by decide)
                    refine pm_R_ret pm_M205 (r := some (.int z1291056)) rfl (pm_ret_i _) ?_
                    show pm_R _ 224 62 [.ref 41, .int x1_1166392, .int x2_1291010, pm_no, pm_no] [.int z1291056, .int x1_1166392, .int x1_1166392, .int z1291049, .ref 56] _ _
                    refine pm_R_cs pm_M224 (pc_q := 65) (ra := [.int z1291056, .int x1_1166392, .int x1_1166392, .int z1291049]) (rest := [.ref 56]) (ls_q := [.int z1291049, .int x1_1166392, .int x1_1166392, .int z1291056]) rfl rfl (Or.inl rfl) pm_M225 rfl rfl (Nat.le_of_ble_eq_true rfl) rfl rfl ?_
                    refine pm_R_op pm_M225 (pc_q := 2) (st_q := [.int 50]) rfl rfl rfl ?_
                    refine pm_R_lo pm_M225 (pc_q := 3) rfl rfl rfl ?_
                    refine pm_R_lo pm_M225 (pc_q := 4) rfl rfl rfl ?_
                    refine pm_R_lo pm_M225 (pc_q := 5) rfl rfl rfl ?_
                    refine pm_R_cs pm_M225 (pc_q := 8) (ra := [.int x1_1166392, .int x1_1166392, .int z1291049]) (rest := [.int 50]) (ls_q := [.int z1291049, .int x1_1166392, .int x1_1166392]) rfl rfl (Or.inl rfl) pm_M207 rfl rfl (Nat.le_of_ble_eq_true rfl) rfl rfl ?_
                    refine pm_R_op pm_M207 (pc_q := 3) (st_q := [.int 144]) rfl rfl rfl ?_
                    refine pm_R_lo pm_M207 (pc_q := 4) rfl rfl rfl ?_
                    refine sf_R_imul pm_M207 (pc_q := 5) rfl rfl sf_k144 B1291052 (by decide) (by decide) (by decide) (fun z1291060 e1291061 B1291062 => ?_)
                    refine pm_R_op pm_M207 (pc_q := 7) (st_q := [.int 12, .int z1291060]) rfl rfl rfl ?_
                    refine pm_R_lo pm_M207 (pc_q := 8) rfl rfl rfl ?_
                    refine sf_R_imul pm_M207 (pc_q := 9) rfl rfl sf_k12 B1290218 (by decide) (by decide) (by decide) (fun z1291063 e1291064 B1291065 => ?_)
                    refine sf_R_iadd pm_M207 (pc_q := 10) rfl rfl B1291062 B1291065 (by decide) (by decide) (fun z1291066 e1291067 B1291068 => ?_)
                    refine pm_R_lo pm_M207 (pc_q := 11) rfl rfl rfl ?_
                    refine sf_R_iadd pm_M207 (pc_q := 12) rfl rfl B1291068 B1290218 (by decide) (by decide) (fun z1291069 e1291070 B1291071 => ?_)
                    refine pm_R_ret pm_M207 (r := some (.int z1291069)) rfl (pm_ret_i _) ?_
                    show pm_R _ 225 8 [.int z1291049, .int x1_1166392, .int x1_1166392, .int z1291056] [.int z1291069, .int 50] _ _
                    refine sf_R_imul pm_M225 (pc_q := 9) rfl rfl sf_k50 B1291071 (by decide) (by decide) (by decide) (fun z1291072 e1291073 B1291074 => ?_)
                    refine pm_R_lo pm_M225 (pc_q := 10) rfl rfl rfl ?_
                    refine sf_R_iadd pm_M225 (pc_q := 11) rfl rfl B1291074 B1291059 (by decide) (by decide) (fun z1291075 e1291076 B1291077 => ?_)
                    refine pm_R_ret pm_M225 (r := some (.int z1291075)) rfl (pm_ret_i _) ?_
                    show pm_R _ 224 65 [.ref 41, .int x1_1166392, .int x2_1291010, pm_no, pm_no] [.int z1291075, .ref 56] _ _
                    refine pm_R_op pm_M224 (pc_q := 66) (st_q := [.int z1291075, .ref 56, .int z1291075, .ref 56]) rfl rfl rfl ?_
                    obtain ⟨f1291078, e1291079⟩ := T_1291010.2.2.2.1 56 (by decide) (by decide)
                    refine rf_R_lld pm_M224 T_1291010 (pc_q := 67) rfl e1291079 (by decide) (by decide) (sf_in B1291077 (by decide) (by decide)) rfl (fun z1291081 ez1291082 => ?_)
                    refine pm_R_lo pm_M224 (pc_q := 68) rfl rfl rfl ?_
                    refine pm_R_lo pm_M224 (pc_q := 69) rfl rfl rfl ?_
                    refine pm_R_lo pm_M224 (pc_q := 70) rfl rfl rfl ?_
                    refine pm_R_cv pm_M224 (pc_q := 73) (a := 41) (ra := [.int x1_1166392, .int x2_1291010]) (rest := [.long z1291081, .int z1291075, .ref 56]) (ls_q := [.ref 41, .int x2_1291010, .int x1_1166392]) rfl rfl (Or.inl rfl) pm_M204 T_1291010.2.1 rfl (by decide) (Nat.lt_of_lt_of_le (by decide) T_1291010.1) rfl rfl (Nat.le_of_ble_eq_true rfl) rfl rfl ?_
                    refine pm_R_lo pm_M204 (pc_q := 1) rfl rfl rfl ?_
                    refine rf_R_get pm_M204 T_1291010 (pc_q := 4) (v := .ref 53) rfl rfl rfl rfl ?_
                    refine pm_R_lo pm_M204 (pc_q := 5) rfl rfl rfl ?_
                    obtain ⟨f1291083, e1291084⟩ := T_1291010.2.2.2.1 53 (by decide) (by decide)
                    refine rf_R_ild pm_M204 T_1291010 (pc_q := 6) rfl e1291084 (by decide) (sf_in B1290218 (by decide) (by decide)) rfl (fun z1291086 ez1291087 => ?_)
                    refine sf_R_lany pm_M204 (pc_q := 7) (st := []) rfl rfl rfl (fun z1291088 => ?_)
                    refine pm_R_lo pm_M204 (pc_q := 8) rfl rfl rfl ?_
                    refine pm_R_lo pm_M204 (pc_q := 9) rfl rfl rfl ?_
                    refine pm_R_op pm_M204 (pc_q := 10) (st_q := [.int 0, .int x2_1291010, .ref 41, .long z1291088]) rfl rfl rfl ?_
                    refine pm_R_cv pm_M204 (pc_q := 13) (a := 41) (ra := [.int 0, .int x2_1291010]) (rest := [.long z1291088]) (ls_q := [.ref 41, .int x2_1291010, .int 0]) rfl rfl (Or.inl rfl) pm_M205 T_1291010.2.1 rfl (by decide) (Nat.lt_of_lt_of_le (by decide) T_1291010.1) rfl rfl (Nat.le_of_ble_eq_true rfl) rfl rfl ?_
                    refine pm_R_lo pm_M205 (pc_q := 1) rfl rfl rfl ?_
                    refine rf_R_get pm_M205 T_1291010 (pc_q := 4) (v := .ref 47) rfl rfl rfl rfl ?_
                    refine pm_R_op pm_M205 (pc_q := 6) (st_q := [.int 100, .ref 47]) rfl rfl rfl ?_
                    refine pm_R_lo pm_M205 (pc_q := 7) rfl rfl rfl ?_
                    refine rf_R_get pm_M205 T_1291010 (pc_q := 10) (v := .int (m_1291010 23)) rfl rfl rfl rfl ?_
                    refine sf_R_imulV pm_M205 (pc_q := 11) rfl rfl sf_k100 B1291017 (by decide) (by decide) (by decide) e1291019 ?_
                    refine pm_R_op pm_M205 (pc_q := 13) (st_q := [.int 42, .int z1291018, .ref 47]) rfl rfl rfl ?_
                    refine sf_R_iaddV pm_M205 (pc_q := 14) rfl rfl B1291020 sf_k42 (by decide) (by decide) e1291038 ?_
                    refine pm_R_op pm_M205 (pc_q := 15) (st_q := [.int 3, .int z1291037, .ref 47]) rfl rfl rfl ?_
                    refine pm_R_lo pm_M205 (pc_q := 16) rfl rfl rfl ?_
                    refine sf_R_imulV pm_M205 (pc_q := 17) rfl rfl sf_k3 B1291035 (by decide) (by decide) (by decide) e1291041 ?_
                    refine sf_R_iaddV pm_M205 (pc_q := 18) rfl rfl B1291039 B1291042 (by decide) (by decide) e1291044 ?_
                    refine pm_R_lo pm_M205 (pc_q := 19) rfl rfl rfl ?_
                    refine sf_R_iadd pm_M205 (pc_q := 20) rfl rfl B1291045 sf_k0 (by decide) (by decide) (fun z1291089 e1291090 B1291091 => ?_)
                    refine rf_R_ild pm_M205 T_1291010 (pc_q := 21) rfl e1291025 (by decide) (sf_in B1291091 (by decide) (by decide)) rfl (fun z1291092 ez1291093 => ?_)
                    have e1291094 : (z1291089).toInt = 100 * ((m_1291010 23)).toInt + 3 * (x2_1291010).toInt + 42 := (sf_aux8 _ _ _ _ _ _ _ e1291019 e1291038 e1291041 e1291044 e1291090)
                    have B1291095 : sf_B 0 9 z1291092 := ez1291093 ▸ rf_p47s b1291026 e1291094 B1291017 B1291035 (by decide) (by decide) (by decide)
                    refine pm_R_ret pm_M205 (r := some (.int z1291092)) rfl (pm_ret_i _) ?_
                    show pm_R _ 204 13 [.ref 41, .int x2_1291010, .int x1_1166392] [.int z1291092, .long z1291088] _ _
                    refine pm_R_cs pm_M204 (pc_q := 16) (ra := [.int z1291092, .long z1291088]) (rest := []) (ls_q := [.long z1291088, pm_no, .int z1291092]) rfl rfl (Or.inl rfl) pm_M206 rfl rfl (Nat.le_of_ble_eq_true rfl) rfl rfl ?_
                    refine pm_R_lo pm_M206 (pc_q := 1) rfl rfl rfl ?_
                    refine pm_R_lo pm_M206 (pc_q := 2) rfl rfl rfl ?_
                    refine sf_R_lany pm_M206 (pc_q := 3) (st := []) rfl rfl rfl (fun z1291096 => ?_)
                    refine pm_R_op pm_M206 (pc_q := 4) (st_q := [.long 1, .long z1291096]) rfl rfl rfl ?_
                    refine sf_R_lany pm_M206 (pc_q := 5) (st := []) rfl rfl rfl (fun z1291097 => ?_)
                    refine pm_R_op pm_M206 (pc_q := 6) (st_q := [.long 1, .long z1291097]) rfl rfl rfl ?_
                    refine sf_R_lcmp pm_M206 (pc_q := 7) rfl rfl (fun z1291098 e1291099 => ?_)
                    refine pm_R_ifc pm_M206 (t := 14) (pc_q := 10) rfl rfl rfl (fun c1291100 => ?_) (fun c1291100 => ?_)
                    · have k1291101 := sf_lneC e1291099 c1291100
                      refine pm_R_op pm_M206 (pc_q := 15) (st_q := [.int 0]) rfl rfl rfl ?_
                      refine pm_R_ret pm_M206 (r := some (.int 0)) rfl rfl ?_
                      show pm_R _ 204 16 [.ref 41, .int x2_1291010, .int x1_1166392] [.int 0] _ _
                      refine pm_R_br pm_M204 (pc_q := 39) (st_q := []) rfl rfl ?_
                      refine pm_R_op pm_M204 (pc_q := 40) (st_q := [.int 0]) rfl rfl rfl ?_
                      refine pm_R_ret pm_M204 (r := some (.int 0)) rfl rfl ?_
                      show pm_R _ 224 73 [.ref 41, .int x1_1166392, .int x2_1291010, pm_no, pm_no] [.int 0, .long z1291081, .int z1291075, .ref 56] _ _
                      refine pm_R_br pm_M224 (pc_q := 80) (st_q := [.long z1291081, .int z1291075, .ref 56]) rfl rfl ?_
                      refine pm_R_op pm_M224 (pc_q := 81) (st_q := [.long 0, .long z1291081, .int z1291075, .ref 56]) rfl rfl rfl ?_
                      refine sf_R_lany pm_M224 (pc_q := 82) (st := [.int z1291075, .ref 56]) rfl rfl rfl (fun z1291102 => ?_)
                      refine rf_R_lst pm_M224 T_1291010 (pc_q := 83) rfl e1291079 (by decide) (by decide) (sf_in B1291077 (by decide) (by decide)) ⟨_, rfl⟩ rfl (fun h1291103 T1291104 F1291105 e1291106 => ?_)
                      have F1291107 := F_1291010.trans F1291105 (by decide)
                      refine sf_R_iinc pm_M224 (pc_q := 86) (ls_q := fun z => [.ref 41, .int x1_1166392, .int z, pm_no, pm_no]) rfl B1291035 rfl (by decide) (by decide) (by decide) (fun _ => rfl) rfl (fun z1291108 e1291109 B1291110 => ?_)
                      show pm_R _ 224 86 [.ref 41, .int x1_1166392, .int z1291108, pm_no, pm_no] [] _ _
                      refine pm_R_br pm_M224 (pc_q := 36) rfl rfl ?_
                      exact ih_1291010 _ (sf_up hN_1291010 e1291109 B1291035 (by decide) (by decide)) h1291103 m_1291010 w_1291010 z1291108 T1291104 F1291107 W_1291010 (sf_weak B1291110 (by decide) (by decide)) rfl
                    · have B1291111 : sf_B 0 0 z1291098 := sf_eqL (Classical.not_not.mp c1291100) sf_k0
                      have B1291112 : lf_B 1 1 z1291097 := lf_eqB e1291099 B1291111 (⟨by decide, by decide⟩ : lf_B 1 1 1)
                      refine pm_R_op pm_M206 (pc_q := 11) (st_q := [.int 1]) rfl rfl rfl ?_
                      refine pm_R_br pm_M206 (pc_q := 15) rfl rfl ?_
                      refine pm_R_ret pm_M206 (r := some (.int 1)) rfl rfl ?_
                      show pm_R _ 204 16 [.ref 41, .int x2_1291010, .int x1_1166392] [.int 1] _ _
                      refine pm_R_br pm_M204 (pc_q := 19) (st_q := []) rfl rfl ?_
                      refine pm_R_lo pm_M204 (pc_q := 20) rfl rfl rfl ?_
                      have B1291113 : sf_B (-1) 11 (m_1291010 26) := T_1291010.2.2.1 26
                      refine rf_R_get pm_M204 T_1291010 (pc_q := 23) (v := .int (m_1291010 26)) rfl rfl rfl rfl ?_
                      refine pm_R_lo pm_M204 (pc_q := 24) rfl rfl rfl ?_
                      refine pm_R_icmp pm_M204 (t := 35) (pc_q := 27) rfl rfl rfl (fun c1291114 => ?_) (fun c1291114 => ?_)
                      · skip
                        refine pm_R_op pm_M204 (pc_q := 36) (st_q := [.int 1]) rfl rfl rfl ?_
                        refine pm_R_br pm_M204 (pc_q := 40) rfl rfl ?_
                        refine pm_R_ret pm_M204 (r := some (.int 1)) rfl rfl ?_
                        show pm_R _ 224 73 [.ref 41, .int x1_1166392, .int x2_1291010, pm_no, pm_no] [.int 1, .long z1291081, .int z1291075, .ref 56] _ _
                        refine pm_R_br pm_M224 (pc_q := 76) (st_q := [.long z1291081, .int z1291075, .ref 56]) rfl rfl ?_
                        refine pm_R_op pm_M224 (pc_q := 77) (st_q := [.long 1, .long z1291081, .int z1291075, .ref 56]) rfl rfl rfl ?_
                        refine pm_R_br pm_M224 (pc_q := 81) rfl rfl ?_
                        refine sf_R_lany pm_M224 (pc_q := 82) (st := [.int z1291075, .ref 56]) rfl rfl rfl (fun z1291115 => ?_)
                        refine rf_R_lst pm_M224 T_1291010 (pc_q := 83) rfl e1291079 (by decide) (by decide) (sf_in B1291077 (by decide) (by decide)) ⟨_, rfl⟩ rfl (fun h1291116 T1291117 F1291118 e1291119 => ?_)
                        have F1291120 := F_1291010.trans F1291118 (by decide)
                        refine sf_R_iinc pm_M224 (pc_q := 86) (ls_q := fun z => [.ref 41, .int x1_1166392, .int z, pm_no, pm_no]) rfl B1291035 rfl (by decide) (by decide) (by decide) (fun _ => rfl) rfl (fun z1291121 e1291122 B1291123 => ?_)
                        show pm_R _ 224 86 [.ref 41, .int x1_1166392, .int z1291121, pm_no, pm_no] [] _ _
                        refine pm_R_br pm_M224 (pc_q := 36) rfl rfl ?_
                        exact ih_1291010 _ (sf_up hN_1291010 e1291122 B1291035 (by decide) (by decide)) h1291116 m_1291010 w_1291010 z1291121 T1291117 F1291120 W_1291010 (sf_weak B1291123 (by decide) (by decide)) rfl
                      · have B1291124 : sf_B 0 11 (m_1291010 26) := sf_eqL (Classical.not_not.mp c1291114) B1290218
                        refine pm_R_lo pm_M204 (pc_q := 28) rfl rfl rfl ?_
                        have B1291125 : sf_B 0 15 (m_1291010 27) := T_1291010.2.2.1 27
                        refine rf_R_get pm_M204 T_1291010 (pc_q := 31) (v := .int (m_1291010 27)) rfl rfl rfl rfl ?_
                        refine pm_R_lo pm_M204 (pc_q := 32) rfl rfl rfl ?_
                        refine pm_R_icmp pm_M204 (t := 39) (pc_q := 35) rfl rfl rfl (fun c1291126 => ?_) (fun c1291126 => ?_)
                        · skip
                          refine pm_R_op pm_M204 (pc_q := 40) (st_q := [.int 0]) rfl rfl rfl ?_
                          refine pm_R_ret pm_M204 (r := some (.int 0)) rfl rfl ?_
                          show pm_R _ 224 73 [.ref 41, .int x1_1166392, .int x2_1291010, pm_no, pm_no] [.int 0, .long z1291081, .int z1291075, .ref 56] _ _
                          refine pm_R_br pm_M224 (pc_q := 80) (st_q := [.long z1291081, .int z1291075, .ref 56]) rfl rfl ?_
                          refine pm_R_op pm_M224 (pc_q := 81) (st_q := [.long 0, .long z1291081, .int z1291075, .ref 56]) rfl rfl rfl ?_
                          refine sf_R_lany pm_M224 (pc_q := 82) (st := [.int z1291075, .ref 56]) rfl rfl rfl (fun z1291127 => ?_)
                          refine rf_R_lst pm_M224 T_1291010 (pc_q := 83) rfl e1291079 (by decide) (by decide) (sf_in B1291077 (by decide) (by decide)) ⟨_, rfl⟩ rfl (fun h1291128 T1291129 F1291130 e1291131 => ?_)
                          have F1291132 := F_1291010.trans F1291130 (by decide)
                          refine sf_R_iinc pm_M224 (pc_q := 86) (ls_q := fun z => [.ref 41, .int x1_1166392, .int z, pm_no, pm_no]) rfl B1291035 rfl (by decide) (by decide) (by decide) (fun _ => rfl) rfl (fun z1291133 e1291134 B1291135 => ?_)
                          show pm_R _ 224 86 [.ref 41, .int x1_1166392, .int z1291133, pm_no, pm_no] [] _ _
                          refine pm_R_br pm_M224 (pc_q := 36) rfl rfl ?_
                          exact ih_1291010 _ (sf_up hN_1291010 e1291134 B1291035 (by decide) (by decide)) h1291128 m_1291010 w_1291010 z1291133 T1291129 F1291132 W_1291010 (sf_weak B1291135 (by decide) (by decide)) rfl
                        · refine pm_R_op pm_M204 (pc_q := 36) (st_q := [.int 1]) rfl rfl rfl ?_
                          refine pm_R_br pm_M204 (pc_q := 40) rfl rfl ?_
                          refine pm_R_ret pm_M204 (r := some (.int 1)) rfl rfl ?_
                          show pm_R _ 224 73 [.ref 41, .int x1_1166392, .int x2_1291010, pm_no, pm_no] [.int 1, .long z1291081, .int z1291075, .ref 56] _ _
                          refine pm_R_br pm_M224 (pc_q := 76) (st_q := [.long z1291081, .int z1291075, .ref 56]) rfl rfl ?_
                          refine pm_R_op pm_M224 (pc_q := 77) (st_q := [.long 1, .long z1291081, .int z1291075, .ref 56]) rfl rfl rfl ?_
                          refine pm_R_br pm_M224 (pc_q := 81) rfl rfl ?_
                          refine sf_R_lany pm_M224 (pc_q := 82) (st := [.int z1291075, .ref 56]) rfl rfl rfl (fun z1291136 => ?_)
                          refine rf_R_lst pm_M224 T_1291010 (pc_q := 83) rfl e1291079 (by decide) (by decide) (sf_in B1291077 (by decide) (by decide)) ⟨_, rfl⟩ rfl (fun h1291137 T1291138 F1291139 e1291140 => ?_)
                          have F1291141 := F_1291010.trans F1291139 (by decide)
                          refine sf_R_iinc pm_M224 (pc_q := 86) (ls_q := fun z => [.ref 41, .int x1_1166392, .int z, pm_no, pm_no]) rfl B1291035 rfl (by decide) (by decide) (by decide) (fun _ => rfl) rfl (fun z1291142 e1291143 B1291144 => ?_)
                          show pm_R _ 224 86 [.ref 41, .int x1_1166392, .int z1291142, pm_no, pm_no] [] _ _
                          refine pm_R_br pm_M224 (pc_q := 36) rfl rfl ?_
                          exact ih_1291010 _ (sf_up hN_1291010 e1291143 B1291035 (by decide) (by decide)) h1291137 m_1291010 w_1291010 z1291142 T1291138 F1291141 W_1291010 (sf_weak B1291144 (by decide) (by decide)) rfl
              exact L_1291010 _ h_1166392 m_1166392 w_1166392 0 T_1166392 F_1166392 (rf_W.refl _ _) (sf_weak sf_k0 (by decide) (by decide)) rfl
        exact L_1166392 _ h_768009 m_768009 w_768009 0 (pm_no) T_768009 F_768009 (rf_W.refl _ _) (sf_weak sf_k0 (by decide) (by decide)) rfl rfl
      · have B1291145 : sf_B 0 43199 x1_768009 := sf_ltL (Int32.not_le.mp c768016) Bx1_768009 sf_k43200
        refine pm_R_lo pm_M224 (pc_q := 12) rfl rfl rfl ?_
        refine rf_R_get pm_M224 T_768009 (pc_q := 15) (v := .ref 56) rfl rfl rfl rfl ?_
        refine pm_R_lo pm_M224 (pc_q := 16) rfl rfl rfl ?_
        refine pm_R_op pm_M224 (pc_q := 17) (st_q := [.long 0, .int x1_768009, .ref 56]) rfl rfl rfl ?_
        refine rf_R_lst pm_M224 T_768009 (pc_q := 18) rfl e768014 (by decide) (by decide) (sf_in B1291145 (by decide) (by decide)) ⟨_, rfl⟩ rfl (fun h1291146 T1291147 F1291148 e1291149 => ?_)
        have F1291150 := F_768009.trans F1291148 (by decide)
        refine sf_R_iinc pm_M224 (pc_q := 21) (ls_q := fun z => [.ref 41, .int z, pm_no, pm_no, pm_no]) rfl B1291145 rfl (by decide) (by decide) (by decide) (fun _ => rfl) rfl (fun z1291151 e1291152 B1291153 => ?_)
        show pm_R _ 224 21 [.ref 41, .int z1291151, pm_no, pm_no, pm_no] [] _ _
        refine pm_R_br pm_M224 (pc_q := 2) rfl rfl ?_
        exact ih_768009 _ (sf_up hN_768009 e1291152 B1291145 (by decide) (by decide)) h1291146 m_768009 w_768009 z1291151 T1291147 F1291150 W_768009 (sf_weak B1291153 (by decide) (by decide)) rfl
  exact L_768009 _ h m w 0 T (rf_G.refl [56] h) (rf_W.refl _ _) (sf_weak sf_k0 (by decide) (by decide)) rfl

set_option maxRecDepth 100000 in
set_option maxHeartbeats 4000000 in
/-- SilentTableModel.wear -/
theorem rf_c235 {d : Nat} {m : Nat → Int32} {w : Int64} {h : pm_H} {Q : Option Value → pm_H → Prop} {a0 : Int32} (T : rf_T m w h) (Ba0 : sf_B (-1) 9 a0) (K : ∀ (m_q : Nat → Int32) (w_q : Int64) (h_q : pm_H), rf_T m_q w_q h_q → rf_G [53] h h_q → rf_W [] m m_q → Q none h_q) : pm_R (d + 1) 235 0 [.ref 41, .int a0, pm_no, pm_no, pm_no, pm_no] [] h Q := by
  refine pm_R_op pm_M235 (pc_q := 1) (st_q := [.int 0]) rfl rfl rfl ?_
  refine pm_R_lo pm_M235 (pc_q := 2) (ls_q := [.ref 41, .int a0, .int 0, pm_no, pm_no, pm_no]) (st_q := []) rfl rfl rfl ?_
  have L_6346 : ∀ (N : Nat) (h_6346 : pm_H) (m_6346 : Nat → Int32) (w_6346 : Int64) (x2_6346 : Int32) (g3_6346 : Value) (g4_6346 : Value) (g5_6346 : Value), rf_T m_6346 w_6346 h_6346 → rf_G [53] h h_6346 → rf_W [] m m_6346 → sf_B 0 9 x2_6346 → g3_6346.category = 1 → g4_6346.category = 1 → g5_6346.category = 1 → (9 - x2_6346.toInt).toNat = N → pm_R (d + 1) 235 2 [.ref 41, .int a0, .int x2_6346, g3_6346, g4_6346, g5_6346] [] h_6346 Q := by
    intro N
    induction N using Nat.strongRecOn with
    | ind N ih_6346 =>
      intro h_6346 m_6346 w_6346 x2_6346 g3_6346 g4_6346 g5_6346 T_6346 F_6346 W_6346 Bx2_6346 Cg3_6346 Cg4_6346 Cg5_6346 hN_6346
      have W6349 : rf_W [] m m_6346 := (rf_W.refl [] m).trans W_6346 (by decide)
      refine pm_R_lo pm_M235 (pc_q := 3) rfl rfl rfl ?_
      refine pm_R_lo pm_M235 (pc_q := 4) rfl rfl rfl ?_
      refine pm_R_icmp pm_M235 (t := 91) (pc_q := 7) rfl rfl rfl (fun c6350 => ?_) (fun c6350 => ?_)
      · skip
        exact pm_R_ret pm_M235 (r := none) rfl rfl (K m_6346 w_6346 h_6346 T_6346 F_6346 W6349)
      · have B6351 : sf_B 0 8 x2_6346 := sf_ltL (Int32.not_le.mp c6350) Bx2_6346 Ba0
        have B6352 : sf_B 1 9 a0 := sf_ltR (Int32.not_le.mp c6350) Bx2_6346 Ba0
        refine pm_R_op pm_M235 (pc_q := 8) (st_q := [.int 0]) rfl rfl rfl ?_
        refine pm_R_lo pm_M235 (pc_q := 9) (ls_q := [.ref 41, .int a0, .int x2_6346, .int 0, g4_6346, g5_6346]) (st_q := []) rfl rfl rfl ?_
        have L_7613 : ∀ (N : Nat) (h_7613 : pm_H) (m_7613 : Nat → Int32) (w_7613 : Int64) (x3_7613 : Int32) (g4_7613 : Value) (g5_7613 : Value), rf_T m_7613 w_7613 h_7613 → rf_G [53] h h_7613 → rf_W [] m_6346 m_7613 → sf_B 0 12 x3_7613 → g4_7613.category = 1 → g5_7613.category = 1 → (12 - x3_7613.toInt).toNat = N → pm_R (d + 1) 235 9 [.ref 41, .int a0, .int x2_6346, .int x3_7613, g4_7613, g5_7613] [] h_7613 Q := by
          intro N
          induction N using Nat.strongRecOn with
          | ind N ih_7613 =>
            intro h_7613 m_7613 w_7613 x3_7613 g4_7613 g5_7613 T_7613 F_7613 W_7613 Bx3_7613 Cg4_7613 Cg5_7613 hN_7613
            have W7616 : rf_W [] m m_7613 := W6349.trans W_7613 (by decide)
            have W7617 : rf_W [] m m_7613 := W_6346.trans W_7613 (by decide)
            refine pm_R_lo pm_M235 (pc_q := 10) rfl rfl rfl ?_
            refine pm_R_lo pm_M235 (pc_q := 11) rfl rfl rfl ?_
            have B7618 : sf_B 0 12 (m_7613 24) := T_7613.2.2.1 24
            refine rf_R_get pm_M235 T_7613 (pc_q := 14) (v := .int (m_7613 24)) rfl rfl rfl rfl ?_
            refine pm_R_icmp pm_M235 (t := 85) (pc_q := 17) rfl rfl rfl (fun c7619 => ?_) (fun c7619 => ?_)
            · skip
              refine sf_R_iinc pm_M235 (pc_q := 88) (ls_q := fun z => [.ref 41, .int a0, .int z, .int x3_7613, g4_7613, g5_7613]) rfl B6351 rfl (by decide) (by decide) (by decide) (fun _ => rfl) rfl (fun z7620 e7621 B7622 => ?_)
              show pm_R _ 235 88 [.ref 41, .int a0, .int z7620, .int x3_7613, g4_7613, g5_7613] [] _ _
              refine pm_R_br pm_M235 (pc_q := 2) rfl rfl ?_
              exact ih_6346 _ (sf_up hN_6346 e7621 B6351 (by decide) (by decide)) h_7613 m_7613 w_7613 z7620 (.int x3_7613) (g4_7613) (g5_7613) T_7613 F_7613 W7617 (sf_weak B7622 (by decide) (by decide)) rfl Cg4_7613 Cg5_7613 rfl
            · have B7623 : sf_B 0 11 x3_7613 := sf_ltL (Int32.not_le.mp c7619) Bx3_7613 B7618
              have B7624 : sf_B 1 12 (m_7613 24) := sf_ltR (Int32.not_le.mp c7619) Bx3_7613 B7618
              refine pm_R_lo pm_M235 (pc_q := 18) rfl rfl rfl ?_
              refine rf_R_get pm_M235 T_7613 (pc_q := 21) (v := .ref 53) rfl rfl rfl rfl ?_
              refine pm_R_lo pm_M235 (pc_q := 22) rfl rfl rfl ?_
              obtain ⟨f7625, e7626⟩ := T_7613.2.2.2.1 53 (by decide) (by decide)
              refine rf_R_ild pm_M235 T_7613 (pc_q := 23) rfl e7626 (by decide) (sf_in B7623 (by decide) (by decide)) rfl (fun z7628 ez7629 => ?_)
              refine pm_R_lo pm_M235 (pc_q := 25) (ls_q := [.ref 41, .int a0, .int x2_6346, .int x3_7613, .int z7628, g5_7613]) (st_q := []) rfl rfl rfl ?_
              refine pm_R_op pm_M235 (pc_q := 26) (st_q := [.int 0]) rfl rfl rfl ?_
              refine pm_R_lo pm_M235 (pc_q := 28) (ls_q := [.ref 41, .int a0, .int x2_6346, .int x3_7613, .int z7628, .int 0]) (st_q := []) rfl rfl rfl ?_
              have L_7865 : ∀ (N : Nat) (x4_7865 : Int32) (x5_7865 : Int32), sf_B (-2147483648) 2147483647 x4_7865 → sf_B 0 10 x5_7865 → (10 - x5_7865.toInt).toNat = N → pm_R (d + 1) 235 28 [.ref 41, .int a0, .int x2_6346, .int x3_7613, .int x4_7865, .int x5_7865] [] h_7613 Q := by
                intro N
                induction N using Nat.strongRecOn with
                | ind N ih_7865 =>
                  intro x4_7865 x5_7865 Bx4_7865 Bx5_7865 hN_7865
                  refine pm_R_lo pm_M235 (pc_q := 30) rfl rfl rfl ?_
                  refine pm_R_op pm_M235 (pc_q := 32) (st_q := [.int 10, .int x5_7865]) rfl rfl rfl ?_
                  refine pm_R_icmp pm_M235 (t := 71) (pc_q := 35) rfl rfl rfl (fun c7866 => ?_) (fun c7866 => ?_)
                  · have B7867 : sf_B 10 10 x5_7865 := sf_leR c7866 sf_k10 Bx5_7865
                    refine pm_R_lo pm_M235 (pc_q := 72) rfl rfl rfl ?_
                    refine rf_R_get pm_M235 T_7613 (pc_q := 75) (v := .ref 53) rfl rfl rfl rfl ?_
                    refine pm_R_lo pm_M235 (pc_q := 76) rfl rfl rfl ?_
                    refine pm_R_lo pm_M235 (pc_q := 78) rfl rfl rfl ?_
                    refine rf_R_ist pm_M235 T_7613 (pc_q := 79) rfl e7626 (by decide) (by decide) (sf_in B7623 (by decide) (by decide)) ⟨_, rfl⟩ rfl (fun h7868 T7869 F7870 e7871 => ?_)
                    have F7872 := F_7613.trans F7870 (by decide)
                    refine sf_R_iinc pm_M235 (pc_q := 82) (ls_q := fun z => [.ref 41, .int a0, .int x2_6346, .int z, .int x4_7865, .int x5_7865]) rfl B7623 rfl (by decide) (by decide) (by decide) (fun _ => rfl) rfl (fun z7873 e7874 B7875 => ?_)
                    show pm_R _ 235 82 [.ref 41, .int a0, .int x2_6346, .int z7873, .int x4_7865, .int x5_7865] [] _ _
                    refine pm_R_br pm_M235 (pc_q := 9) rfl rfl ?_
                    exact ih_7613 _ (sf_up hN_7613 e7874 B7623 (by decide) (by decide)) h7868 m_7613 w_7613 z7873 (.int x4_7865) (.int x5_7865) T7869 F7872 W_7613 (sf_weak B7875 (by decide) (by decide)) rfl rfl rfl
                  · have B7876 : sf_B 0 9 x5_7865 := sf_ltL (Int32.not_le.mp c7866) Bx5_7865 sf_k10
                    refine pm_R_lo pm_M235 (pc_q := 37) rfl rfl rfl ?_
                    refine pm_R_lo pm_M235 (pc_q := 38) rfl rfl rfl ?_
                    refine rf_R_get pm_M235 T_7613 (pc_q := 41) (v := .ref 53) rfl rfl rfl rfl ?_
                    refine pm_R_lo pm_M235 (pc_q := 42) rfl rfl rfl ?_
                    refine pm_R_iald pm_M235 (pc_q := 43) (v := z7628) rfl e7626 (Nat.lt_of_lt_of_le (by decide) T_7613.1) (sf_in B7623 (by decide) (by decide)) ez7629 rfl ?_
                    refine sf_R_lany pm_M235 (pc_q := 44) (st := [.int x4_7865]) rfl rfl rfl (fun z7879 => ?_)
                    refine pm_R_lo pm_M235 (pc_q := 46) rfl rfl rfl ?_
                    refine pm_R_cs pm_M235 (pc_q := 49) (ra := [.int x5_7865, .long z7879]) (rest := [.int x4_7865]) (ls_q := [.long z7879, pm_no, .int x5_7865]) rfl rfl (Or.inl rfl) pm_M206 rfl rfl (Nat.le_of_ble_eq_true rfl) rfl rfl ?_
                    refine pm_R_lo pm_M206 (pc_q := 1) rfl rfl rfl ?_
                    refine pm_R_lo pm_M206 (pc_q := 2) rfl rfl rfl ?_
                    refine sf_R_lany pm_M206 (pc_q := 3) (st := []) rfl rfl rfl (fun z7880 => ?_)
                    refine pm_R_op pm_M206 (pc_q := 4) (st_q := [.long 1, .long z7880]) rfl rfl rfl ?_
                    refine sf_R_lany pm_M206 (pc_q := 5) (st := []) rfl rfl rfl (fun z7881 => ?_)
                    refine pm_R_op pm_M206 (pc_q := 6) (st_q := [.long 1, .long z7881]) rfl rfl rfl ?_
                    refine sf_R_lcmp pm_M206 (pc_q := 7) rfl rfl (fun z7882 e7883 => ?_)
                    refine pm_R_ifc pm_M206 (t := 14) (pc_q := 10) rfl rfl rfl (fun c7884 => ?_) (fun c7884 => ?_)
                    · have k7885 := sf_lneC e7883 c7884
                      refine pm_R_op pm_M206 (pc_q := 15) (st_q := [.int 0]) rfl rfl rfl ?_
                      refine pm_R_ret pm_M206 (r := some (.int 0)) rfl rfl ?_
                      show pm_R _ 235 49 [.ref 41, .int a0, .int x2_6346, .int x3_7613, .int x4_7865, .int x5_7865] [.int 0, .int x4_7865] _ _
                      refine pm_R_br pm_M235 (pc_q := 61) (st_q := [.int x4_7865]) rfl rfl ?_
                      refine pm_R_op pm_M235 (pc_q := 62) (st_q := [.int 0, .int x4_7865]) rfl rfl rfl ?_
                      refine sf_R_iany pm_M235 (pc_q := 63) (st := []) rfl rfl rfl (fun z7889 => ?_)
                      refine pm_R_lo pm_M235 (pc_q := 65) (ls_q := [.ref 41, .int a0, .int x2_6346, .int x3_7613, .int z7889, .int x5_7865]) (st_q := []) rfl rfl rfl ?_
                      refine sf_R_iinc pm_M235 (pc_q := 68) (ls_q := fun z => [.ref 41, .int a0, .int x2_6346, .int x3_7613, .int z7889, .int z]) rfl B7876 rfl (by decide) (by decide) (by decide) (fun _ => rfl) rfl (fun z7890 e7891 B7892 => ?_)
                      show pm_R _ 235 68 [.ref 41, .int a0, .int x2_6346, .int x3_7613, .int z7889, .int z7890] [] _ _
                      refine pm_R_br pm_M235 (pc_q := 28) rfl rfl ?_
                      exact ih_7865 _ (sf_up hN_7865 e7891 B7876 (by decide) (by decide)) z7889 z7890 (sf_any z7889) (sf_weak B7892 (by decide) (by decide)) rfl
                    · have B7893 : sf_B 0 0 z7882 := sf_eqL (Classical.not_not.mp c7884) sf_k0
                      have B7894 : lf_B 1 1 z7881 := lf_eqB e7883 B7893 (⟨by decide, by decide⟩ : lf_B 1 1 1)
                      refine pm_R_op pm_M206 (pc_q := 11) (st_q := [.int 1]) rfl rfl rfl ?_
                      refine pm_R_br pm_M206 (pc_q := 15) rfl rfl ?_
                      refine pm_R_ret pm_M206 (r := some (.int 1)) rfl rfl ?_
                      show pm_R _ 235 49 [.ref 41, .int a0, .int x2_6346, .int x3_7613, .int x4_7865, .int x5_7865] [.int 1, .int x4_7865] _ _
                      refine pm_R_br pm_M235 (pc_q := 52) (st_q := [.int x4_7865]) rfl rfl ?_
                      refine pm_R_lo pm_M235 (pc_q := 53) rfl rfl rfl ?_
                      refine pm_R_lo pm_M235 (pc_q := 55) rfl rfl rfl ?_
                      refine pm_R_cv pm_M235 (pc_q := 58) (a := 41) (ra := [.int x5_7865]) (rest := [.int x4_7865]) (ls_q := [.ref 41, .int x5_7865]) rfl rfl (Or.inl rfl) pm_M236 T_7613.2.1 rfl (by decide) (Nat.lt_of_lt_of_le (by decide) T_7613.1) rfl rfl (Nat.le_of_ble_eq_true rfl) rfl rfl ?_
                      refine pm_R_lo pm_M236 (pc_q := 1) rfl rfl rfl ?_
                      refine rf_R_get pm_M236 T_7613 (pc_q := 4) (v := .ref 47) rfl rfl rfl rfl ?_
                      refine pm_R_op pm_M236 (pc_q := 6) (st_q := [.int 100, .ref 47]) rfl rfl rfl ?_
                      refine pm_R_lo pm_M236 (pc_q := 7) rfl rfl rfl ?_
                      have B7895 : sf_B 0 1 (m_7613 23) := T_7613.2.2.1 23
                      refine rf_R_get pm_M236 T_7613 (pc_q := 10) (v := .int (m_7613 23)) rfl rfl rfl rfl ?_
                      refine sf_R_imul pm_M236 (pc_q := 11) rfl rfl sf_k100 B7895 (by decide) (by decide) (by decide) (fun z7896 e7897 B7898 => ?_)
                      refine pm_R_op pm_M236 (pc_q := 13) (st_q := [.int 90, .int z7896, .ref 47]) rfl rfl rfl ?_
                      refine sf_R_iadd pm_M236 (pc_q := 14) rfl rfl B7898 sf_k90 (by decide) (by decide) (fun z7899 e7900 B7901 => ?_)
                      refine pm_R_lo pm_M236 (pc_q := 15) rfl rfl rfl ?_
                      refine sf_R_iadd pm_M236 (pc_q := 16) rfl rfl B7901 B7876 (by decide) (by decide) (fun z7902 e7903 B7904 => ?_)
                      obtain ⟨f7905, e7906, b7907⟩ := T_7613.2.2.2.1 47 (by decide) (by decide)
                      refine rf_R_ild pm_M236 T_7613 (pc_q := 17) rfl e7906 (by decide) (sf_in B7904 (by decide) (by decide)) rfl (fun z7908 ez7909 => ?_)
                      refine pm_R_ret pm_M236 (r := some (.int z7908)) rfl (pm_ret_i _) ?_
                      show pm_R _ 235 58 [.ref 41, .int a0, .int x2_6346, .int x3_7613, .int x4_7865, .int x5_7865] [.int z7908, .int x4_7865] _ _
                      refine pm_R_br pm_M235 (pc_q := 62) rfl rfl ?_
                      refine sf_R_iany pm_M235 (pc_q := 63) (st := []) rfl rfl rfl (fun z7913 => ?_)
                      refine pm_R_lo pm_M235 (pc_q := 65) (ls_q := [.ref 41, .int a0, .int x2_6346, .int x3_7613, .int z7913, .int x5_7865]) (st_q := []) rfl rfl rfl ?_
                      refine sf_R_iinc pm_M235 (pc_q := 68) (ls_q := fun z => [.ref 41, .int a0, .int x2_6346, .int x3_7613, .int z7913, .int z]) rfl B7876 rfl (by decide) (by decide) (by decide) (fun _ => rfl) rfl (fun z7914 e7915 B7916 => ?_)
                      show pm_R _ 235 68 [.ref 41, .int a0, .int x2_6346, .int x3_7613, .int z7913, .int z7914] [] _ _
                      refine pm_R_br pm_M235 (pc_q := 28) rfl rfl ?_
                      exact ih_7865 _ (sf_up hN_7865 e7915 B7876 (by decide) (by decide)) z7913 z7914 (sf_any z7913) (sf_weak B7916 (by decide) (by decide)) rfl
              exact L_7865 _ z7628 0 (sf_any z7628) (sf_weak sf_k0 (by decide) (by decide)) rfl
        exact L_7613 _ h_6346 m_6346 w_6346 0 (g4_6346) (g5_6346) T_6346 F_6346 (rf_W.refl _ _) (sf_weak sf_k0 (by decide) (by decide)) Cg4_6346 Cg5_6346 rfl
  exact L_6346 _ h m w 0 (pm_no) (pm_no) (pm_no) T (rf_G.refl [53] h) (rf_W.refl _ _) (sf_weak sf_k0 (by decide) (by decide)) rfl rfl rfl rfl

set_option maxRecDepth 100000 in
set_option maxHeartbeats 4000000 in
/-- SilentTableModel.meanings -/
theorem rf_c215 {d : Nat} {m : Nat → Int32} {w : Int64} {h : pm_H} {Q : Option Value → pm_H → Prop}  (T : rf_T m w h) (Bf24 : sf_B 1 12 (m 24)) (K : ∀ (r : Int64) (m_q : Nat → Int32) (w_q : Int64) (h_q : pm_H), rf_T m_q w_q h_q → rf_G [54] h h_q → rf_W [] m m_q → Q (some (.long r)) h_q) : pm_R (d + 5) 215 0 [.ref 41] [] h Q := by
  refine pm_R_lo pm_M215 (pc_q := 1) rfl rfl rfl ?_
  refine pm_R_cv pm_M215 (pc_q := 4) (a := 41) (ra := []) (rest := []) (ls_q := [.ref 41, pm_no, pm_no, pm_no, pm_no, pm_no]) rfl rfl (Or.inl rfl) pm_M216 T.2.1 rfl (by decide) (Nat.lt_of_lt_of_le (by decide) T.1) rfl rfl (Nat.le_of_ble_eq_true rfl) rfl rfl ?_
  refine rf_c216 (d := d + 0) T  (fun m3 w4 h5 T6 F7 W8 => ?_)
  have F9 := (rf_G.refl [54] h).trans F7 (by decide)
  have B10 : sf_B 1 12 (m3 24) := by rw [W8 24 (by decide)]; exact Bf24
  have W11 : rf_W [] m m3 := (rf_W.refl [] m).trans W8 (by decide)
  show pm_R _ 215 4 [.ref 41] [] _ _
  refine pm_R_lo pm_M215 (pc_q := 5) rfl rfl rfl ?_
  refine rf_R_get pm_M215 T6 (pc_q := 8) (v := .ref 54) rfl rfl rfl rfl ?_
  refine pm_R_op pm_M215 (pc_q := 9) (st_q := [.int 0, .ref 54]) rfl rfl rfl ?_
  refine pm_R_op pm_M215 (pc_q := 10) (st_q := [.int 0, .int 0, .ref 54]) rfl rfl rfl ?_
  refine pm_R_lo pm_M215 (pc_q := 11) rfl rfl rfl ?_
  refine rf_R_get pm_M215 T6 (pc_q := 14) (v := .int (m3 24)) rfl rfl rfl rfl ?_
  refine pm_R_op pm_M215 (pc_q := 15) (st_q := [.int 1, .int (m3 24), .int 0, .int 0, .ref 54]) rfl rfl rfl ?_
  refine sf_R_isub pm_M215 (pc_q := 16) rfl rfl B10 sf_k1 (by decide) (by decide) (fun z12 e13 B14 => ?_)
  refine pm_R_cs pm_M215 (pc_q := 19) (ra := [.int z12, .int 0, .int 0]) (rest := [.ref 54]) (ls_q := [.int 0, .int 0, .int z12]) rfl rfl (Or.inl rfl) pm_M207 rfl rfl (Nat.le_of_ble_eq_true rfl) rfl rfl ?_
  refine pm_R_op pm_M207 (pc_q := 3) (st_q := [.int 144]) rfl rfl rfl ?_
  refine pm_R_lo pm_M207 (pc_q := 4) rfl rfl rfl ?_
  refine pm_R_op pm_M207 (pc_q := 5) (st_q := [.int 0]) rfl rfl rfl ?_
  refine pm_R_op pm_M207 (pc_q := 7) (st_q := [.int 12, .int 0]) rfl rfl rfl ?_
  refine pm_R_lo pm_M207 (pc_q := 8) rfl rfl rfl ?_
  refine pm_R_op pm_M207 (pc_q := 9) (st_q := [.int 0, .int 0]) rfl rfl rfl ?_
  refine pm_R_op pm_M207 (pc_q := 10) (st_q := [.int 0]) rfl rfl rfl ?_
  refine pm_R_lo pm_M207 (pc_q := 11) rfl rfl rfl ?_
  refine sf_R_iadd pm_M207 (pc_q := 12) rfl rfl sf_k0 B14 (by decide) (by decide) (fun z15 e16 B17 => ?_)
  refine pm_R_ret pm_M207 (r := some (.int z15)) rfl (pm_ret_i _) ?_
  show pm_R _ 215 19 [.ref 41] [.int z15, .ref 54] _ _
  obtain ⟨f18, e19⟩ := T6.2.2.2.1 54 (by decide) (by decide)
  refine rf_R_lld pm_M215 T6 (pc_q := 20) rfl e19 (by decide) (by decide) (sf_in B17 (by decide) (by decide)) rfl (fun z21 ez22 => ?_)
  exact pm_R_ret pm_M215 (r := some (.long z21)) rfl rfl (K z21 m3 w4 h5 T6 F9 W11)

theorem sf_aux13 (v0 v1 : Int) (q0 : v0 = 13 * v1) : v0 = 13 * v1 + 0 := by omega
theorem sf_aux14 (v0 v1 v2 v3 v4 : Int) (q0 : v0 = 13 * v1) (q1 : v2 = v0 + 1) (q2 : v3 = v2 + v4) : v3 = 13 * v1 + 1 * v4 + 1 := by omega
set_option maxRecDepth 100000 in
set_option maxHeartbeats 4000000 in
/-- SilentTableModel.lay -/
theorem rf_c201 {d : Nat} {m : Nat → Int32} {w : Int64} {h : pm_H} {Q : Option Value → pm_H → Prop} {a0 : Int32} {a1 : Int32} (T : rf_T m w h) (Ba0 : sf_B 0 1 a0) (Ba1 : sf_B 0 2 a1) (V : rf_V h a1) (K : ∀ (m_q : Nat → Int32) (w_q : Int64) (h_q : pm_H), rf_T m_q w_q h_q → rf_G [41, 53] h h_q → rf_W [23, 24, 26] m m_q → (∀ g : Nat → Int32, h.2.2 48 = .inl (0, 156, .inl g) → (m_q 24).toInt = (g (13 * a1.toInt).toNat).toInt) → sf_B 1 12 (m_q 24) → Q none h_q) : pm_R (d + 0) 201 0 [.ref 41, .int a0, .int a1, pm_no] [] h Q := by
  refine pm_R_lo pm_M201 (pc_q := 1) rfl rfl rfl ?_
  refine pm_R_lo pm_M201 (pc_q := 2) rfl rfl rfl ?_
  refine rf_R_put pm_M201 T (pc_q := 5) rfl rfl rfl (by decide) rfl rfl Ba0 rfl rfl (fun h1 m4 em5 T2 F3 => ?_)
  have F6 := (rf_G.refl [41, 53] h).trans F3 (by decide)
  have B7 : sf_B 0 1 (m4 23) := by rw [em5]; exact Ba0
  have ek8 : (m4 23).toInt = (a0).toInt := by rw [em5]; rfl
  have W9 : rf_W [23, 24, 26] m m4 := by rw [em5]; exact (rf_W.refl [23, 24, 26] m).put (by decide)
  refine pm_R_lo pm_M201 (pc_q := 6) rfl rfl rfl ?_
  refine pm_R_lo pm_M201 (pc_q := 7) rfl rfl rfl ?_
  refine rf_R_get pm_M201 T2 (pc_q := 10) (v := .ref 48) rfl rfl rfl rfl ?_
  refine pm_R_op pm_M201 (pc_q := 12) (st_q := [.int 13, .ref 48, .ref 41]) rfl rfl rfl ?_
  refine pm_R_lo pm_M201 (pc_q := 13) rfl rfl rfl ?_
  refine sf_R_imul pm_M201 (pc_q := 14) rfl rfl sf_k13 Ba1 (by decide) (by decide) (by decide) (fun z10 e11 B12 => ?_)
  obtain ⟨f13, e14, b15⟩ := T2.2.2.2.1 48 (by decide) (by decide)
  refine rf_R_ild pm_M201 T2 (pc_q := 15) rfl e14 (by decide) (sf_in B12 (by decide) (by decide)) rfl (fun z16 ez17 => ?_)
  have e18 : (z10).toInt = 13 * (a1).toInt + 0 := (sf_aux13 _ _ e11)
  have B19 : sf_B 1 12 z16 := ez17 ▸ rf_p48v T2 e14 (V.F F6 (by decide)) e18
  refine rf_R_put pm_M201 T2 (pc_q := 18) rfl rfl rfl (by decide) rfl rfl (sf_weak B19 (by decide) (by decide)) rfl rfl (fun h20 m23 em24 T21 F22 => ?_)
  have F25 := F6.trans F22 (by decide)
  have B26 : sf_B 1 12 (m23 24) := by rw [em24]; exact B19
  have ek27 : (m23 24).toInt = (z16).toInt := by rw [em24]; rfl
  have W28 : rf_W [23, 24, 26] m m23 := by rw [em24]; exact W9.put (by decide)
  refine pm_R_op pm_M201 (pc_q := 19) (st_q := [.int 0]) rfl rfl rfl ?_
  refine pm_R_lo pm_M201 (pc_q := 20) (ls_q := [.ref 41, .int a0, .int a1, .int 0]) (st_q := []) rfl rfl rfl ?_
  have L_286 : ∀ (N : Nat) (h_286 : pm_H) (m_286 : Nat → Int32) (w_286 : Int64) (x3_286 : Int32), rf_T m_286 w_286 h_286 → rf_G [41, 53] h h_286 → rf_W [] m23 m_286 → sf_B 0 12 x3_286 → (12 - x3_286.toInt).toNat = N → pm_R (d + 0) 201 20 [.ref 41, .int a0, .int a1, .int x3_286] [] h_286 Q := by
    intro N
    induction N using Nat.strongRecOn with
    | ind N ih_286 =>
      intro h_286 m_286 w_286 x3_286 T_286 F_286 W_286 Bx3_286 hN_286
      have B289 : sf_B 1 12 (m_286 24) := by rw [W_286 24 (by decide)]; exact B26
      have ek290 : (m_286 24).toInt = (z16).toInt := by rw [W_286 24 (by decide)]; exact ek27
      have W291 : rf_W [23, 24, 26] m m_286 := W28.trans W_286 (by decide)
      refine pm_R_lo pm_M201 (pc_q := 21) rfl rfl rfl ?_
      refine pm_R_lo pm_M201 (pc_q := 22) rfl rfl rfl ?_
      refine rf_R_get pm_M201 T_286 (pc_q := 25) (v := .int (m_286 24)) rfl rfl rfl rfl ?_
      refine pm_R_icmp pm_M201 (t := 55) (pc_q := 28) rfl rfl rfl (fun c292 => ?_) (fun c292 => ?_)
      · have B293 : sf_B 1 12 x3_286 := sf_leR c292 B289 Bx3_286
        refine pm_R_lo pm_M201 (pc_q := 56) rfl rfl rfl ?_
        refine pm_R_op pm_M201 (pc_q := 57) (st_q := [.int (-1), .ref 41]) rfl rfl rfl ?_
        refine rf_R_put pm_M201 T_286 (pc_q := 60) rfl rfl rfl (by decide) rfl rfl (sf_weak sf_kn1 (by decide) (by decide)) rfl rfl (fun h294 m297 em298 T295 F296 => ?_)
        have F299 := F_286.trans F296 (by decide)
        have B300 : sf_B 1 12 (m297 24) := by rw [em298]; exact B289
        have ek301 : (m297 24).toInt = (z16).toInt := by rw [em298]; exact ek290
        have B302 : sf_B (-1) (-1) (m297 26) := by rw [em298]; exact sf_kn1
        have W304 : rf_W [23, 24, 26] m m297 := by rw [em298]; exact W291.put (by decide)
        exact pm_R_ret pm_M201 (r := none) rfl rfl (K m297 w_286 h294 T295 F299 W304 (fun g eg => rf_layX e14 F6 eg ez17 ek301 e18 (by decide)) B300)
      · have B305 : sf_B 0 11 x3_286 := sf_ltL (Int32.not_le.mp c292) Bx3_286 B289
        refine pm_R_lo pm_M201 (pc_q := 29) rfl rfl rfl ?_
        refine rf_R_get pm_M201 T_286 (pc_q := 32) (v := .ref 53) rfl rfl rfl rfl ?_
        refine pm_R_lo pm_M201 (pc_q := 33) rfl rfl rfl ?_
        refine pm_R_op pm_M201 (pc_q := 34) (st_q := [.int 1, .int x3_286, .ref 53]) rfl rfl rfl ?_
        refine pm_R_lo pm_M201 (pc_q := 35) rfl rfl rfl ?_
        refine rf_R_get pm_M201 T_286 (pc_q := 38) (v := .ref 48) rfl rfl rfl rfl ?_
        refine pm_R_op pm_M201 (pc_q := 40) (st_q := [.int 13, .ref 48, .int 1, .int x3_286, .ref 53]) rfl rfl rfl ?_
        refine pm_R_lo pm_M201 (pc_q := 41) rfl rfl rfl ?_
        refine sf_R_imulV pm_M201 (pc_q := 42) rfl rfl sf_k13 Ba1 (by decide) (by decide) (by decide) e11 ?_
        refine pm_R_op pm_M201 (pc_q := 43) (st_q := [.int 1, .int z10, .ref 48, .int 1, .int x3_286, .ref 53]) rfl rfl rfl ?_
        refine sf_R_iadd pm_M201 (pc_q := 44) rfl rfl B12 sf_k1 (by decide) (by decide) (fun z306 e307 B308 => ?_)
        refine pm_R_lo pm_M201 (pc_q := 45) rfl rfl rfl ?_
        refine sf_R_iadd pm_M201 (pc_q := 46) rfl rfl B308 B305 (by decide) (by decide) (fun z309 e310 B311 => ?_)
        obtain ⟨f312, e313, b314⟩ := T_286.2.2.2.1 48 (by decide) (by decide)
        refine rf_R_ild pm_M201 T_286 (pc_q := 47) rfl e313 (by decide) (sf_in B311 (by decide) (by decide)) rfl (fun z315 ez316 => ?_)
        have e317 : (z309).toInt = 13 * (a1).toInt + 1 * (x3_286).toInt + 1 := (sf_aux14 _ _ _ _ _ e11 e307 e310)
        have B318 : sf_B 0 9 z315 := ez316 ▸ rf_p48s b314 e317 Ba1 B305 (by decide) (by decide) (by decide)
        refine sf_R_iany pm_M201 (pc_q := 48) (st := [.int x3_286, .ref 53]) rfl rfl rfl (fun z322 => ?_)
        obtain ⟨f323, e324⟩ := T_286.2.2.2.1 53 (by decide) (by decide)
        refine rf_R_ist pm_M201 T_286 (pc_q := 49) rfl e324 (by decide) (by decide) (sf_in B305 (by decide) (by decide)) ⟨_, rfl⟩ rfl (fun h326 T327 F328 e329 => ?_)
        have F330 := F_286.trans F328 (by decide)
        refine sf_R_iinc pm_M201 (pc_q := 52) (ls_q := fun z => [.ref 41, .int a0, .int a1, .int z]) rfl B305 rfl (by decide) (by decide) (by decide) (fun _ => rfl) rfl (fun z331 e332 B333 => ?_)
        show pm_R _ 201 52 [.ref 41, .int a0, .int a1, .int z331] [] _ _
        refine pm_R_br pm_M201 (pc_q := 20) rfl rfl ?_
        exact ih_286 _ (sf_up hN_286 e332 B305 (by decide) (by decide)) h326 m_286 w_286 z331 T327 F330 W_286 (sf_weak B333 (by decide) (by decide)) rfl
  exact L_286 _ h20 m23 w 0 T21 F25 (rf_W.refl _ _) (sf_weak sf_k0 (by decide) (by decide)) rfl

set_option maxRecDepth 100000 in
set_option maxHeartbeats 4000000 in
/-- SilentTableModel.layNumber -/
theorem rf_c244 {d : Nat} {m : Nat → Int32} {w : Int64} {h : pm_H} {Q : Option Value → pm_H → Prop} {a0 : Int32} {a1 : Int32} (T : rf_T m w h) (Ba0 : sf_B 1 4 a0) (Ba1 : sf_B 0 2147483647 a1) (K : ∀ (m_q : Nat → Int32) (w_q : Int64) (h_q : pm_H), rf_T m_q w_q h_q → rf_G [41, 53] h h_q → rf_W [24, 26] m m_q → sf_B 1 4 (m_q 24) → Q none h_q) : pm_R (d + 0) 244 0 [.ref 41, .int a0, .int a1, pm_no, pm_no] [] h Q := by
  refine pm_R_lo pm_M244 (pc_q := 1) rfl rfl rfl ?_
  refine pm_R_lo pm_M244 (pc_q := 2) rfl rfl rfl ?_
  refine rf_R_put pm_M244 T (pc_q := 5) rfl rfl rfl (by decide) rfl rfl (sf_weak Ba0 (by decide) (by decide)) rfl rfl (fun h1 m4 em5 T2 F3 => ?_)
  have F6 := (rf_G.refl [41, 53] h).trans F3 (by decide)
  have B7 : sf_B 1 4 (m4 24) := by rw [em5]; exact Ba0
  have ek8 : (m4 24).toInt = (a0).toInt := by rw [em5]; rfl
  have W9 : rf_W [24, 26] m m4 := by rw [em5]; exact (rf_W.refl [24, 26] m).put (by decide)
  refine pm_R_lo pm_M244 (pc_q := 6) rfl rfl rfl ?_
  refine pm_R_op pm_M244 (pc_q := 7) (st_q := [.int (-1), .ref 41]) rfl rfl rfl ?_
  refine rf_R_put pm_M244 T2 (pc_q := 10) rfl rfl rfl (by decide) rfl rfl (sf_weak sf_kn1 (by decide) (by decide)) rfl rfl (fun h10 m13 em14 T11 F12 => ?_)
  have F15 := F6.trans F12 (by decide)
  have B16 : sf_B 1 4 (m13 24) := by rw [em14]; exact B7
  have ek17 : (m13 24).toInt = (a0).toInt := by rw [em14]; exact ek8
  have B18 : sf_B (-1) (-1) (m13 26) := by rw [em14]; exact sf_kn1
  have W20 : rf_W [24, 26] m m13 := by rw [em14]; exact W9.put (by decide)
  refine pm_R_lo pm_M244 (pc_q := 11) rfl rfl rfl ?_
  refine pm_R_lo pm_M244 (pc_q := 12) (ls_q := [.ref 41, .int a0, .int a1, .int a1, pm_no]) (st_q := []) rfl rfl rfl ?_
  refine pm_R_lo pm_M244 (pc_q := 13) rfl rfl rfl ?_
  refine pm_R_op pm_M244 (pc_q := 14) (st_q := [.int 1, .int a0]) rfl rfl rfl ?_
  refine sf_R_isub pm_M244 (pc_q := 15) rfl rfl Ba0 sf_k1 (by decide) (by decide) (fun z21 e22 B23 => ?_)
  refine pm_R_lo pm_M244 (pc_q := 17) (ls_q := [.ref 41, .int a0, .int a1, .int a1, .int z21]) (st_q := []) rfl rfl rfl ?_
  have L_106 : ∀ (N : Nat) (h_106 : pm_H) (m_106 : Nat → Int32) (w_106 : Int64) (x3_106 : Int32) (x4_106 : Int32), rf_T m_106 w_106 h_106 → rf_G [41, 53] h h_106 → rf_W [] m13 m_106 → sf_B 0 2147483647 x3_106 → sf_B (-1) 3 x4_106 → (x4_106.toInt - (-1)).toNat = N → pm_R (d + 0) 244 17 [.ref 41, .int a0, .int a1, .int x3_106, .int x4_106] [] h_106 Q := by
    intro N
    induction N using Nat.strongRecOn with
    | ind N ih_106 =>
      intro h_106 m_106 w_106 x3_106 x4_106 T_106 F_106 W_106 Bx3_106 Bx4_106 hN_106
      have B109 : sf_B 1 4 (m_106 24) := by rw [W_106 24 (by decide)]; exact B16
      have ek110 : (m_106 24).toInt = (a0).toInt := by rw [W_106 24 (by decide)]; exact ek17
      have B111 : sf_B (-1) (-1) (m_106 26) := by rw [W_106 26 (by decide)]; exact B18
      have W112 : rf_W [24, 26] m m_106 := W20.trans W_106 (by decide)
      refine pm_R_lo pm_M244 (pc_q := 19) rfl rfl rfl ?_
      refine pm_R_ifc pm_M244 (t := 46) (pc_q := 22) rfl rfl rfl (fun c113 => ?_) (fun c113 => ?_)
      · have B114 : sf_B (-1) (-1) x4_106 := sf_ltL c113 Bx4_106 sf_k0
        exact pm_R_ret pm_M244 (r := none) rfl rfl (K m_106 w_106 h_106 T_106 F_106 W112 B109)
      · have B115 : sf_B 0 3 x4_106 := sf_leR (Int32.not_lt.mp c113) sf_k0 Bx4_106
        refine pm_R_lo pm_M244 (pc_q := 23) rfl rfl rfl ?_
        refine rf_R_get pm_M244 T_106 (pc_q := 26) (v := .ref 53) rfl rfl rfl rfl ?_
        refine pm_R_lo pm_M244 (pc_q := 28) rfl rfl rfl ?_
        refine pm_R_op pm_M244 (pc_q := 29) (st_q := [.int 1, .int x4_106, .ref 53]) rfl rfl rfl ?_
        refine pm_R_lo pm_M244 (pc_q := 30) rfl rfl rfl ?_
        refine pm_R_op pm_M244 (pc_q := 32) (st_q := [.int 10, .int x3_106, .int 1, .int x4_106, .ref 53]) rfl rfl rfl ?_
        refine sf_R_irem pm_M244 (pc_q := 33) rfl rfl Bx3_106 sf_k10 (by decide) (by decide) (fun z116 e117 B118 => ?_)
        refine sf_R_iany pm_M244 (pc_q := 34) (st := [.int x4_106, .ref 53]) rfl rfl rfl (fun z122 => ?_)
        obtain ⟨f123, e124⟩ := T_106.2.2.2.1 53 (by decide) (by decide)
        refine rf_R_ist pm_M244 T_106 (pc_q := 35) rfl e124 (by decide) (by decide) (sf_in B115 (by decide) (by decide)) ⟨_, rfl⟩ rfl (fun h126 T127 F128 e129 => ?_)
        have F130 := F_106.trans F128 (by decide)
        refine pm_R_lo pm_M244 (pc_q := 36) rfl rfl rfl ?_
        refine pm_R_op pm_M244 (pc_q := 38) (st_q := [.int 10, .int x3_106]) rfl rfl rfl ?_
        refine sf_R_idiv pm_M244 (pc_q := 39) rfl rfl Bx3_106 sf_k10 (by decide) (by decide) (fun z131 e132 B133 => ?_)
        refine pm_R_lo pm_M244 (pc_q := 40) (ls_q := [.ref 41, .int a0, .int a1, .int z131, .int x4_106]) (st_q := []) rfl rfl rfl ?_
        refine sf_R_iinc pm_M244 (pc_q := 43) (ls_q := fun z => [.ref 41, .int a0, .int a1, .int z131, .int z]) rfl B115 rfl (by decide) (by decide) (by decide) (fun _ => rfl) rfl (fun z134 e135 B136 => ?_)
        show pm_R _ 244 43 [.ref 41, .int a0, .int a1, .int z131, .int z134] [] _ _
        refine pm_R_br pm_M244 (pc_q := 17) rfl rfl ?_
        exact ih_106 _ (sf_dn hN_106 e135 B115 (by decide) (by decide)) h126 m_106 w_106 z131 z134 T127 F130 W_106 (sf_weak B133 (by decide) (by decide)) (sf_weak B136 (by decide) (by decide)) rfl
  exact L_106 _ h10 m13 w a1 z21 T11 F15 (rf_W.refl _ _) Ba1 (sf_weak B23 (by decide) (by decide)) rfl

set_option maxRecDepth 100000 in
set_option maxHeartbeats 4000000 in
/-- SilentTableModel.keepFound -/
theorem rf_c245 {d : Nat} {m : Nat → Int32} {w : Int64} {h : pm_H} {Q : Option Value → pm_H → Prop} {a0 : Int32} {a1 : Int32} (T : rf_T m w h) (Ba0 : sf_B 1 4 a0) (Ba1 : sf_B 0 2147483647 a1) (K : ∀ (m_q : Nat → Int32) (w_q : Int64) (h_q : pm_H), rf_T m_q w_q h_q → rf_G [66] h h_q → rf_W [] m m_q → Q none h_q) : pm_R (d + 0) 245 0 [.ref 41, .int a0, .int a1, pm_no, pm_no] [] h Q := by
  refine pm_R_lo pm_M245 (pc_q := 1) rfl rfl rfl ?_
  refine pm_R_lo pm_M245 (pc_q := 2) (ls_q := [.ref 41, .int a0, .int a1, .int a1, pm_no]) (st_q := []) rfl rfl rfl ?_
  refine pm_R_lo pm_M245 (pc_q := 3) rfl rfl rfl ?_
  refine rf_R_get pm_M245 T (pc_q := 6) (v := .ref 66) rfl rfl rfl rfl ?_
  refine pm_R_op pm_M245 (pc_q := 7) (st_q := [.int 0, .ref 66]) rfl rfl rfl ?_
  refine pm_R_lo pm_M245 (pc_q := 8) rfl rfl rfl ?_
  obtain ⟨f1, e2, b3⟩ := T.2.2.2.1 66 (by decide) (by decide)
  refine rf_R_ist pm_M245 T (pc_q := 9) rfl e2 (by decide) (by decide) rfl ⟨_, rfl, rf_u66 b3 (sf_weak Ba0 (by decide) (by decide))⟩ rfl (fun h4 T5 F6 e7 => ?_)
  have F8 := (rf_G.refl [66] h).trans F6 (by decide)
  refine pm_R_lo pm_M245 (pc_q := 10) rfl rfl rfl ?_
  refine pm_R_lo pm_M245 (pc_q := 12) (ls_q := [.ref 41, .int a0, .int a1, .int a1, .int a0]) (st_q := []) rfl rfl rfl ?_
  have L_79 : ∀ (N : Nat) (h_79 : pm_H) (m_79 : Nat → Int32) (w_79 : Int64) (x3_79 : Int32) (x4_79 : Int32), rf_T m_79 w_79 h_79 → rf_G [66] h h_79 → rf_W [] m m_79 → sf_B 0 2147483647 x3_79 → sf_B 0 4 x4_79 → (x4_79.toInt - 0).toNat = N → pm_R (d + 0) 245 12 [.ref 41, .int a0, .int a1, .int x3_79, .int x4_79] [] h_79 Q := by
    intro N
    induction N using Nat.strongRecOn with
    | ind N ih_79 =>
      intro h_79 m_79 w_79 x3_79 x4_79 T_79 F_79 W_79 Bx3_79 Bx4_79 hN_79
      have W82 : rf_W [] m m_79 := (rf_W.refl [] m).trans W_79 (by decide)
      refine pm_R_lo pm_M245 (pc_q := 14) rfl rfl rfl ?_
      refine pm_R_ifc pm_M245 (t := 39) (pc_q := 17) rfl rfl rfl (fun c83 => ?_) (fun c83 => ?_)
      · have B84 : sf_B 0 0 x4_79 := sf_leL c83 Bx4_79 sf_k0
        exact pm_R_ret pm_M245 (r := none) rfl rfl (K m_79 w_79 h_79 T_79 F_79 W82)
      · have B85 : sf_B 1 4 x4_79 := sf_ltR (Int32.not_le.mp c83) sf_k0 Bx4_79
        refine pm_R_lo pm_M245 (pc_q := 18) rfl rfl rfl ?_
        refine rf_R_get pm_M245 T_79 (pc_q := 21) (v := .ref 66) rfl rfl rfl rfl ?_
        refine pm_R_lo pm_M245 (pc_q := 23) rfl rfl rfl ?_
        refine pm_R_lo pm_M245 (pc_q := 24) rfl rfl rfl ?_
        refine pm_R_op pm_M245 (pc_q := 26) (st_q := [.int 10, .int x3_79, .int x4_79, .ref 66]) rfl rfl rfl ?_
        refine sf_R_irem pm_M245 (pc_q := 27) rfl rfl Bx3_79 sf_k10 (by decide) (by decide) (fun z86 e87 B88 => ?_)
        obtain ⟨f89, e90, b91⟩ := T_79.2.2.2.1 66 (by decide) (by decide)
        refine rf_R_ist pm_M245 T_79 (pc_q := 28) rfl e90 (by decide) (by decide) (sf_in B85 (by decide) (by decide)) ⟨_, rfl, rf_v66 b91 B88 B85 (by decide)⟩ rfl (fun h92 T93 F94 e95 => ?_)
        have F96 := F_79.trans F94 (by decide)
        refine pm_R_lo pm_M245 (pc_q := 29) rfl rfl rfl ?_
        refine pm_R_op pm_M245 (pc_q := 31) (st_q := [.int 10, .int x3_79]) rfl rfl rfl ?_
        refine sf_R_idiv pm_M245 (pc_q := 32) rfl rfl Bx3_79 sf_k10 (by decide) (by decide) (fun z97 e98 B99 => ?_)
        refine pm_R_lo pm_M245 (pc_q := 33) (ls_q := [.ref 41, .int a0, .int a1, .int z97, .int x4_79]) (st_q := []) rfl rfl rfl ?_
        refine sf_R_iinc pm_M245 (pc_q := 36) (ls_q := fun z => [.ref 41, .int a0, .int a1, .int z97, .int z]) rfl B85 rfl (by decide) (by decide) (by decide) (fun _ => rfl) rfl (fun z100 e101 B102 => ?_)
        show pm_R _ 245 36 [.ref 41, .int a0, .int a1, .int z97, .int z100] [] _ _
        refine pm_R_br pm_M245 (pc_q := 12) rfl rfl ?_
        exact ih_79 _ (sf_dn hN_79 e101 B85 (by decide) (by decide)) h92 m_79 w_79 z97 z100 T93 F96 W_79 (sf_weak B99 (by decide) (by decide)) (sf_weak B102 (by decide) (by decide)) rfl
  exact L_79 _ h4 m w a1 a0 T5 F8 (rf_W.refl _ _) Ba1 (sf_weak Ba0 (by decide) (by decide)) rfl

set_option maxRecDepth 100000 in
set_option maxHeartbeats 4000000 in
/-- SilentTableModel.isBrief -/
theorem rf_c243 {d : Nat} {m : Nat → Int32} {w : Int64} {h : pm_H} {Q : Option Value → pm_H → Prop} {a0 : Int32} {a1 : Int32} {a2 : Int32} {a3 : Int32} (T : rf_T m w h) (Ba0 : sf_B 1 4 a0) (Ba1 : sf_B 0 2147483647 a1) (Ba2 : sf_B 0 49 a2) (Ba3 : sf_B (-1) 9 a3) (K : ∀ (r : Int32) (m_q : Nat → Int32) (w_q : Int64) (h_q : pm_H), rf_T m_q w_q h_q → rf_G [41, 53, 54, 55] h h_q → rf_W [24, 26] m m_q → sf_B 0 1 r → Q (some (.int r)) h_q) : pm_R (d + 7) 243 0 [.ref 41, .int a0, .int a1, .int a2, .int a3] [] h Q := by
  refine pm_R_lo pm_M243 (pc_q := 1) rfl rfl rfl ?_
  refine pm_R_lo pm_M243 (pc_q := 2) rfl rfl rfl ?_
  refine pm_R_lo pm_M243 (pc_q := 3) rfl rfl rfl ?_
  refine pm_R_cv pm_M243 (pc_q := 6) (a := 41) (ra := [.int a1, .int a0]) (rest := []) (ls_q := [.ref 41, .int a0, .int a1, pm_no, pm_no]) rfl rfl (Or.inl rfl) pm_M244 T.2.1 rfl (by decide) (Nat.lt_of_lt_of_le (by decide) T.1) rfl rfl (Nat.le_of_ble_eq_true rfl) rfl rfl ?_
  refine rf_c244 (d := d + 6) T Ba0 Ba1 (fun m3 w4 h5 T6 F7 W8 B9 => ?_)
  have F10 := (rf_G.refl [41, 53, 54, 55] h).trans F7 (by decide)
  have W11 : rf_W [24, 26] m m3 := (rf_W.refl [24, 26] m).trans W8 (by decide)
  show pm_R _ 243 6 [.ref 41, .int a0, .int a1, .int a2, .int a3] [] _ _
  refine pm_R_lo pm_M243 (pc_q := 7) rfl rfl rfl ?_
  refine pm_R_cv pm_M243 (pc_q := 10) (a := 41) (ra := []) (rest := []) (ls_q := [.ref 41, pm_no, pm_no, pm_no, pm_no, pm_no]) rfl rfl (Or.inl rfl) pm_M202 T6.2.1 rfl (by decide) (Nat.lt_of_lt_of_le (by decide) T6.1) rfl rfl (Nat.le_of_ble_eq_true rfl) rfl rfl ?_
  refine rf_c202 (d := d + 2) T6  (fun m14 w15 h16 T17 F18 W19 => ?_)
  have F20 := F10.trans F18 (by decide)
  have B21 : sf_B 1 4 (m14 24) := by rw [W19 24 (by decide)]; exact B9
  have W22 : rf_W [24, 26] m m14 := W11.trans W19 (by decide)
  show pm_R _ 243 10 [.ref 41, .int a0, .int a1, .int a2, .int a3] [] _ _
  refine pm_R_lo pm_M243 (pc_q := 11) rfl rfl rfl ?_
  refine rf_R_get pm_M243 T17 (pc_q := 14) (v := .ref 55) rfl rfl rfl rfl ?_
  refine pm_R_op pm_M243 (pc_q := 15) (st_q := [.int 0, .ref 55]) rfl rfl rfl ?_
  refine pm_R_op pm_M243 (pc_q := 16) (st_q := [.int 0, .int 0, .ref 55]) rfl rfl rfl ?_
  refine pm_R_lo pm_M243 (pc_q := 17) rfl rfl rfl ?_
  refine pm_R_op pm_M243 (pc_q := 18) (st_q := [.int 1, .int a0, .int 0, .int 0, .ref 55]) rfl rfl rfl ?_
  refine sf_R_isub pm_M243 (pc_q := 19) rfl rfl Ba0 sf_k1 (by decide) (by decide) (fun z23 e24 B25 => ?_)
  refine pm_R_cs pm_M243 (pc_q := 22) (ra := [.int z23, .int 0, .int 0]) (rest := [.ref 55]) (ls_q := [.int 0, .int 0, .int z23]) rfl rfl (Or.inl rfl) pm_M207 rfl rfl (Nat.le_of_ble_eq_true rfl) rfl rfl ?_
  refine pm_R_op pm_M207 (pc_q := 3) (st_q := [.int 144]) rfl rfl rfl ?_
  refine pm_R_lo pm_M207 (pc_q := 4) rfl rfl rfl ?_
  refine pm_R_op pm_M207 (pc_q := 5) (st_q := [.int 0]) rfl rfl rfl ?_
  refine pm_R_op pm_M207 (pc_q := 7) (st_q := [.int 12, .int 0]) rfl rfl rfl ?_
  refine pm_R_lo pm_M207 (pc_q := 8) rfl rfl rfl ?_
  refine pm_R_op pm_M207 (pc_q := 9) (st_q := [.int 0, .int 0]) rfl rfl rfl ?_
  refine pm_R_op pm_M207 (pc_q := 10) (st_q := [.int 0]) rfl rfl rfl ?_
  refine pm_R_lo pm_M207 (pc_q := 11) rfl rfl rfl ?_
  refine sf_R_iadd pm_M207 (pc_q := 12) rfl rfl sf_k0 B25 (by decide) (by decide) (fun z26 e27 B28 => ?_)
  refine pm_R_ret pm_M207 (r := some (.int z26)) rfl (pm_ret_i _) ?_
  show pm_R _ 243 22 [.ref 41, .int a0, .int a1, .int a2, .int a3] [.int z26, .ref 55] _ _
  obtain ⟨f29, e30, b31⟩ := T17.2.2.2.1 55 (by decide) (by decide)
  refine rf_R_lld pm_M243 T17 (pc_q := 23) rfl e30 (by decide) (by decide) (sf_in B28 (by decide) (by decide)) rfl (fun z32 ez33 => ?_)
  have B34 : lf_B 0 1000000000000 z32 := ez33 ▸ b31 _
  refine pm_R_op pm_M243 (pc_q := 24) (st_q := [.long 1, .long z32]) rfl rfl rfl ?_
  refine sf_R_lcmp pm_M243 (pc_q := 25) rfl rfl (fun z35 e36 => ?_)
  refine pm_R_ifc pm_M243 (t := 39) (pc_q := 28) rfl rfl rfl (fun c37 => ?_) (fun c37 => ?_)
  · have k38 := sf_lneC e36 c37
    refine pm_R_op pm_M243 (pc_q := 40) (st_q := [.int 0]) rfl rfl rfl ?_
    exact pm_R_ret pm_M243 (r := some (.int 0)) rfl rfl (K 0 m14 w15 h16 T17 F20 W22 (sf_weak sf_k0 (by decide) (by decide)))
  · have B39 : sf_B 0 0 z35 := sf_eqL (Classical.not_not.mp c37) sf_k0
    have B40 : lf_B 1 1 z32 := lf_eqB e36 B39 (⟨by decide, by decide⟩ : lf_B 1 1 1)
    refine pm_R_lo pm_M243 (pc_q := 29) rfl rfl rfl ?_
    refine pm_R_cv pm_M243 (pc_q := 32) (a := 41) (ra := []) (rest := []) (ls_q := [.ref 41]) rfl rfl (Or.inl rfl) pm_M215 T17.2.1 rfl (by decide) (Nat.lt_of_lt_of_le (by decide) T17.1) rfl rfl (Nat.le_of_ble_eq_true rfl) rfl rfl ?_
    refine rf_c215 (d := d + 1) T17 (sf_weak B21 (by decide) (by decide)) (fun r41 m43 w44 h45 T46 F47 W48 => ?_)
    have F49 := F20.trans F47 (by decide)
    have B50 : sf_B 1 4 (m43 24) := by rw [W48 24 (by decide)]; exact B21
    have W51 : rf_W [24, 26] m m43 := W22.trans W48 (by decide)
    show pm_R _ 243 32 [.ref 41, .int a0, .int a1, .int a2, .int a3] [.long r41] _ _
    refine pm_R_op pm_M243 (pc_q := 33) (st_q := [.long 1, .long r41]) rfl rfl rfl ?_
    refine pm_R_lo pm_M243 (pc_q := 34) rfl rfl rfl ?_
    refine sf_R_lany pm_M243 (pc_q := 35) (st := [.long r41]) rfl rfl rfl (fun z52 => ?_)
    refine sf_R_lcmp pm_M243 (pc_q := 36) rfl rfl (fun z53 e54 => ?_)
    refine pm_R_ifc pm_M243 (t := 41) (pc_q := 39) rfl rfl rfl (fun c55 => ?_) (fun c55 => ?_)
    · have B56 : sf_B 0 0 z53 := sf_eqL c55 sf_k0
      have k57 := lf_ge e54 B56 (by decide)
      refine pm_R_lo pm_M243 (pc_q := 43) rfl rfl rfl ?_
      refine pm_R_op pm_M243 (pc_q := 44) (st_q := [.int (-1), .int a3]) rfl rfl rfl ?_
      refine pm_R_icmp pm_M243 (t := 60) (pc_q := 47) rfl rfl rfl (fun c58 => ?_) (fun c58 => ?_)
      · have B59 : sf_B (-1) (-1) a3 := sf_eqL c58 sf_kn1
        refine pm_R_op pm_M243 (pc_q := 61) (st_q := [.int 1]) rfl rfl rfl ?_
        refine pm_R_br pm_M243 (pc_q := 65) rfl rfl ?_
        exact pm_R_ret pm_M243 (r := some (.int 1)) rfl rfl (K 1 m43 w44 h45 T46 F49 W51 (sf_weak sf_k1 (by decide) (by decide)))
      · have B60 : sf_B 0 9 a3 := sf_neL0 c58 sf_kn1 Ba3
        refine pm_R_lo pm_M243 (pc_q := 48) rfl rfl rfl ?_
        refine pm_R_lo pm_M243 (pc_q := 50) rfl rfl rfl ?_
        refine pm_R_cv pm_M243 (pc_q := 53) (a := 41) (ra := [.int a3]) (rest := []) (ls_q := [.ref 41, .int a3]) rfl rfl (Or.inl rfl) pm_M234 T46.2.1 rfl (by decide) (Nat.lt_of_lt_of_le (by decide) T46.1) rfl rfl (Nat.le_of_ble_eq_true rfl) rfl rfl ?_
        refine pm_R_lo pm_M234 (pc_q := 1) rfl rfl rfl ?_
        refine pm_R_lo pm_M234 (pc_q := 2) rfl rfl rfl ?_
        refine pm_R_cv pm_M234 (pc_q := 5) (a := 41) (ra := [.int a3]) (rest := []) (ls_q := [.ref 41, .int a3, pm_no, pm_no, pm_no, pm_no]) rfl rfl (Or.inl rfl) pm_M235 T46.2.1 rfl (by decide) (Nat.lt_of_lt_of_le (by decide) T46.1) rfl rfl (Nat.le_of_ble_eq_true rfl) rfl rfl ?_
        refine rf_c235 (d := d + 4) T46 (sf_weak B60 (by decide) (by decide)) (fun m63 w64 h65 T66 F67 W68 => ?_)
        have F69 := F49.trans F67 (by decide)
        have B70 : sf_B 1 4 (m63 24) := by rw [W68 24 (by decide)]; exact B50
        have W71 : rf_W [24, 26] m m63 := W51.trans W68 (by decide)
        show pm_R _ 234 5 [.ref 41, .int a3] [] _ _
        refine pm_R_lo pm_M234 (pc_q := 6) rfl rfl rfl ?_
        refine pm_R_cv pm_M234 (pc_q := 9) (a := 41) (ra := []) (rest := []) (ls_q := [.ref 41]) rfl rfl (Or.inl rfl) pm_M215 T66.2.1 rfl (by decide) (Nat.lt_of_lt_of_le (by decide) T66.1) rfl rfl (Nat.le_of_ble_eq_true rfl) rfl rfl ?_
        refine rf_c215 (d := d + 0) T66 (sf_weak B70 (by decide) (by decide)) (fun r72 m74 w75 h76 T77 F78 W79 => ?_)
        have F80 := F69.trans F78 (by decide)
        have B81 : sf_B 1 4 (m74 24) := by rw [W79 24 (by decide)]; exact B70
        have W82 : rf_W [24, 26] m m74 := W71.trans W79 (by decide)
        show pm_R _ 234 9 [.ref 41, .int a3] [.long r72] _ _
        refine pm_R_ret pm_M234 (r := some (.long r72)) rfl rfl ?_
        show pm_R _ 243 53 [.ref 41, .int a0, .int a1, .int a2, .int a3] [.long r72] _ _
        refine pm_R_op pm_M243 (pc_q := 54) (st_q := [.long 1, .long r72]) rfl rfl rfl ?_
        refine pm_R_lo pm_M243 (pc_q := 55) rfl rfl rfl ?_
        refine sf_R_lany pm_M243 (pc_q := 56) (st := [.long r72]) rfl rfl rfl (fun z83 => ?_)
        refine sf_R_lcmp pm_M243 (pc_q := 57) rfl rfl (fun z84 e85 => ?_)
        refine pm_R_ifc pm_M243 (t := 64) (pc_q := 60) rfl rfl rfl (fun c86 => ?_) (fun c86 => ?_)
        · have k87 := sf_lneC e85 c86
          refine pm_R_op pm_M243 (pc_q := 65) (st_q := [.int 0]) rfl rfl rfl ?_
          exact pm_R_ret pm_M243 (r := some (.int 0)) rfl rfl (K 0 m74 w75 h76 T77 F80 W82 (sf_weak sf_k0 (by decide) (by decide)))
        · have B88 : sf_B 0 0 z84 := sf_eqL (Classical.not_not.mp c86) sf_k0
          have k89 := lf_ge e85 B88 (by decide)
          refine pm_R_op pm_M243 (pc_q := 61) (st_q := [.int 1]) rfl rfl rfl ?_
          refine pm_R_br pm_M243 (pc_q := 65) rfl rfl ?_
          exact pm_R_ret pm_M243 (r := some (.int 1)) rfl rfl (K 1 m74 w75 h76 T77 F80 W82 (sf_weak sf_k1 (by decide) (by decide)))
    · have k90 := sf_lneC e54 c55
      refine pm_R_op pm_M243 (pc_q := 40) (st_q := [.int 0]) rfl rfl rfl ?_
      exact pm_R_ret pm_M243 (r := some (.int 0)) rfl rfl (K 0 m43 w44 h45 T46 F49 W51 (sf_weak sf_k0 (by decide) (by decide)))

set_option maxRecDepth 100000 in
set_option maxHeartbeats 4000000 in
/-- SilentTableModel.findBrief -/
theorem rf_c241 {d : Nat} {m : Nat → Int32} {w : Int64} {h : pm_H} {Q : Option Value → pm_H → Prop} {a0 : Int32} {a1 : Int32} (T : rf_T m w h) (Ba0 : sf_B 0 49 a0) (Ba1 : sf_B (-1) 9 a1) (K : ∀ (r : Int32) (m_q : Nat → Int32) (w_q : Int64) (h_q : pm_H), rf_T m_q w_q h_q → rf_G [41, 53, 54, 55, 66] h h_q → rf_W [24, 26] m m_q → sf_B 0 1 r → Q (some (.int r)) h_q) : pm_R (d + 8) 241 0 [.ref 41, .int a0, .int a1, pm_no, pm_no] [] h Q := by
  refine pm_R_op pm_M241 (pc_q := 1) (st_q := [.int 1]) rfl rfl rfl ?_
  refine pm_R_lo pm_M241 (pc_q := 2) (ls_q := [.ref 41, .int a0, .int a1, .int 1, pm_no]) (st_q := []) rfl rfl rfl ?_
  have L_1325 : ∀ (N : Nat) (h_1325 : pm_H) (m_1325 : Nat → Int32) (w_1325 : Int64) (x3_1325 : Int32) (g4_1325 : Value), rf_T m_1325 w_1325 h_1325 → rf_G [41, 53, 54, 55, 66] h h_1325 → rf_W [24, 26] m m_1325 → sf_B 1 5 x3_1325 → g4_1325.category = 1 → (5 - x3_1325.toInt).toNat = N → pm_R (d + 8) 241 2 [.ref 41, .int a0, .int a1, .int x3_1325, g4_1325] [] h_1325 Q := by
    intro N
    induction N using Nat.strongRecOn with
    | ind N ih_1325 =>
      intro h_1325 m_1325 w_1325 x3_1325 g4_1325 T_1325 F_1325 W_1325 Bx3_1325 Cg4_1325 hN_1325
      have W1328 : rf_W [24, 26] m m_1325 := (rf_W.refl [24, 26] m).trans W_1325 (by decide)
      refine pm_R_lo pm_M241 (pc_q := 3) rfl rfl rfl ?_
      refine pm_R_op pm_M241 (pc_q := 4) (st_q := [.int 4, .int x3_1325]) rfl rfl rfl ?_
      refine pm_R_icmp pm_M241 (t := 52) (pc_q := 7) rfl rfl rfl (fun c1329 => ?_) (fun c1329 => ?_)
      · have B1330 : sf_B 5 5 x3_1325 := sf_ltR c1329 sf_k4 Bx3_1325
        refine pm_R_op pm_M241 (pc_q := 53) (st_q := [.int 0]) rfl rfl rfl ?_
        exact pm_R_ret pm_M241 (r := some (.int 0)) rfl rfl (K 0 m_1325 w_1325 h_1325 T_1325 F_1325 W1328 (sf_weak sf_k0 (by decide) (by decide)))
      · have B1331 : sf_B 1 4 x3_1325 := sf_leL (Int32.not_lt.mp c1329) Bx3_1325 sf_k4
        refine pm_R_op pm_M241 (pc_q := 8) (st_q := [.int 0]) rfl rfl rfl ?_
        refine pm_R_lo pm_M241 (pc_q := 10) (ls_q := [.ref 41, .int a0, .int a1, .int x3_1325, .int 0]) (st_q := []) rfl rfl rfl ?_
        have L_1557 : ∀ (N : Nat) (h_1557 : pm_H) (m_1557 : Nat → Int32) (w_1557 : Int64) (x4_1557 : Int32), rf_T m_1557 w_1557 h_1557 → rf_G [41, 53, 54, 55, 66] h h_1557 → rf_W [24, 26] m_1325 m_1557 → sf_B 0 2147483647 x4_1557 → (2147483647 - x4_1557.toInt).toNat = N → pm_R (d + 8) 241 10 [.ref 41, .int a0, .int a1, .int x3_1325, .int x4_1557] [] h_1557 Q := by
          intro N
          induction N using Nat.strongRecOn with
          | ind N ih_1557 =>
            intro h_1557 m_1557 w_1557 x4_1557 T_1557 F_1557 W_1557 Bx4_1557 hN_1557
            have W1560 : rf_W [24, 26] m m_1557 := W1328.trans W_1557 (by decide)
            have W1561 : rf_W [24, 26] m m_1557 := W_1325.trans W_1557 (by decide)
            refine pm_R_lo pm_M241 (pc_q := 12) rfl rfl rfl ?_
            refine pm_R_lo pm_M241 (pc_q := 13) rfl rfl rfl ?_
            refine pm_R_cs pm_M241 (pc_q := 16) (ra := [.int x3_1325]) (rest := [.int x4_1557]) (ls_q := [.int x3_1325, pm_no, pm_no]) rfl rfl (Or.inl rfl) pm_M242 rfl rfl (Nat.le_of_ble_eq_true rfl) rfl rfl ?_
            refine rf_c242 (d := d + 7) (sf_weak B1331 (by decide) (by decide)) (fun r1562 => ?_)
            show pm_R _ 241 16 [.ref 41, .int a0, .int a1, .int x3_1325, .int x4_1557] [.int r1562, .int x4_1557] _ _
            refine pm_R_icmp pm_M241 (t := 46) (pc_q := 19) rfl rfl rfl (fun c1570 => ?_) (fun c1570 => ?_)
            · skip
              refine sf_R_iinc pm_M241 (pc_q := 49) (ls_q := fun z => [.ref 41, .int a0, .int a1, .int z, .int x4_1557]) rfl B1331 rfl (by decide) (by decide) (by decide) (fun _ => rfl) rfl (fun z1571 e1572 B1573 => ?_)
              show pm_R _ 241 49 [.ref 41, .int a0, .int a1, .int z1571, .int x4_1557] [] _ _
              refine pm_R_br pm_M241 (pc_q := 2) rfl rfl ?_
              exact ih_1325 _ (sf_up hN_1325 e1572 B1331 (by decide) (by decide)) h_1557 m_1557 w_1557 z1571 (.int x4_1557) T_1557 F_1557 W1561 (sf_weak B1573 (by decide) (by decide)) rfl rfl
            · have B1574 : sf_B 0 2147483646 x4_1557 := sf_ltL (Int32.not_le.mp c1570) Bx4_1557 (sf_any r1562)
              have B1575 : sf_B 1 2147483647 r1562 := sf_ltR (Int32.not_le.mp c1570) Bx4_1557 (sf_any r1562)
              refine pm_R_lo pm_M241 (pc_q := 20) rfl rfl rfl ?_
              refine pm_R_lo pm_M241 (pc_q := 21) rfl rfl rfl ?_
              refine pm_R_lo pm_M241 (pc_q := 23) rfl rfl rfl ?_
              refine pm_R_lo pm_M241 (pc_q := 24) rfl rfl rfl ?_
              refine pm_R_lo pm_M241 (pc_q := 25) rfl rfl rfl ?_
              refine pm_R_cv pm_M241 (pc_q := 28) (a := 41) (ra := [.int a1, .int a0, .int x4_1557, .int x3_1325]) (rest := []) (ls_q := [.ref 41, .int x3_1325, .int x4_1557, .int a0, .int a1]) rfl rfl (Or.inl rfl) pm_M243 T_1557.2.1 rfl (by decide) (Nat.lt_of_lt_of_le (by decide) T_1557.1) rfl rfl (Nat.le_of_ble_eq_true rfl) rfl rfl ?_
              refine rf_c243 (d := d + 0) T_1557 B1331 (sf_weak B1574 (by decide) (by decide)) Ba0 Ba1 (fun r1576 m1578 w1579 h1580 T1581 F1582 W1583 B1577 => ?_)
              have F1584 := F_1557.trans F1582 (by decide)
              have W1585 : rf_W [24, 26] m m1578 := W1560.trans W1583 (by decide)
              have W1586 : rf_W [24, 26] m m1578 := W1561.trans W1583 (by decide)
              have W1587 : rf_W [24, 26] m_1325 m1578 := W_1557.trans W1583 (by decide)
              show pm_R _ 241 28 [.ref 41, .int a0, .int a1, .int x3_1325, .int x4_1557] [.int r1576] _ _
              refine pm_R_ifc pm_M241 (t := 40) (pc_q := 31) rfl rfl rfl (fun c1588 => ?_) (fun c1588 => ?_)
              · have B1589 : sf_B 0 0 r1576 := sf_eqL c1588 sf_k0
                refine sf_R_iinc pm_M241 (pc_q := 43) (ls_q := fun z => [.ref 41, .int a0, .int a1, .int x3_1325, .int z]) rfl B1574 rfl (by decide) (by decide) (by decide) (fun _ => rfl) rfl (fun z1590 e1591 B1592 => ?_)
                show pm_R _ 241 43 [.ref 41, .int a0, .int a1, .int x3_1325, .int z1590] [] _ _
                refine pm_R_br pm_M241 (pc_q := 10) rfl rfl ?_
                exact ih_1557 _ (sf_up hN_1557 e1591 B1574 (by decide) (by decide)) h1580 m1578 w1579 z1590 T1581 F1584 W1587 (sf_weak B1592 (by decide) (by decide)) rfl
              · have B1593 : sf_B 1 1 r1576 := sf_neL0 c1588 sf_k0 B1577
                refine pm_R_lo pm_M241 (pc_q := 32) rfl rfl rfl ?_
                refine pm_R_lo pm_M241 (pc_q := 33) rfl rfl rfl ?_
                refine pm_R_lo pm_M241 (pc_q := 35) rfl rfl rfl ?_
                refine pm_R_cv pm_M241 (pc_q := 38) (a := 41) (ra := [.int x4_1557, .int x3_1325]) (rest := []) (ls_q := [.ref 41, .int x3_1325, .int x4_1557, pm_no, pm_no]) rfl rfl (Or.inl rfl) pm_M245 T1581.2.1 rfl (by decide) (Nat.lt_of_lt_of_le (by decide) T1581.1) rfl rfl (Nat.le_of_ble_eq_true rfl) rfl rfl ?_
                refine rf_c245 (d := d + 7) T1581 B1331 (sf_weak B1574 (by decide) (by decide)) (fun m1596 w1597 h1598 T1599 F1600 W1601 => ?_)
                have F1602 := F1584.trans F1600 (by decide)
                have W1603 : rf_W [24, 26] m m1596 := W1585.trans W1601 (by decide)
                have W1604 : rf_W [24, 26] m m1596 := W1586.trans W1601 (by decide)
                have W1605 : rf_W [24, 26] m_1325 m1596 := W1587.trans W1601 (by decide)
                show pm_R _ 241 38 [.ref 41, .int a0, .int a1, .int x3_1325, .int x4_1557] [] _ _
                refine pm_R_op pm_M241 (pc_q := 39) (st_q := [.int 1]) rfl rfl rfl ?_
                exact pm_R_ret pm_M241 (r := some (.int 1)) rfl rfl (K 1 m1596 w1597 h1598 T1599 F1602 W1603 (sf_weak sf_k1 (by decide) (by decide)))
        exact L_1557 _ h_1325 m_1325 w_1325 0 T_1325 F_1325 (rf_W.refl _ _) (sf_weak sf_k0 (by decide) (by decide)) rfl
  exact L_1325 _ h m w 1 (pm_no) T (rf_G.refl [41, 53, 54, 55, 66] h) (rf_W.refl _ _) (sf_weak sf_k1 (by decide) (by decide)) rfl rfl

theorem sf_aux15 (v0 v1 : Int) (q0 : v0 = 152 * v1) : v0 = 152 * v1 + 0 := by omega
theorem sf_aux16 (v0 v1 v2 : Int) (q0 : v0 = 152 * v1) (q1 : v2 = v0 + 1) : v2 = 152 * v1 + 1 := by omega
theorem sf_aux17 (v0 v1 v2 v3 v4 v5 v6 : Int) (q0 : v0 = 152 * v1) (q1 : v2 = v0 + 2) (q2 : v3 = 3 * v4) (q3 : v5 = v2 + v3) (q4 : v6 = v5 + 1) : v6 = 152 * v1 + 3 * v4 + 3 := by omega
theorem sf_aux18 (v0 v1 v2 v3 v4 v5 v6 : Int) (q0 : v0 = 152 * v1) (q1 : v2 = v0 + 2) (q2 : v3 = 3 * v4) (q3 : v5 = v2 + v3) (q4 : v6 = v5 + 0) : v6 = 152 * v1 + 3 * v4 + 2 := by omega
theorem sf_aux19 (v0 v1 v2 v3 v4 v5 v6 : Int) (q0 : v0 = 152 * v1) (q1 : v2 = v0 + 2) (q2 : v3 = 3 * v4) (q3 : v5 = v2 + v3) (q4 : v6 = v5 + 2) : v6 = 152 * v1 + 3 * v4 + 4 := by omega
set_option maxRecDepth 100000 in
set_option maxHeartbeats 4000000 in
/-- SilentTableModel.layMeal -/
theorem rf_c254 {d : Nat} {m : Nat → Int32} {w : Int64} {h : pm_H} {Q : Option Value → pm_H → Prop} {a0 : Int32} (T : rf_T m w h)  (K : ∀ (r : Int32) (m_q : Nat → Int32) (w_q : Int64) (h_q : pm_H), rf_T m_q w_q h_q → rf_G [41, 67, 68] h h_q → rf_W [42, 43, 44] m m_q → sf_B 0 1 r → Q (some (.int r)) h_q) : pm_R (d + 2) 254 0 [.ref 41, .int a0, pm_no, pm_no, pm_no, pm_no] [] h Q := by
  refine pm_R_lo pm_M254 (pc_q := 1) rfl rfl rfl ?_
  refine pm_R_op pm_M254 (pc_q := 2) (st_q := [.int 2, .ref 41]) rfl rfl rfl ?_
  refine pm_R_lo pm_M254 (pc_q := 3) rfl rfl rfl ?_
  refine pm_R_cv pm_M254 (pc_q := 6) (a := 41) (ra := [.int a0, .int 2]) (rest := []) (ls_q := [.ref 41, .int 2, .int a0]) rfl rfl (Or.inl rfl) pm_M177 T.2.1 rfl (by decide) (Nat.lt_of_lt_of_le (by decide) T.1) rfl rfl (Nat.le_of_ble_eq_true rfl) rfl rfl ?_
  refine pm_R_lo pm_M177 (pc_q := 1) rfl rfl rfl ?_
  refine pm_R_op pm_M177 (pc_q := 2) (st_q := [.int 0, .int a0]) rfl rfl rfl ?_
  refine pm_R_lo pm_M177 (pc_q := 3) rfl rfl rfl ?_
  refine rf_R_get pm_M177 T (pc_q := 6) (v := .ref 46) rfl rfl rfl rfl ?_
  refine pm_R_lo pm_M177 (pc_q := 7) rfl rfl rfl ?_
  obtain ⟨f1, e2, b3⟩ := T.2.2.2.1 46 (by decide) (by decide)
  refine rf_R_ild pm_M177 T (pc_q := 8) rfl e2 (by decide) rfl rfl (fun z4 ez5 => ?_)
  have B6 : sf_B 0 2 z4 := ez5 ▸ (b3 2)
  refine pm_R_op pm_M177 (pc_q := 9) (st_q := [.int 1, .int z4, .int 0, .int a0]) rfl rfl rfl ?_
  refine sf_R_isub pm_M177 (pc_q := 10) rfl rfl B6 sf_k1 (by decide) (by decide) (fun z7 e8 B9 => ?_)
  refine pm_R_cs pm_M177 (pc_q := 13) (ra := [.int z7, .int 0, .int a0]) (rest := []) (ls_q := [.int a0, .int 0, .int z7]) rfl rfl (Or.inl rfl) pm_M174 rfl rfl (Nat.le_of_ble_eq_true rfl) rfl rfl ?_
  refine pm_R_lo pm_M174 (pc_q := 1) rfl rfl rfl ?_
  refine pm_R_lo pm_M174 (pc_q := 2) rfl rfl rfl ?_
  refine pm_R_icmp pm_M174 (t := 14) (pc_q := 5) rfl rfl rfl (fun c10 => ?_) (fun c10 => ?_)
  · have B11 : sf_B (-2147483648) (-1) a0 := sf_ltL c10 (sf_any a0) sf_k0
    refine pm_R_op pm_M174 (pc_q := 15) (st_q := [.int 0]) rfl rfl rfl ?_
    refine pm_R_ret pm_M174 (r := some (.int 0)) rfl rfl ?_
    show pm_R _ 177 13 [.ref 41, .int 2, .int a0] [.int 0] _ _
    refine pm_R_ret pm_M177 (r := some (.int 0)) rfl rfl ?_
    show pm_R _ 254 6 [.ref 41, .int a0, pm_no, pm_no, pm_no, pm_no] [.int 0] _ _
    refine pm_R_br pm_M254 (pc_q := 9) (st_q := []) rfl rfl ?_
    refine pm_R_op pm_M254 (pc_q := 10) (st_q := [.int 0]) rfl rfl rfl ?_
    exact pm_R_ret pm_M254 (r := some (.int 0)) rfl rfl (K 0 m w h T (rf_G.refl [41, 67, 68] h) (rf_W.refl [42, 43, 44] m) (sf_weak sf_k0 (by decide) (by decide)))
  · have B12 : sf_B 0 2147483647 a0 := sf_leR (Int32.not_lt.mp c10) sf_k0 (sf_any a0)
    refine pm_R_lo pm_M174 (pc_q := 6) rfl rfl rfl ?_
    refine pm_R_lo pm_M174 (pc_q := 7) rfl rfl rfl ?_
    refine pm_R_icmp pm_M174 (t := 14) (pc_q := 10) rfl rfl rfl (fun c13 => ?_) (fun c13 => ?_)
    · skip
      refine pm_R_op pm_M174 (pc_q := 15) (st_q := [.int 0]) rfl rfl rfl ?_
      refine pm_R_ret pm_M174 (r := some (.int 0)) rfl rfl ?_
      show pm_R _ 177 13 [.ref 41, .int 2, .int a0] [.int 0] _ _
      refine pm_R_ret pm_M177 (r := some (.int 0)) rfl rfl ?_
      show pm_R _ 254 6 [.ref 41, .int a0, pm_no, pm_no, pm_no, pm_no] [.int 0] _ _
      refine pm_R_br pm_M254 (pc_q := 9) (st_q := []) rfl rfl ?_
      refine pm_R_op pm_M254 (pc_q := 10) (st_q := [.int 0]) rfl rfl rfl ?_
      exact pm_R_ret pm_M254 (r := some (.int 0)) rfl rfl (K 0 m w h T (rf_G.refl [41, 67, 68] h) (rf_W.refl [42, 43, 44] m) (sf_weak sf_k0 (by decide) (by decide)))
    · have B14 : sf_B 0 1 a0 := sf_leL (Int32.not_lt.mp c13) B12 B9
      have B15 : sf_B 0 1 z7 := sf_leR (Int32.not_lt.mp c13) B12 B9
      refine pm_R_op pm_M174 (pc_q := 11) (st_q := [.int 1]) rfl rfl rfl ?_
      refine pm_R_br pm_M174 (pc_q := 15) rfl rfl ?_
      refine pm_R_ret pm_M174 (r := some (.int 1)) rfl rfl ?_
      show pm_R _ 177 13 [.ref 41, .int 2, .int a0] [.int 1] _ _
      refine pm_R_ret pm_M177 (r := some (.int 1)) rfl rfl ?_
      show pm_R _ 254 6 [.ref 41, .int a0, pm_no, pm_no, pm_no, pm_no] [.int 1] _ _
      refine pm_R_br pm_M254 (pc_q := 11) (st_q := []) rfl rfl ?_
      refine pm_R_lo pm_M254 (pc_q := 12) rfl rfl rfl ?_
      refine pm_R_lo pm_M254 (pc_q := 13) rfl rfl rfl ?_
      refine rf_R_put pm_M254 T (pc_q := 16) rfl rfl rfl (by decide) rfl rfl B14 rfl rfl (fun h16 m19 em20 T17 F18 => ?_)
      have F21 := (rf_G.refl [41, 67, 68] h).trans F18 (by decide)
      have B22 : sf_B 0 1 (m19 44) := by rw [em20]; exact B14
      have ek23 : (m19 44).toInt = (a0).toInt := by rw [em20]; rfl
      have W24 : rf_W [42, 43, 44] m m19 := by rw [em20]; exact (rf_W.refl [42, 43, 44] m).put (by decide)
      refine pm_R_lo pm_M254 (pc_q := 17) rfl rfl rfl ?_
      refine pm_R_lo pm_M254 (pc_q := 18) rfl rfl rfl ?_
      refine rf_R_get pm_M254 T17 (pc_q := 21) (v := .ref 49) rfl rfl rfl rfl ?_
      refine pm_R_op pm_M254 (pc_q := 24) (st_q := [.int 152, .ref 49, .ref 41]) rfl rfl rfl ?_
      refine pm_R_lo pm_M254 (pc_q := 25) rfl rfl rfl ?_
      refine sf_R_imul pm_M254 (pc_q := 26) rfl rfl sf_k152 B14 (by decide) (by decide) (by decide) (fun z25 e26 B27 => ?_)
      obtain ⟨f28, e29, b30⟩ := T17.2.2.2.1 49 (by decide) (by decide)
      refine rf_R_ild pm_M254 T17 (pc_q := 27) rfl e29 (by decide) (sf_in B27 (by decide) (by decide)) rfl (fun z31 ez32 => ?_)
      have e33 : (z25).toInt = 152 * (a0).toInt + 0 := (sf_aux15 _ _ e26)
      have B34 : sf_B 0 6 z31 := ez32 ▸ rf_p49a b30 e33 B14 (by decide)
      refine rf_R_put pm_M254 T17 (pc_q := 30) rfl rfl rfl (by decide) rfl rfl B34 rfl rfl (fun h35 m38 em39 T36 F37 => ?_)
      have F40 := F21.trans F37 (by decide)
      have B41 : sf_B 0 6 (m38 42) := by rw [em39]; exact B34
      have ek42 : (m38 42).toInt = (z31).toInt := by rw [em39]; rfl
      have W43 : rf_W [42, 43, 44] m m38 := by rw [em39]; exact W24.put (by decide)
      refine pm_R_lo pm_M254 (pc_q := 31) rfl rfl rfl ?_
      refine pm_R_lo pm_M254 (pc_q := 32) rfl rfl rfl ?_
      refine rf_R_get pm_M254 T36 (pc_q := 35) (v := .ref 49) rfl rfl rfl rfl ?_
      refine pm_R_op pm_M254 (pc_q := 38) (st_q := [.int 152, .ref 49, .ref 41]) rfl rfl rfl ?_
      refine pm_R_lo pm_M254 (pc_q := 39) rfl rfl rfl ?_
      refine sf_R_imulV pm_M254 (pc_q := 40) rfl rfl sf_k152 B14 (by decide) (by decide) (by decide) e26 ?_
      refine pm_R_op pm_M254 (pc_q := 41) (st_q := [.int 1, .int z25, .ref 49, .ref 41]) rfl rfl rfl ?_
      refine sf_R_iadd pm_M254 (pc_q := 42) rfl rfl B27 sf_k1 (by decide) (by decide) (fun z44 e45 B46 => ?_)
      have e47 := (F37.cell (by decide) e29)
      refine rf_R_ild pm_M254 T36 (pc_q := 43) rfl e47 (by decide) (sf_in B46 (by decide) (by decide)) rfl (fun z48 ez49 => ?_)
      have e50 : (z44).toInt = 152 * (a0).toInt + 1 := (sf_aux16 _ _ _ e26 e45)
      have B51 : sf_B 0 50 z48 := ez49 ▸ rf_p49b b30 e50 B14 (by decide)
      refine rf_R_put pm_M254 T36 (pc_q := 46) rfl rfl rfl (by decide) rfl rfl B51 rfl rfl (fun h52 m55 em56 T53 F54 => ?_)
      have F57 := F40.trans F54 (by decide)
      have B58 : sf_B 0 50 (m55 43) := by rw [em56]; exact B51
      have ek59 : (m55 43).toInt = (z48).toInt := by rw [em56]; rfl
      have W60 : rf_W [42, 43, 44] m m55 := by rw [em56]; exact W43.put (by decide)
      refine pm_R_op pm_M254 (pc_q := 47) (st_q := [.int 0]) rfl rfl rfl ?_
      refine pm_R_lo pm_M254 (pc_q := 48) (ls_q := [.ref 41, .int a0, .int 0, pm_no, pm_no, pm_no]) (st_q := []) rfl rfl rfl ?_
      have L_12310 : ∀ (N : Nat) (h_12310 : pm_H) (m_12310 : Nat → Int32) (w_12310 : Int64) (x2_12310 : Int32), rf_T m_12310 w_12310 h_12310 → rf_G [41, 67, 68] h h_12310 → rf_W [] m55 m_12310 → sf_B 0 6 x2_12310 → (6 - x2_12310.toInt).toNat = N → pm_R (d + 2) 254 48 [.ref 41, .int a0, .int x2_12310, pm_no, pm_no, pm_no] [] h_12310 Q := by
        intro N
        induction N using Nat.strongRecOn with
        | ind N ih_12310 =>
          intro h_12310 m_12310 w_12310 x2_12310 T_12310 F_12310 W_12310 Bx2_12310 hN_12310
          have W12313 : rf_W [42, 43, 44] m m_12310 := W60.trans W_12310 (by decide)
          refine pm_R_lo pm_M254 (pc_q := 49) rfl rfl rfl ?_
          refine pm_R_op pm_M254 (pc_q := 51) (st_q := [.int 6, .int x2_12310]) rfl rfl rfl ?_
          refine pm_R_icmp pm_M254 (t := 67) (pc_q := 54) rfl rfl rfl (fun c12314 => ?_) (fun c12314 => ?_)
          · have B12315 : sf_B 6 6 x2_12310 := sf_leR c12314 sf_k6 Bx2_12310
            refine pm_R_op pm_M254 (pc_q := 68) (st_q := [.int 0]) rfl rfl rfl ?_
            refine pm_R_lo pm_M254 (pc_q := 69) (ls_q := [.ref 41, .int a0, .int 0, pm_no, pm_no, pm_no]) (st_q := []) rfl rfl rfl ?_
            have L_18406 : ∀ (N : Nat) (h_18406 : pm_H) (m_18406 : Nat → Int32) (w_18406 : Int64) (x2_18406 : Int32) (g3_18406 : Value) (g4_18406 : Value) (g5_18406 : Value), rf_T m_18406 w_18406 h_18406 → rf_G [41, 67, 68] h h_18406 → rf_W [] m_12310 m_18406 → sf_B 0 50 x2_18406 → g3_18406.category = 1 → g4_18406.category = 1 → g5_18406.category = 1 → (50 - x2_18406.toInt).toNat = N → pm_R (d + 2) 254 69 [.ref 41, .int a0, .int x2_18406, g3_18406, g4_18406, g5_18406] [] h_18406 Q := by
              intro N
              induction N using Nat.strongRecOn with
              | ind N ih_18406 =>
                intro h_18406 m_18406 w_18406 x2_18406 g3_18406 g4_18406 g5_18406 T_18406 F_18406 W_18406 Bx2_18406 Cg3_18406 Cg4_18406 Cg5_18406 hN_18406
                have W18409 : rf_W [42, 43, 44] m m_18406 := W12313.trans W_18406 (by decide)
                have W18410 : rf_W [] m55 m_18406 := W_12310.trans W_18406 (by decide)
                refine pm_R_lo pm_M254 (pc_q := 70) rfl rfl rfl ?_
                refine pm_R_lo pm_M254 (pc_q := 71) rfl rfl rfl ?_
                have B18411 : sf_B 0 50 (m_18406 43) := T_18406.2.2.1 43
                refine rf_R_get pm_M254 T_18406 (pc_q := 74) (v := .int (m_18406 43)) rfl rfl rfl rfl ?_
                refine pm_R_icmp pm_M254 (t := 214) (pc_q := 77) rfl rfl rfl (fun c18412 => ?_) (fun c18412 => ?_)
                · skip
                  refine pm_R_op pm_M254 (pc_q := 215) (st_q := [.int 1]) (pm_q254_2 (Nat.le_of_ble_eq_true rfl)) rfl rfl ?_
                  exact pm_R_ret pm_M254 (r := some (.int 1)) (pm_q254_2 (Nat.le_of_ble_eq_true rfl)) rfl (K 1 m_18406 w_18406 h_18406 T_18406 F_18406 W18409 (sf_weak sf_k1 (by decide) (by decide)))
                · have B18413 : sf_B 0 49 x2_18406 := sf_ltL (Int32.not_le.mp c18412) Bx2_18406 B18411
                  have B18414 : sf_B 1 50 (m_18406 43) := sf_ltR (Int32.not_le.mp c18412) Bx2_18406 B18411
                  refine pm_R_lo pm_M254 (pc_q := 78) rfl rfl rfl ?_
                  refine pm_R_lo pm_M254 (pc_q := 79) rfl rfl rfl ?_
                  refine pm_R_op pm_M254 (pc_q := 80) (st_q := [.int 1, .int x2_18406, .ref 41]) rfl rfl rfl ?_
                  refine pm_R_cv pm_M254 (pc_q := 83) (a := 41) (ra := [.int 1, .int x2_18406]) (rest := []) (ls_q := [.ref 41, .int x2_18406, .int 1]) rfl rfl (Or.inl rfl) pm_M255 T_18406.2.1 rfl (by decide) (Nat.lt_of_lt_of_le (by decide) T_18406.1) rfl rfl (Nat.le_of_ble_eq_true rfl) rfl rfl ?_
                  refine pm_R_lo pm_M255 (pc_q := 1) rfl rfl rfl ?_
                  refine rf_R_get pm_M255 T_18406 (pc_q := 4) (v := .ref 49) rfl rfl rfl rfl ?_
                  refine pm_R_op pm_M255 (pc_q := 7) (st_q := [.int 152, .ref 49]) rfl rfl rfl ?_
                  refine pm_R_lo pm_M255 (pc_q := 8) rfl rfl rfl ?_
                  have B18415 : sf_B 0 1 (m_18406 44) := T_18406.2.2.1 44
                  refine rf_R_get pm_M255 T_18406 (pc_q := 11) (v := .int (m_18406 44)) rfl rfl rfl rfl ?_
                  refine sf_R_imul pm_M255 (pc_q := 12) rfl rfl sf_k152 B18415 (by decide) (by decide) (by decide) (fun z18416 e18417 B18418 => ?_)
                  refine pm_R_op pm_M255 (pc_q := 13) (st_q := [.int 2, .int z18416, .ref 49]) rfl rfl rfl ?_
                  refine sf_R_iadd pm_M255 (pc_q := 14) rfl rfl B18418 sf_k2 (by decide) (by decide) (fun z18419 e18420 B18421 => ?_)
                  refine pm_R_op pm_M255 (pc_q := 15) (st_q := [.int 3, .int z18419, .ref 49]) rfl rfl rfl ?_
                  refine pm_R_lo pm_M255 (pc_q := 16) rfl rfl rfl ?_
                  refine sf_R_imul pm_M255 (pc_q := 17) rfl rfl sf_k3 B18413 (by decide) (by decide) (by decide) (fun z18422 e18423 B18424 => ?_)
                  refine sf_R_iadd pm_M255 (pc_q := 18) rfl rfl B18421 B18424 (by decide) (by decide) (fun z18425 e18426 B18427 => ?_)
                  refine pm_R_lo pm_M255 (pc_q := 19) rfl rfl rfl ?_
                  refine sf_R_iadd pm_M255 (pc_q := 20) rfl rfl B18427 sf_k1 (by decide) (by decide) (fun z18428 e18429 B18430 => ?_)
                  obtain ⟨f18431, e18432, b18433⟩ := T_18406.2.2.2.1 49 (by decide) (by decide)
                  refine rf_R_ild pm_M255 T_18406 (pc_q := 21) rfl e18432 (by decide) (sf_in B18430 (by decide) (by decide)) rfl (fun z18434 ez18435 => ?_)
                  have e18436 : (z18428).toInt = 152 * ((m_18406 44)).toInt + 3 * (x2_18406).toInt + 3 := (sf_aux17 _ _ _ _ _ _ _ e18417 e18420 e18423 e18426 e18429)
                  have B18437 : sf_B 0 5 z18434 := ez18435 ▸ rf_p49w b18433 e18436 B18415 B18413 (by decide) (by decide) (by decide)
                  refine pm_R_ret pm_M255 (r := some (.int z18434)) rfl (pm_ret_i _) ?_
                  show pm_R _ 254 83 [.ref 41, .int a0, .int x2_18406, g3_18406, g4_18406, g5_18406] [.int z18434] _ _
                  refine pm_R_lo pm_M254 (pc_q := 84) (ls_q := [.ref 41, .int a0, .int x2_18406, .int z18434, g4_18406, g5_18406]) (st_q := []) rfl rfl rfl ?_
                  refine pm_R_lo pm_M254 (pc_q := 85) rfl rfl rfl ?_
                  refine rf_R_get pm_M254 T_18406 (pc_q := 88) (v := .ref 68) rfl rfl rfl rfl ?_
                  refine pm_R_lo pm_M254 (pc_q := 89) rfl rfl rfl ?_
                  refine pm_R_op pm_M254 (pc_q := 90) (st_q := [.int 0, .int x2_18406, .ref 68]) rfl rfl rfl ?_
                  obtain ⟨f18438, e18439⟩ := T_18406.2.2.2.1 68 (by decide) (by decide)
                  refine rf_R_ist pm_M254 T_18406 (pc_q := 91) rfl e18439 (by decide) (by decide) (sf_in B18413 (by decide) (by decide)) ⟨_, rfl⟩ rfl (fun h18441 T18442 F18443 e18444 => ?_)
                  have F18445 := F_18406.trans F18443 (by decide)
                  refine pm_R_op pm_M254 (pc_q := 92) (st_q := [.int 0]) rfl rfl rfl ?_
                  refine pm_R_lo pm_M254 (pc_q := 94) (ls_q := [.ref 41, .int a0, .int x2_18406, .int z18434, .int 0, g5_18406]) (st_q := []) rfl rfl rfl ?_
                  have L_19623 : ∀ (N : Nat) (h_19623 : pm_H) (m_19623 : Nat → Int32) (w_19623 : Int64) (x4_19623 : Int32) (g5_19623 : Value), rf_T m_19623 w_19623 h_19623 → rf_G [41, 67, 68] h h_19623 → rf_W [] m_18406 m_19623 → sf_B 0 6 x4_19623 → g5_19623.category = 1 → (6 - x4_19623.toInt).toNat = N → pm_R (d + 2) 254 94 [.ref 41, .int a0, .int x2_18406, .int z18434, .int x4_19623, g5_19623] [] h_19623 Q := by
                    intro N
                    induction N using Nat.strongRecOn with
                    | ind N ih_19623 =>
                      intro h_19623 m_19623 w_19623 x4_19623 g5_19623 T_19623 F_19623 W_19623 Bx4_19623 Cg5_19623 hN_19623
                      have B19626 : sf_B 1 50 (m_19623 43) := by rw [W_19623 43 (by decide)]; exact B18414
                      have W19627 : rf_W [42, 43, 44] m m_19623 := W18409.trans W_19623 (by decide)
                      have W19628 : rf_W [] m55 m_19623 := W18410.trans W_19623 (by decide)
                      have W19629 : rf_W [] m_12310 m_19623 := W_18406.trans W_19623 (by decide)
                      refine pm_R_lo pm_M254 (pc_q := 96) rfl rfl rfl ?_
                      refine pm_R_op pm_M254 (pc_q := 98) (st_q := [.int 6, .int x4_19623]) rfl rfl rfl ?_
                      refine pm_R_icmp pm_M254 (t := 208) (pc_q := 101) (pm_q254_1 (Nat.le_of_ble_eq_true rfl)) rfl rfl (fun c19630 => ?_) (fun c19630 => ?_)
                      · have B19631 : sf_B 6 6 x4_19623 := sf_leR c19630 sf_k6 Bx4_19623
                        refine sf_R_iinc pm_M254 (pc_q := 211) (ls_q := fun z => [.ref 41, .int a0, .int z, .int z18434, .int x4_19623, g5_19623]) (pm_q254_2 (Nat.le_of_ble_eq_true rfl)) B18413 rfl (by decide) (by decide) (by decide) (fun _ => rfl) rfl (fun z19632 e19633 B19634 => ?_)
                        show pm_R _ 254 211 [.ref 41, .int a0, .int z19632, .int z18434, .int x4_19623, g5_19623] [] _ _
                        refine pm_R_br pm_M254 (pc_q := 69) (pm_q254_2 (Nat.le_of_ble_eq_true rfl)) rfl ?_
                        exact ih_18406 _ (sf_up hN_18406 e19633 B18413 (by decide) (by decide)) h_19623 m_19623 w_19623 z19632 (.int z18434) (.int x4_19623) (g5_19623) T_19623 F_19623 W19629 (sf_weak B19634 (by decide) (by decide)) rfl rfl Cg5_19623 rfl
                      · have B19635 : sf_B 0 5 x4_19623 := sf_ltL (Int32.not_le.mp c19630) Bx4_19623 sf_k6
                        refine pm_R_lo pm_M254 (pc_q := 102) (pm_q254_1 (Nat.le_of_ble_eq_true rfl)) rfl rfl ?_
                        refine rf_R_get pm_M254 T_19623 (pc_q := 105) (v := .ref 67) (pm_q254_1 (Nat.le_of_ble_eq_true rfl)) rfl rfl rfl ?_
                        refine pm_R_op pm_M254 (pc_q := 107) (st_q := [.int 6, .ref 67]) (pm_q254_1 (Nat.le_of_ble_eq_true rfl)) rfl rfl ?_
                        refine pm_R_lo pm_M254 (pc_q := 108) (pm_q254_1 (Nat.le_of_ble_eq_true rfl)) rfl rfl ?_
                        refine sf_R_imul pm_M254 (pc_q := 109) (pm_q254_1 (Nat.le_of_ble_eq_true rfl)) rfl sf_k6 B18413 (by decide) (by decide) (by decide) (fun z19636 e19637 B19638 => ?_)
                        refine pm_R_lo pm_M254 (pc_q := 111) (pm_q254_1 (Nat.le_of_ble_eq_true rfl)) rfl rfl ?_
                        refine sf_R_iadd pm_M254 (pc_q := 112) (pm_q254_1 (Nat.le_of_ble_eq_true rfl)) rfl B19638 B19635 (by decide) (by decide) (fun z19639 e19640 B19641 => ?_)
                        obtain ⟨f19642, e19643⟩ := T_19623.2.2.2.1 67 (by decide) (by decide)
                        refine rf_R_ild pm_M254 T_19623 (pc_q := 113) (pm_q254_1 (Nat.le_of_ble_eq_true rfl)) e19643 (by decide) (sf_in B19641 (by decide) (by decide)) rfl (fun z19645 ez19646 => ?_)
                        refine pm_R_lo pm_M254 (pc_q := 115) (ls_q := [.ref 41, .int a0, .int x2_18406, .int z18434, .int x4_19623, .int z19645]) (st_q := []) (pm_q254_1 (Nat.le_of_ble_eq_true rfl)) rfl rfl ?_
                        refine pm_R_lo pm_M254 (pc_q := 116) (pm_q254_1 (Nat.le_of_ble_eq_true rfl)) rfl rfl ?_
                        refine rf_R_get pm_M254 T_19623 (pc_q := 119) (v := .ref 68) (pm_q254_1 (Nat.le_of_ble_eq_true rfl)) rfl rfl rfl ?_
                        refine pm_R_lo pm_M254 (pc_q := 120) (pm_q254_1 (Nat.le_of_ble_eq_true rfl)) rfl rfl ?_
                        refine pm_R_op pm_M254 (pc_q := 121) (st_q := [.int x2_18406, .ref 68, .int x2_18406, .ref 68]) (pm_q254_1 (Nat.le_of_ble_eq_true rfl)) rfl rfl ?_
                        obtain ⟨f19647, e19648⟩ := T_19623.2.2.2.1 68 (by decide) (by decide)
                        refine rf_R_ild pm_M254 T_19623 (pc_q := 122) (pm_q254_1 (Nat.le_of_ble_eq_true rfl)) e19648 (by decide) (sf_in B18413 (by decide) (by decide)) rfl (fun z19650 ez19651 => ?_)
                        refine pm_R_lo pm_M254 (pc_q := 123) (pm_q254_1 (Nat.le_of_ble_eq_true rfl)) rfl rfl ?_
                        refine pm_R_lo pm_M254 (pc_q := 124) (pm_q254_1 (Nat.le_of_ble_eq_true rfl)) rfl rfl ?_
                        refine pm_R_op pm_M254 (pc_q := 125) (st_q := [.int 0, .int x2_18406, .ref 41, .int z19650, .int x2_18406, .ref 68]) (pm_q254_1 (Nat.le_of_ble_eq_true rfl)) rfl rfl ?_
                        refine pm_R_cv pm_M254 (pc_q := 128) (a := 41) (ra := [.int 0, .int x2_18406]) (rest := [.int z19650, .int x2_18406, .ref 68]) (ls_q := [.ref 41, .int x2_18406, .int 0]) (pm_q254_1 (Nat.le_of_ble_eq_true rfl)) rfl (Or.inl rfl) pm_M255 T_19623.2.1 rfl (by decide) (Nat.lt_of_lt_of_le (by decide) T_19623.1) rfl rfl (Nat.le_of_ble_eq_true rfl) rfl rfl ?_
                        refine pm_R_lo pm_M255 (pc_q := 1) rfl rfl rfl ?_
                        refine rf_R_get pm_M255 T_19623 (pc_q := 4) (v := .ref 49) rfl rfl rfl rfl ?_
                        refine pm_R_op pm_M255 (pc_q := 7) (st_q := [.int 152, .ref 49]) rfl rfl rfl ?_
                        refine pm_R_lo pm_M255 (pc_q := 8) rfl rfl rfl ?_
                        have B19652 : sf_B 0 1 (m_19623 44) := T_19623.2.2.1 44
                        refine rf_R_get pm_M255 T_19623 (pc_q := 11) (v := .int (m_19623 44)) rfl rfl rfl rfl ?_
                        refine sf_R_imul pm_M255 (pc_q := 12) rfl rfl sf_k152 B19652 (by decide) (by decide) (by decide) (fun z19653 e19654 B19655 => ?_)
                        refine pm_R_op pm_M255 (pc_q := 13) (st_q := [.int 2, .int z19653, .ref 49]) rfl rfl rfl ?_
                        refine sf_R_iadd pm_M255 (pc_q := 14) rfl rfl B19655 sf_k2 (by decide) (by decide) (fun z19656 e19657 B19658 => ?_)
                        refine pm_R_op pm_M255 (pc_q := 15) (st_q := [.int 3, .int z19656, .ref 49]) rfl rfl rfl ?_
                        refine pm_R_lo pm_M255 (pc_q := 16) rfl rfl rfl ?_
                        refine sf_R_imulV pm_M255 (pc_q := 17) rfl rfl sf_k3 B18413 (by decide) (by decide) (by decide) e18423 ?_
                        refine sf_R_iadd pm_M255 (pc_q := 18) rfl rfl B19658 B18424 (by decide) (by decide) (fun z19659 e19660 B19661 => ?_)
                        refine pm_R_lo pm_M255 (pc_q := 19) rfl rfl rfl ?_
                        refine sf_R_iadd pm_M255 (pc_q := 20) rfl rfl B19661 sf_k0 (by decide) (by decide) (fun z19662 e19663 B19664 => ?_)
                        obtain ⟨f19665, e19666, b19667⟩ := T_19623.2.2.2.1 49 (by decide) (by decide)
                        refine rf_R_ild pm_M255 T_19623 (pc_q := 21) rfl e19666 (by decide) (sf_in B19664 (by decide) (by decide)) rfl (fun z19668 ez19669 => ?_)
                        have e19670 : (z19662).toInt = 152 * ((m_19623 44)).toInt + 3 * (x2_18406).toInt + 2 := (sf_aux18 _ _ _ _ _ _ _ e19654 e19657 e18423 e19660 e19663)
                        have B19671 : sf_B 0 2 z19668 := ez19669 ▸ rf_p49s b19667 e19670 B19652 B18413 (by decide) (by decide) (by decide)
                        refine pm_R_ret pm_M255 (r := some (.int z19668)) rfl (pm_ret_i _) ?_
                        show pm_R _ 254 128 [.ref 41, .int a0, .int x2_18406, .int z18434, .int x4_19623, .int z19645] [.int z19668, .int z19650, .int x2_18406, .ref 68] _ _
                        refine pm_R_op pm_M254 (pc_q := 129) (st_q := [.int 2, .int z19668, .int z19650, .int x2_18406, .ref 68]) (pm_q254_1 (Nat.le_of_ble_eq_true rfl)) rfl rfl ?_
                        refine pm_R_icmp pm_M254 (t := 145) (pc_q := 132) (pm_q254_1 (Nat.le_of_ble_eq_true rfl)) rfl rfl (fun c19672 => ?_) (fun c19672 => ?_)
                        · have B19673 : sf_B 0 1 z19668 := sf_neH0 c19672 sf_k2 B19671
                          refine pm_R_op pm_M254 (pc_q := 146) (st_q := [.int 0, .int z19650, .int x2_18406, .ref 68]) (pm_q254_1 (Nat.le_of_ble_eq_true rfl)) rfl rfl ?_
                          refine sf_R_iany pm_M254 (pc_q := 147) (st := [.int x2_18406, .ref 68]) (pm_q254_1 (Nat.le_of_ble_eq_true rfl)) rfl rfl (fun z19677 => ?_)
                          refine rf_R_ist pm_M254 T_19623 (pc_q := 148) (pm_q254_1 (Nat.le_of_ble_eq_true rfl)) e19648 (by decide) (by decide) (sf_in B18413 (by decide) (by decide)) ⟨_, rfl⟩ rfl (fun h19678 T19679 F19680 e19681 => ?_)
                          have F19682 := F_19623.trans F19680 (by decide)
                          refine pm_R_lo pm_M254 (pc_q := 149) (pm_q254_1 (Nat.le_of_ble_eq_true rfl)) rfl rfl ?_
                          refine rf_R_get pm_M254 T19679 (pc_q := 152) (v := .ref 67) (pm_q254_1 (Nat.le_of_ble_eq_true rfl)) rfl rfl rfl ?_
                          refine pm_R_op pm_M254 (pc_q := 154) (st_q := [.int 6, .ref 67]) (pm_q254_1 (Nat.le_of_ble_eq_true rfl)) rfl rfl ?_
                          refine pm_R_lo pm_M254 (pc_q := 155) (pm_q254_1 (Nat.le_of_ble_eq_true rfl)) rfl rfl ?_
                          refine pm_R_op pm_M254 (pc_q := 156) (st_q := [.int 1, .int x2_18406, .int 6, .ref 67]) (pm_q254_1 (Nat.le_of_ble_eq_true rfl)) rfl rfl ?_
                          refine sf_R_iadd pm_M254 (pc_q := 157) (pm_q254_1 (Nat.le_of_ble_eq_true rfl)) rfl B18413 sf_k1 (by decide) (by decide) (fun z19683 e19684 B19685 => ?_)
                          refine sf_R_imul pm_M254 (pc_q := 158) (pm_q254_1 (Nat.le_of_ble_eq_true rfl)) rfl sf_k6 B19685 (by decide) (by decide) (by decide) (fun z19686 e19687 B19688 => ?_)
                          refine pm_R_lo pm_M254 (pc_q := 160) (pm_q254_1 (Nat.le_of_ble_eq_true rfl)) rfl rfl ?_
                          refine sf_R_iadd pm_M254 (pc_q := 161) (pm_q254_1 (Nat.le_of_ble_eq_true rfl)) rfl B19688 B19635 (by decide) (by decide) (fun z19689 e19690 B19691 => ?_)
                          refine pm_R_lo pm_M254 (pc_q := 163) (pm_q254_1 (Nat.le_of_ble_eq_true rfl)) rfl rfl ?_
                          refine pm_R_lo pm_M254 (pc_q := 164) (pm_q254_1 (Nat.le_of_ble_eq_true rfl)) rfl rfl ?_
                          refine pm_R_icmp pm_M254 (t := 177) (pc_q := 167) (pm_q254_1 (Nat.le_of_ble_eq_true rfl)) rfl rfl (fun c19692 => ?_) (fun c19692 => ?_)
                          · skip
                            refine pm_R_lo pm_M254 (pc_q := 179) (pm_q254_1 (Nat.le_of_ble_eq_true rfl)) rfl rfl ?_
                            refine pm_R_br pm_M254 (pc_q := 201) (pm_q254_1 (Nat.le_of_ble_eq_true rfl)) rfl ?_
                            have e19693 := (F19680.cell (by decide) e19643)
                            refine rf_R_ist pm_M254 T19679 (pc_q := 202) (pm_q254_2 (Nat.le_of_ble_eq_true rfl)) e19693 (by decide) (by decide) (sf_in B19691 (by decide) (by decide)) ⟨_, rfl⟩ rfl (fun h19694 T19695 F19696 e19697 => ?_)
                            have F19698 := F19682.trans F19696 (by decide)
                            refine sf_R_iinc pm_M254 (pc_q := 205) (ls_q := fun z => [.ref 41, .int a0, .int x2_18406, .int z18434, .int z, .int z19645]) (pm_q254_2 (Nat.le_of_ble_eq_true rfl)) B19635 rfl (by decide) (by decide) (by decide) (fun _ => rfl) rfl (fun z19699 e19700 B19701 => ?_)
                            show pm_R _ 254 205 [.ref 41, .int a0, .int x2_18406, .int z18434, .int z19699, .int z19645] [] _ _
                            refine pm_R_br pm_M254 (pc_q := 94) (pm_q254_2 (Nat.le_of_ble_eq_true rfl)) rfl ?_
                            exact ih_19623 _ (sf_up hN_19623 e19700 B19635 (by decide) (by decide)) h19694 m_19623 w_19623 z19699 (.int z19645) T19695 F19698 W_19623 (sf_weak B19701 (by decide) (by decide)) rfl rfl
                          · refine pm_R_lo pm_M254 (pc_q := 168) (pm_q254_1 (Nat.le_of_ble_eq_true rfl)) rfl rfl ?_
                            refine pm_R_lo pm_M254 (pc_q := 169) (pm_q254_1 (Nat.le_of_ble_eq_true rfl)) rfl rfl ?_
                            refine pm_R_op pm_M254 (pc_q := 170) (st_q := [.int 0, .int x2_18406, .ref 41, .int z19689, .ref 67]) (pm_q254_1 (Nat.le_of_ble_eq_true rfl)) rfl rfl ?_
                            refine pm_R_cv pm_M254 (pc_q := 173) (a := 41) (ra := [.int 0, .int x2_18406]) (rest := [.int z19689, .ref 67]) (ls_q := [.ref 41, .int x2_18406, .int 0]) (pm_q254_1 (Nat.le_of_ble_eq_true rfl)) rfl (Or.inl rfl) pm_M255 T19679.2.1 rfl (by decide) (Nat.lt_of_lt_of_le (by decide) T19679.1) rfl rfl (Nat.le_of_ble_eq_true rfl) rfl rfl ?_
                            refine pm_R_lo pm_M255 (pc_q := 1) rfl rfl rfl ?_
                            refine rf_R_get pm_M255 T19679 (pc_q := 4) (v := .ref 49) rfl rfl rfl rfl ?_
                            refine pm_R_op pm_M255 (pc_q := 7) (st_q := [.int 152, .ref 49]) rfl rfl rfl ?_
                            refine pm_R_lo pm_M255 (pc_q := 8) rfl rfl rfl ?_
                            refine rf_R_get pm_M255 T19679 (pc_q := 11) (v := .int (m_19623 44)) rfl rfl rfl rfl ?_
                            refine sf_R_imulV pm_M255 (pc_q := 12) rfl rfl sf_k152 B19652 (by decide) (by decide) (by decide) e19654 ?_
                            refine pm_R_op pm_M255 (pc_q := 13) (st_q := [.int 2, .int z19653, .ref 49]) rfl rfl rfl ?_
                            refine sf_R_iaddV pm_M255 (pc_q := 14) rfl rfl B19655 sf_k2 (by decide) (by decide) e19657 ?_
                            refine pm_R_op pm_M255 (pc_q := 15) (st_q := [.int 3, .int z19656, .ref 49]) rfl rfl rfl ?_
                            refine pm_R_lo pm_M255 (pc_q := 16) rfl rfl rfl ?_
                            refine sf_R_imulV pm_M255 (pc_q := 17) rfl rfl sf_k3 B18413 (by decide) (by decide) (by decide) e18423 ?_
                            refine sf_R_iaddV pm_M255 (pc_q := 18) rfl rfl B19658 B18424 (by decide) (by decide) e19660 ?_
                            refine pm_R_lo pm_M255 (pc_q := 19) rfl rfl rfl ?_
                            refine sf_R_iaddV pm_M255 (pc_q := 20) rfl rfl B19661 sf_k0 (by decide) (by decide) e19663 ?_
                            have e19702 := (F19680.cell (by decide) e19666)
                            refine pm_R_iald pm_M255 (pc_q := 21) (v := z19668) rfl e19702 (Nat.lt_of_lt_of_le (by decide) T19679.1) (sf_in B19664 (by decide) (by decide)) ez19669 rfl ?_
                            refine pm_R_ret pm_M255 (r := some (.int z19668)) rfl (pm_ret_i _) ?_
                            show pm_R _ 254 173 [.ref 41, .int a0, .int x2_18406, .int z18434, .int x4_19623, .int z19645] [.int z19668, .int z19689, .ref 67] _ _
                            refine pm_R_op pm_M254 (pc_q := 174) (st_q := [.int 2, .int z19668, .int z19689, .ref 67]) (pm_q254_1 (Nat.le_of_ble_eq_true rfl)) rfl rfl ?_
                            refine pm_R_icmp pm_M254 (t := 182) (pc_q := 177) (pm_q254_1 (Nat.le_of_ble_eq_true rfl)) rfl rfl (fun c19705 => ?_) (fun c19705 => absurd (Classical.not_not.mp c19705) (sf_neq2 B19673 sf_k2 (by decide)))
                            skip
                            refine pm_R_lo pm_M254 (pc_q := 183) (pm_q254_1 (Nat.le_of_ble_eq_true rfl)) rfl rfl ?_
                            refine pm_R_lo pm_M254 (pc_q := 184) (pm_q254_1 (Nat.le_of_ble_eq_true rfl)) rfl rfl ?_
                            refine pm_R_op pm_M254 (pc_q := 185) (st_q := [.int 0, .int x2_18406, .ref 41, .int z19689, .ref 67]) (pm_q254_1 (Nat.le_of_ble_eq_true rfl)) rfl rfl ?_
                            refine pm_R_cv pm_M254 (pc_q := 188) (a := 41) (ra := [.int 0, .int x2_18406]) (rest := [.int z19689, .ref 67]) (ls_q := [.ref 41, .int x2_18406, .int 0]) (pm_q254_1 (Nat.le_of_ble_eq_true rfl)) rfl (Or.inl rfl) pm_M255 T19679.2.1 rfl (by decide) (Nat.lt_of_lt_of_le (by decide) T19679.1) rfl rfl (Nat.le_of_ble_eq_true rfl) rfl rfl ?_
                            refine pm_R_lo pm_M255 (pc_q := 1) rfl rfl rfl ?_
                            refine rf_R_get pm_M255 T19679 (pc_q := 4) (v := .ref 49) rfl rfl rfl rfl ?_
                            refine pm_R_op pm_M255 (pc_q := 7) (st_q := [.int 152, .ref 49]) rfl rfl rfl ?_
                            refine pm_R_lo pm_M255 (pc_q := 8) rfl rfl rfl ?_
                            refine rf_R_get pm_M255 T19679 (pc_q := 11) (v := .int (m_19623 44)) rfl rfl rfl rfl ?_
                            refine sf_R_imulV pm_M255 (pc_q := 12) rfl rfl sf_k152 B19652 (by decide) (by decide) (by decide) e19654 ?_
                            refine pm_R_op pm_M255 (pc_q := 13) (st_q := [.int 2, .int z19653, .ref 49]) rfl rfl rfl ?_
                            refine sf_R_iaddV pm_M255 (pc_q := 14) rfl rfl B19655 sf_k2 (by decide) (by decide) e19657 ?_
                            refine pm_R_op pm_M255 (pc_q := 15) (st_q := [.int 3, .int z19656, .ref 49]) rfl rfl rfl ?_
                            refine pm_R_lo pm_M255 (pc_q := 16) rfl rfl rfl ?_
                            refine sf_R_imulV pm_M255 (pc_q := 17) rfl rfl sf_k3 B18413 (by decide) (by decide) (by decide) e18423 ?_
                            refine sf_R_iaddV pm_M255 (pc_q := 18) rfl rfl B19658 B18424 (by decide) (by decide) e19660 ?_
                            refine pm_R_lo pm_M255 (pc_q := 19) rfl rfl rfl ?_
                            refine sf_R_iaddV pm_M255 (pc_q := 20) rfl rfl B19661 sf_k0 (by decide) (by decide) e19663 ?_
                            refine pm_R_iald pm_M255 (pc_q := 21) (v := z19668) rfl e19702 (Nat.lt_of_lt_of_le (by decide) T19679.1) (sf_in B19664 (by decide) (by decide)) ez19669 rfl ?_
                            refine pm_R_ret pm_M255 (r := some (.int z19668)) rfl (pm_ret_i _) ?_
                            show pm_R _ 254 188 [.ref 41, .int a0, .int x2_18406, .int z18434, .int x4_19623, .int z19645] [.int z19668, .int z19689, .ref 67] _ _
                            refine pm_R_ifc pm_M254 (t := 200) (pc_q := 191) (pm_q254_1 (Nat.le_of_ble_eq_true rfl)) rfl rfl (fun c19708 => ?_) (fun c19708 => ?_)
                            · have B19709 : sf_B 1 1 z19668 := sf_neL0 c19708 sf_k0 B19673
                              refine pm_R_op pm_M254 (pc_q := 201) (st_q := [.int (-1), .int z19689, .ref 67]) (pm_q254_2 (Nat.le_of_ble_eq_true rfl)) rfl rfl ?_
                              have e19710 := (F19680.cell (by decide) e19643)
                              refine rf_R_ist pm_M254 T19679 (pc_q := 202) (pm_q254_2 (Nat.le_of_ble_eq_true rfl)) e19710 (by decide) (by decide) (sf_in B19691 (by decide) (by decide)) ⟨_, rfl⟩ rfl (fun h19711 T19712 F19713 e19714 => ?_)
                              have F19715 := F19682.trans F19713 (by decide)
                              refine sf_R_iinc pm_M254 (pc_q := 205) (ls_q := fun z => [.ref 41, .int a0, .int x2_18406, .int z18434, .int z, .int z19645]) (pm_q254_2 (Nat.le_of_ble_eq_true rfl)) B19635 rfl (by decide) (by decide) (by decide) (fun _ => rfl) rfl (fun z19716 e19717 B19718 => ?_)
                              show pm_R _ 254 205 [.ref 41, .int a0, .int x2_18406, .int z18434, .int z19716, .int z19645] [] _ _
                              refine pm_R_br pm_M254 (pc_q := 94) (pm_q254_2 (Nat.le_of_ble_eq_true rfl)) rfl ?_
                              exact ih_19623 _ (sf_up hN_19623 e19717 B19635 (by decide) (by decide)) h19711 m_19623 w_19623 z19716 (.int z19645) T19712 F19715 W_19623 (sf_weak B19718 (by decide) (by decide)) rfl rfl
                            · have B19719 : sf_B 0 0 z19668 := sf_eqL (Classical.not_not.mp c19708) sf_k0
                              refine pm_R_lo pm_M254 (pc_q := 192) (pm_q254_1 (Nat.le_of_ble_eq_true rfl)) rfl rfl ?_
                              refine pm_R_lo pm_M254 (pc_q := 193) (pm_q254_1 (Nat.le_of_ble_eq_true rfl)) rfl rfl ?_
                              refine pm_R_op pm_M254 (pc_q := 194) (st_q := [.int 2, .int x2_18406, .ref 41, .int z19689, .ref 67]) (pm_q254_1 (Nat.le_of_ble_eq_true rfl)) rfl rfl ?_
                              refine pm_R_cv pm_M254 (pc_q := 197) (a := 41) (ra := [.int 2, .int x2_18406]) (rest := [.int z19689, .ref 67]) (ls_q := [.ref 41, .int x2_18406, .int 2]) (pm_q254_1 (Nat.le_of_ble_eq_true rfl)) rfl (Or.inl rfl) pm_M255 T19679.2.1 rfl (by decide) (Nat.lt_of_lt_of_le (by decide) T19679.1) rfl rfl (Nat.le_of_ble_eq_true rfl) rfl rfl ?_
                              refine pm_R_lo pm_M255 (pc_q := 1) rfl rfl rfl ?_
                              refine rf_R_get pm_M255 T19679 (pc_q := 4) (v := .ref 49) rfl rfl rfl rfl ?_
                              refine pm_R_op pm_M255 (pc_q := 7) (st_q := [.int 152, .ref 49]) rfl rfl rfl ?_
                              refine pm_R_lo pm_M255 (pc_q := 8) rfl rfl rfl ?_
                              refine rf_R_get pm_M255 T19679 (pc_q := 11) (v := .int (m_19623 44)) rfl rfl rfl rfl ?_
                              refine sf_R_imulV pm_M255 (pc_q := 12) rfl rfl sf_k152 B19652 (by decide) (by decide) (by decide) e19654 ?_
                              refine pm_R_op pm_M255 (pc_q := 13) (st_q := [.int 2, .int z19653, .ref 49]) rfl rfl rfl ?_
                              refine sf_R_iaddV pm_M255 (pc_q := 14) rfl rfl B19655 sf_k2 (by decide) (by decide) e19657 ?_
                              refine pm_R_op pm_M255 (pc_q := 15) (st_q := [.int 3, .int z19656, .ref 49]) rfl rfl rfl ?_
                              refine pm_R_lo pm_M255 (pc_q := 16) rfl rfl rfl ?_
                              refine sf_R_imulV pm_M255 (pc_q := 17) rfl rfl sf_k3 B18413 (by decide) (by decide) (by decide) e18423 ?_
                              refine sf_R_iaddV pm_M255 (pc_q := 18) rfl rfl B19658 B18424 (by decide) (by decide) e19660 ?_
                              refine pm_R_lo pm_M255 (pc_q := 19) rfl rfl rfl ?_
                              refine sf_R_iadd pm_M255 (pc_q := 20) rfl rfl B19661 sf_k2 (by decide) (by decide) (fun z19720 e19721 B19722 => ?_)
                              refine rf_R_ild pm_M255 T19679 (pc_q := 21) rfl e19702 (by decide) (sf_in B19722 (by decide) (by decide)) rfl (fun z19723 ez19724 => ?_)
                              have e19725 : (z19720).toInt = 152 * ((m_19623 44)).toInt + 3 * (x2_18406).toInt + 4 := (sf_aux19 _ _ _ _ _ _ _ e19654 e19657 e18423 e19660 e19721)
                              have B19726 : sf_B (-1) 9 z19723 := ez19724 ▸ rf_p49o b19667 e19725 B19652 B18413 (by decide) (by decide) (by decide)
                              refine pm_R_ret pm_M255 (r := some (.int z19723)) rfl (pm_ret_i _) ?_
                              show pm_R _ 254 197 [.ref 41, .int a0, .int x2_18406, .int z18434, .int x4_19623, .int z19645] [.int z19723, .int z19689, .ref 67] _ _
                              refine pm_R_br pm_M254 (pc_q := 201) (pm_q254_2 (Nat.le_of_ble_eq_true rfl)) rfl ?_
                              have e19727 := (F19680.cell (by decide) e19643)
                              refine rf_R_ist pm_M254 T19679 (pc_q := 202) (pm_q254_2 (Nat.le_of_ble_eq_true rfl)) e19727 (by decide) (by decide) (sf_in B19691 (by decide) (by decide)) ⟨_, rfl⟩ rfl (fun h19728 T19729 F19730 e19731 => ?_)
                              have F19732 := F19682.trans F19730 (by decide)
                              refine sf_R_iinc pm_M254 (pc_q := 205) (ls_q := fun z => [.ref 41, .int a0, .int x2_18406, .int z18434, .int z, .int z19645]) (pm_q254_2 (Nat.le_of_ble_eq_true rfl)) B19635 rfl (by decide) (by decide) (by decide) (fun _ => rfl) rfl (fun z19733 e19734 B19735 => ?_)
                              show pm_R _ 254 205 [.ref 41, .int a0, .int x2_18406, .int z18434, .int z19733, .int z19645] [] _ _
                              refine pm_R_br pm_M254 (pc_q := 94) (pm_q254_2 (Nat.le_of_ble_eq_true rfl)) rfl ?_
                              exact ih_19623 _ (sf_up hN_19623 e19734 B19635 (by decide) (by decide)) h19728 m_19623 w_19623 z19733 (.int z19645) T19729 F19732 W_19623 (sf_weak B19735 (by decide) (by decide)) rfl rfl
                        · have B19736 : sf_B 2 2 z19668 := sf_eqL (Classical.not_not.mp c19672) sf_k2
                          refine pm_R_lo pm_M254 (pc_q := 134) (pm_q254_1 (Nat.le_of_ble_eq_true rfl)) rfl rfl ?_
                          refine pm_R_lo pm_M254 (pc_q := 135) (pm_q254_1 (Nat.le_of_ble_eq_true rfl)) rfl rfl ?_
                          refine pm_R_icmp pm_M254 (t := 145) (pc_q := 138) (pm_q254_1 (Nat.le_of_ble_eq_true rfl)) rfl rfl (fun c19737 => ?_) (fun c19737 => ?_)
                          · skip
                            refine pm_R_op pm_M254 (pc_q := 146) (st_q := [.int 0, .int z19650, .int x2_18406, .ref 68]) (pm_q254_1 (Nat.le_of_ble_eq_true rfl)) rfl rfl ?_
                            refine sf_R_iany pm_M254 (pc_q := 147) (st := [.int x2_18406, .ref 68]) (pm_q254_1 (Nat.le_of_ble_eq_true rfl)) rfl rfl (fun z19741 => ?_)
                            refine rf_R_ist pm_M254 T_19623 (pc_q := 148) (pm_q254_1 (Nat.le_of_ble_eq_true rfl)) e19648 (by decide) (by decide) (sf_in B18413 (by decide) (by decide)) ⟨_, rfl⟩ rfl (fun h19742 T19743 F19744 e19745 => ?_)
                            have F19746 := F_19623.trans F19744 (by decide)
                            refine pm_R_lo pm_M254 (pc_q := 149) (pm_q254_1 (Nat.le_of_ble_eq_true rfl)) rfl rfl ?_
                            refine rf_R_get pm_M254 T19743 (pc_q := 152) (v := .ref 67) (pm_q254_1 (Nat.le_of_ble_eq_true rfl)) rfl rfl rfl ?_
                            refine pm_R_op pm_M254 (pc_q := 154) (st_q := [.int 6, .ref 67]) (pm_q254_1 (Nat.le_of_ble_eq_true rfl)) rfl rfl ?_
                            refine pm_R_lo pm_M254 (pc_q := 155) (pm_q254_1 (Nat.le_of_ble_eq_true rfl)) rfl rfl ?_
                            refine pm_R_op pm_M254 (pc_q := 156) (st_q := [.int 1, .int x2_18406, .int 6, .ref 67]) (pm_q254_1 (Nat.le_of_ble_eq_true rfl)) rfl rfl ?_
                            refine sf_R_iadd pm_M254 (pc_q := 157) (pm_q254_1 (Nat.le_of_ble_eq_true rfl)) rfl B18413 sf_k1 (by decide) (by decide) (fun z19747 e19748 B19749 => ?_)
                            refine sf_R_imul pm_M254 (pc_q := 158) (pm_q254_1 (Nat.le_of_ble_eq_true rfl)) rfl sf_k6 B19749 (by decide) (by decide) (by decide) (fun z19750 e19751 B19752 => ?_)
                            refine pm_R_lo pm_M254 (pc_q := 160) (pm_q254_1 (Nat.le_of_ble_eq_true rfl)) rfl rfl ?_
                            refine sf_R_iadd pm_M254 (pc_q := 161) (pm_q254_1 (Nat.le_of_ble_eq_true rfl)) rfl B19752 B19635 (by decide) (by decide) (fun z19753 e19754 B19755 => ?_)
                            refine pm_R_lo pm_M254 (pc_q := 163) (pm_q254_1 (Nat.le_of_ble_eq_true rfl)) rfl rfl ?_
                            refine pm_R_lo pm_M254 (pc_q := 164) (pm_q254_1 (Nat.le_of_ble_eq_true rfl)) rfl rfl ?_
                            refine pm_R_icmp pm_M254 (t := 177) (pc_q := 167) (pm_q254_1 (Nat.le_of_ble_eq_true rfl)) rfl rfl (fun c19756 => ?_) (fun c19756 => ?_)
                            · skip
                              refine pm_R_lo pm_M254 (pc_q := 179) (pm_q254_1 (Nat.le_of_ble_eq_true rfl)) rfl rfl ?_
                              refine pm_R_br pm_M254 (pc_q := 201) (pm_q254_1 (Nat.le_of_ble_eq_true rfl)) rfl ?_
                              have e19757 := (F19744.cell (by decide) e19643)
                              refine rf_R_ist pm_M254 T19743 (pc_q := 202) (pm_q254_2 (Nat.le_of_ble_eq_true rfl)) e19757 (by decide) (by decide) (sf_in B19755 (by decide) (by decide)) ⟨_, rfl⟩ rfl (fun h19758 T19759 F19760 e19761 => ?_)
                              have F19762 := F19746.trans F19760 (by decide)
                              refine sf_R_iinc pm_M254 (pc_q := 205) (ls_q := fun z => [.ref 41, .int a0, .int x2_18406, .int z18434, .int z, .int z19645]) (pm_q254_2 (Nat.le_of_ble_eq_true rfl)) B19635 rfl (by decide) (by decide) (by decide) (fun _ => rfl) rfl (fun z19763 e19764 B19765 => ?_)
                              show pm_R _ 254 205 [.ref 41, .int a0, .int x2_18406, .int z18434, .int z19763, .int z19645] [] _ _
                              refine pm_R_br pm_M254 (pc_q := 94) (pm_q254_2 (Nat.le_of_ble_eq_true rfl)) rfl ?_
                              exact ih_19623 _ (sf_up hN_19623 e19764 B19635 (by decide) (by decide)) h19758 m_19623 w_19623 z19763 (.int z19645) T19759 F19762 W_19623 (sf_weak B19765 (by decide) (by decide)) rfl rfl
                            · refine pm_R_lo pm_M254 (pc_q := 168) (pm_q254_1 (Nat.le_of_ble_eq_true rfl)) rfl rfl ?_
                              refine pm_R_lo pm_M254 (pc_q := 169) (pm_q254_1 (Nat.le_of_ble_eq_true rfl)) rfl rfl ?_
                              refine pm_R_op pm_M254 (pc_q := 170) (st_q := [.int 0, .int x2_18406, .ref 41, .int z19753, .ref 67]) (pm_q254_1 (Nat.le_of_ble_eq_true rfl)) rfl rfl ?_
                              refine pm_R_cv pm_M254 (pc_q := 173) (a := 41) (ra := [.int 0, .int x2_18406]) (rest := [.int z19753, .ref 67]) (ls_q := [.ref 41, .int x2_18406, .int 0]) (pm_q254_1 (Nat.le_of_ble_eq_true rfl)) rfl (Or.inl rfl) pm_M255 T19743.2.1 rfl (by decide) (Nat.lt_of_lt_of_le (by decide) T19743.1) rfl rfl (Nat.le_of_ble_eq_true rfl) rfl rfl ?_
                              refine pm_R_lo pm_M255 (pc_q := 1) rfl rfl rfl ?_
                              refine rf_R_get pm_M255 T19743 (pc_q := 4) (v := .ref 49) rfl rfl rfl rfl ?_
                              refine pm_R_op pm_M255 (pc_q := 7) (st_q := [.int 152, .ref 49]) rfl rfl rfl ?_
                              refine pm_R_lo pm_M255 (pc_q := 8) rfl rfl rfl ?_
                              refine rf_R_get pm_M255 T19743 (pc_q := 11) (v := .int (m_19623 44)) rfl rfl rfl rfl ?_
                              refine sf_R_imulV pm_M255 (pc_q := 12) rfl rfl sf_k152 B19652 (by decide) (by decide) (by decide) e19654 ?_
                              refine pm_R_op pm_M255 (pc_q := 13) (st_q := [.int 2, .int z19653, .ref 49]) rfl rfl rfl ?_
                              refine sf_R_iaddV pm_M255 (pc_q := 14) rfl rfl B19655 sf_k2 (by decide) (by decide) e19657 ?_
                              refine pm_R_op pm_M255 (pc_q := 15) (st_q := [.int 3, .int z19656, .ref 49]) rfl rfl rfl ?_
                              refine pm_R_lo pm_M255 (pc_q := 16) rfl rfl rfl ?_
                              refine sf_R_imulV pm_M255 (pc_q := 17) rfl rfl sf_k3 B18413 (by decide) (by decide) (by decide) e18423 ?_
                              refine sf_R_iaddV pm_M255 (pc_q := 18) rfl rfl B19658 B18424 (by decide) (by decide) e19660 ?_
                              refine pm_R_lo pm_M255 (pc_q := 19) rfl rfl rfl ?_
                              refine sf_R_iaddV pm_M255 (pc_q := 20) rfl rfl B19661 sf_k0 (by decide) (by decide) e19663 ?_
                              have e19766 := (F19744.cell (by decide) e19666)
                              refine pm_R_iald pm_M255 (pc_q := 21) (v := z19668) rfl e19766 (Nat.lt_of_lt_of_le (by decide) T19743.1) (sf_in B19664 (by decide) (by decide)) ez19669 rfl ?_
                              refine pm_R_ret pm_M255 (r := some (.int z19668)) rfl (pm_ret_i _) ?_
                              show pm_R _ 254 173 [.ref 41, .int a0, .int x2_18406, .int z18434, .int x4_19623, .int z19645] [.int z19668, .int z19753, .ref 67] _ _
                              refine pm_R_op pm_M254 (pc_q := 174) (st_q := [.int 2, .int z19668, .int z19753, .ref 67]) (pm_q254_1 (Nat.le_of_ble_eq_true rfl)) rfl rfl ?_
                              refine pm_R_icmp pm_M254 (t := 182) (pc_q := 177) (pm_q254_1 (Nat.le_of_ble_eq_true rfl)) rfl rfl (fun c19769 => absurd (sf_pt2 B19736 sf_k2) c19769) (fun c19769 => ?_)
                              refine pm_R_lo pm_M254 (pc_q := 179) (pm_q254_1 (Nat.le_of_ble_eq_true rfl)) rfl rfl ?_
                              refine pm_R_br pm_M254 (pc_q := 201) (pm_q254_1 (Nat.le_of_ble_eq_true rfl)) rfl ?_
                              have e19770 := (F19744.cell (by decide) e19643)
                              refine rf_R_ist pm_M254 T19743 (pc_q := 202) (pm_q254_2 (Nat.le_of_ble_eq_true rfl)) e19770 (by decide) (by decide) (sf_in B19755 (by decide) (by decide)) ⟨_, rfl⟩ rfl (fun h19771 T19772 F19773 e19774 => ?_)
                              have F19775 := F19746.trans F19773 (by decide)
                              refine sf_R_iinc pm_M254 (pc_q := 205) (ls_q := fun z => [.ref 41, .int a0, .int x2_18406, .int z18434, .int z, .int z19645]) (pm_q254_2 (Nat.le_of_ble_eq_true rfl)) B19635 rfl (by decide) (by decide) (by decide) (fun _ => rfl) rfl (fun z19776 e19777 B19778 => ?_)
                              show pm_R _ 254 205 [.ref 41, .int a0, .int x2_18406, .int z18434, .int z19776, .int z19645] [] _ _
                              refine pm_R_br pm_M254 (pc_q := 94) (pm_q254_2 (Nat.le_of_ble_eq_true rfl)) rfl ?_
                              exact ih_19623 _ (sf_up hN_19623 e19777 B19635 (by decide) (by decide)) h19771 m_19623 w_19623 z19776 (.int z19645) T19772 F19775 W_19623 (sf_weak B19778 (by decide) (by decide)) rfl rfl
                          · have B19779 : sf_B 0 5 z19645 := sf_eqL (Classical.not_not.mp c19737) B18437
                            refine pm_R_op pm_M254 (pc_q := 139) (st_q := [.int 1, .int z19650, .int x2_18406, .ref 68]) (pm_q254_1 (Nat.le_of_ble_eq_true rfl)) rfl rfl ?_
                            refine pm_R_lo pm_M254 (pc_q := 141) (pm_q254_1 (Nat.le_of_ble_eq_true rfl)) rfl rfl ?_
                            refine sf_R_iany pm_M254 (pc_q := 142) (st := [.int z19650, .int x2_18406, .ref 68]) (pm_q254_1 (Nat.le_of_ble_eq_true rfl)) rfl rfl (fun z19783 => ?_)
                            refine pm_R_br pm_M254 (pc_q := 146) (pm_q254_1 (Nat.le_of_ble_eq_true rfl)) rfl ?_
                            refine sf_R_iany pm_M254 (pc_q := 147) (st := [.int x2_18406, .ref 68]) (pm_q254_1 (Nat.le_of_ble_eq_true rfl)) rfl rfl (fun z19787 => ?_)
                            refine rf_R_ist pm_M254 T_19623 (pc_q := 148) (pm_q254_1 (Nat.le_of_ble_eq_true rfl)) e19648 (by decide) (by decide) (sf_in B18413 (by decide) (by decide)) ⟨_, rfl⟩ rfl (fun h19788 T19789 F19790 e19791 => ?_)
                            have F19792 := F_19623.trans F19790 (by decide)
                            refine pm_R_lo pm_M254 (pc_q := 149) (pm_q254_1 (Nat.le_of_ble_eq_true rfl)) rfl rfl ?_
                            refine rf_R_get pm_M254 T19789 (pc_q := 152) (v := .ref 67) (pm_q254_1 (Nat.le_of_ble_eq_true rfl)) rfl rfl rfl ?_
                            refine pm_R_op pm_M254 (pc_q := 154) (st_q := [.int 6, .ref 67]) (pm_q254_1 (Nat.le_of_ble_eq_true rfl)) rfl rfl ?_
                            refine pm_R_lo pm_M254 (pc_q := 155) (pm_q254_1 (Nat.le_of_ble_eq_true rfl)) rfl rfl ?_
                            refine pm_R_op pm_M254 (pc_q := 156) (st_q := [.int 1, .int x2_18406, .int 6, .ref 67]) (pm_q254_1 (Nat.le_of_ble_eq_true rfl)) rfl rfl ?_
                            refine sf_R_iadd pm_M254 (pc_q := 157) (pm_q254_1 (Nat.le_of_ble_eq_true rfl)) rfl B18413 sf_k1 (by decide) (by decide) (fun z19793 e19794 B19795 => ?_)
                            refine sf_R_imul pm_M254 (pc_q := 158) (pm_q254_1 (Nat.le_of_ble_eq_true rfl)) rfl sf_k6 B19795 (by decide) (by decide) (by decide) (fun z19796 e19797 B19798 => ?_)
                            refine pm_R_lo pm_M254 (pc_q := 160) (pm_q254_1 (Nat.le_of_ble_eq_true rfl)) rfl rfl ?_
                            refine sf_R_iadd pm_M254 (pc_q := 161) (pm_q254_1 (Nat.le_of_ble_eq_true rfl)) rfl B19798 B19635 (by decide) (by decide) (fun z19799 e19800 B19801 => ?_)
                            refine pm_R_lo pm_M254 (pc_q := 163) (pm_q254_1 (Nat.le_of_ble_eq_true rfl)) rfl rfl ?_
                            refine pm_R_lo pm_M254 (pc_q := 164) (pm_q254_1 (Nat.le_of_ble_eq_true rfl)) rfl rfl ?_
                            refine pm_R_icmp pm_M254 (t := 177) (pc_q := 167) (pm_q254_1 (Nat.le_of_ble_eq_true rfl)) rfl rfl (fun c19802 => ?_) (fun c19802 => ?_)
                            · skip
                              refine pm_R_lo pm_M254 (pc_q := 179) (pm_q254_1 (Nat.le_of_ble_eq_true rfl)) rfl rfl ?_
                              refine pm_R_br pm_M254 (pc_q := 201) (pm_q254_1 (Nat.le_of_ble_eq_true rfl)) rfl ?_
                              have e19803 := (F19790.cell (by decide) e19643)
                              refine rf_R_ist pm_M254 T19789 (pc_q := 202) (pm_q254_2 (Nat.le_of_ble_eq_true rfl)) e19803 (by decide) (by decide) (sf_in B19801 (by decide) (by decide)) ⟨_, rfl⟩ rfl (fun h19804 T19805 F19806 e19807 => ?_)
                              have F19808 := F19792.trans F19806 (by decide)
                              refine sf_R_iinc pm_M254 (pc_q := 205) (ls_q := fun z => [.ref 41, .int a0, .int x2_18406, .int z18434, .int z, .int z19645]) (pm_q254_2 (Nat.le_of_ble_eq_true rfl)) B19635 rfl (by decide) (by decide) (by decide) (fun _ => rfl) rfl (fun z19809 e19810 B19811 => ?_)
                              show pm_R _ 254 205 [.ref 41, .int a0, .int x2_18406, .int z18434, .int z19809, .int z19645] [] _ _
                              refine pm_R_br pm_M254 (pc_q := 94) (pm_q254_2 (Nat.le_of_ble_eq_true rfl)) rfl ?_
                              exact ih_19623 _ (sf_up hN_19623 e19810 B19635 (by decide) (by decide)) h19804 m_19623 w_19623 z19809 (.int z19645) T19805 F19808 W_19623 (sf_weak B19811 (by decide) (by decide)) rfl rfl
                            · refine pm_R_lo pm_M254 (pc_q := 168) (pm_q254_1 (Nat.le_of_ble_eq_true rfl)) rfl rfl ?_
                              refine pm_R_lo pm_M254 (pc_q := 169) (pm_q254_1 (Nat.le_of_ble_eq_true rfl)) rfl rfl ?_
                              refine pm_R_op pm_M254 (pc_q := 170) (st_q := [.int 0, .int x2_18406, .ref 41, .int z19799, .ref 67]) (pm_q254_1 (Nat.le_of_ble_eq_true rfl)) rfl rfl ?_
                              refine pm_R_cv pm_M254 (pc_q := 173) (a := 41) (ra := [.int 0, .int x2_18406]) (rest := [.int z19799, .ref 67]) (ls_q := [.ref 41, .int x2_18406, .int 0]) (pm_q254_1 (Nat.le_of_ble_eq_true rfl)) rfl (Or.inl rfl) pm_M255 T19789.2.1 rfl (by decide) (Nat.lt_of_lt_of_le (by decide) T19789.1) rfl rfl (Nat.le_of_ble_eq_true rfl) rfl rfl ?_
                              refine pm_R_lo pm_M255 (pc_q := 1) rfl rfl rfl ?_
                              refine rf_R_get pm_M255 T19789 (pc_q := 4) (v := .ref 49) rfl rfl rfl rfl ?_
                              refine pm_R_op pm_M255 (pc_q := 7) (st_q := [.int 152, .ref 49]) rfl rfl rfl ?_
                              refine pm_R_lo pm_M255 (pc_q := 8) rfl rfl rfl ?_
                              refine rf_R_get pm_M255 T19789 (pc_q := 11) (v := .int (m_19623 44)) rfl rfl rfl rfl ?_
                              refine sf_R_imulV pm_M255 (pc_q := 12) rfl rfl sf_k152 B19652 (by decide) (by decide) (by decide) e19654 ?_
                              refine pm_R_op pm_M255 (pc_q := 13) (st_q := [.int 2, .int z19653, .ref 49]) rfl rfl rfl ?_
                              refine sf_R_iaddV pm_M255 (pc_q := 14) rfl rfl B19655 sf_k2 (by decide) (by decide) e19657 ?_
                              refine pm_R_op pm_M255 (pc_q := 15) (st_q := [.int 3, .int z19656, .ref 49]) rfl rfl rfl ?_
                              refine pm_R_lo pm_M255 (pc_q := 16) rfl rfl rfl ?_
                              refine sf_R_imulV pm_M255 (pc_q := 17) rfl rfl sf_k3 B18413 (by decide) (by decide) (by decide) e18423 ?_
                              refine sf_R_iaddV pm_M255 (pc_q := 18) rfl rfl B19658 B18424 (by decide) (by decide) e19660 ?_
                              refine pm_R_lo pm_M255 (pc_q := 19) rfl rfl rfl ?_
                              refine sf_R_iaddV pm_M255 (pc_q := 20) rfl rfl B19661 sf_k0 (by decide) (by decide) e19663 ?_
                              have e19812 := (F19790.cell (by decide) e19666)
                              refine pm_R_iald pm_M255 (pc_q := 21) (v := z19668) rfl e19812 (Nat.lt_of_lt_of_le (by decide) T19789.1) (sf_in B19664 (by decide) (by decide)) ez19669 rfl ?_
                              refine pm_R_ret pm_M255 (r := some (.int z19668)) rfl (pm_ret_i _) ?_
                              show pm_R _ 254 173 [.ref 41, .int a0, .int x2_18406, .int z18434, .int x4_19623, .int z19645] [.int z19668, .int z19799, .ref 67] _ _
                              refine pm_R_op pm_M254 (pc_q := 174) (st_q := [.int 2, .int z19668, .int z19799, .ref 67]) (pm_q254_1 (Nat.le_of_ble_eq_true rfl)) rfl rfl ?_
                              refine pm_R_icmp pm_M254 (t := 182) (pc_q := 177) (pm_q254_1 (Nat.le_of_ble_eq_true rfl)) rfl rfl (fun c19815 => absurd (sf_pt2 B19736 sf_k2) c19815) (fun c19815 => ?_)
                              refine pm_R_lo pm_M254 (pc_q := 179) (pm_q254_1 (Nat.le_of_ble_eq_true rfl)) rfl rfl ?_
                              refine pm_R_br pm_M254 (pc_q := 201) (pm_q254_1 (Nat.le_of_ble_eq_true rfl)) rfl ?_
                              have e19816 := (F19790.cell (by decide) e19643)
                              refine rf_R_ist pm_M254 T19789 (pc_q := 202) (pm_q254_2 (Nat.le_of_ble_eq_true rfl)) e19816 (by decide) (by decide) (sf_in B19801 (by decide) (by decide)) ⟨_, rfl⟩ rfl (fun h19817 T19818 F19819 e19820 => ?_)
                              have F19821 := F19792.trans F19819 (by decide)
                              refine sf_R_iinc pm_M254 (pc_q := 205) (ls_q := fun z => [.ref 41, .int a0, .int x2_18406, .int z18434, .int z, .int z19645]) (pm_q254_2 (Nat.le_of_ble_eq_true rfl)) B19635 rfl (by decide) (by decide) (by decide) (fun _ => rfl) rfl (fun z19822 e19823 B19824 => ?_)
                              show pm_R _ 254 205 [.ref 41, .int a0, .int x2_18406, .int z18434, .int z19822, .int z19645] [] _ _
                              refine pm_R_br pm_M254 (pc_q := 94) (pm_q254_2 (Nat.le_of_ble_eq_true rfl)) rfl ?_
                              exact ih_19623 _ (sf_up hN_19623 e19823 B19635 (by decide) (by decide)) h19817 m_19623 w_19623 z19822 (.int z19645) T19818 F19821 W_19623 (sf_weak B19824 (by decide) (by decide)) rfl rfl
                  exact L_19623 _ h18441 m_18406 w_18406 0 (g5_18406) T18442 F18445 (rf_W.refl _ _) (sf_weak sf_k0 (by decide) (by decide)) Cg5_18406 rfl
            exact L_18406 _ h_12310 m_12310 w_12310 0 (pm_no) (pm_no) (pm_no) T_12310 F_12310 (rf_W.refl _ _) (sf_weak sf_k0 (by decide) (by decide)) rfl rfl rfl rfl
          · have B19825 : sf_B 0 5 x2_12310 := sf_ltL (Int32.not_le.mp c12314) Bx2_12310 sf_k6
            refine pm_R_lo pm_M254 (pc_q := 55) rfl rfl rfl ?_
            refine rf_R_get pm_M254 T_12310 (pc_q := 58) (v := .ref 67) rfl rfl rfl rfl ?_
            refine pm_R_lo pm_M254 (pc_q := 59) rfl rfl rfl ?_
            refine pm_R_op pm_M254 (pc_q := 60) (st_q := [.int (-1), .int x2_12310, .ref 67]) rfl rfl rfl ?_
            obtain ⟨f19826, e19827⟩ := T_12310.2.2.2.1 67 (by decide) (by decide)
            refine rf_R_ist pm_M254 T_12310 (pc_q := 61) rfl e19827 (by decide) (by decide) (sf_in B19825 (by decide) (by decide)) ⟨_, rfl⟩ rfl (fun h19829 T19830 F19831 e19832 => ?_)
            have F19833 := F_12310.trans F19831 (by decide)
            refine sf_R_iinc pm_M254 (pc_q := 64) (ls_q := fun z => [.ref 41, .int a0, .int z, pm_no, pm_no, pm_no]) rfl B19825 rfl (by decide) (by decide) (by decide) (fun _ => rfl) rfl (fun z19834 e19835 B19836 => ?_)
            show pm_R _ 254 64 [.ref 41, .int a0, .int z19834, pm_no, pm_no, pm_no] [] _ _
            refine pm_R_br pm_M254 (pc_q := 48) rfl rfl ?_
            exact ih_12310 _ (sf_up hN_12310 e19835 B19825 (by decide) (by decide)) h19829 m_12310 w_12310 z19834 T19830 F19833 W_12310 (sf_weak B19836 (by decide) (by decide)) rfl
      exact L_12310 _ h52 m55 w 0 T53 F57 (rf_W.refl _ _) (sf_weak sf_k0 (by decide) (by decide)) rfl

set_option maxRecDepth 100000 in
set_option maxHeartbeats 4000000 in
/-- SilentTableModel.looked -/
theorem rf_c267 {d : Nat} {m : Nat → Int32} {w : Int64} {h : pm_H} {Q : Option Value → pm_H → Prop} {a0 : Int32} {a1 : Int32} (T : rf_T m w h) (Ba0 : sf_B 0 5 a0) (K : ∀ (r : Int32), sf_B 0 1 r → Q (some (.int r)) h) : pm_R (d + 0) 267 0 [.ref 41, .int a0, .int a1, pm_no] [] h Q := by
  refine pm_R_op pm_M267 (pc_q := 1) (st_q := [.int 1]) rfl rfl rfl ?_
  refine pm_R_lo pm_M267 (pc_q := 2) (ls_q := [.ref 41, .int a0, .int a1, .int 1]) (st_q := []) rfl rfl rfl ?_
  have L_121 : ∀ (N : Nat) (x3_121 : Int32), sf_B 1 51 x3_121 → (51 - x3_121.toInt).toNat = N → pm_R (d + 0) 267 2 [.ref 41, .int a0, .int a1, .int x3_121] [] h Q := by
    intro N
    induction N using Nat.strongRecOn with
    | ind N ih_121 =>
      intro x3_121 Bx3_121 hN_121
      refine pm_R_lo pm_M267 (pc_q := 3) rfl rfl rfl ?_
      refine pm_R_lo pm_M267 (pc_q := 4) rfl rfl rfl ?_
      have B122 : sf_B 0 50 (m 43) := T.2.2.1 43
      refine rf_R_get pm_M267 T (pc_q := 7) (v := .int (m 43)) rfl rfl rfl rfl ?_
      refine pm_R_icmp pm_M267 (t := 33) (pc_q := 10) rfl rfl rfl (fun c123 => ?_) (fun c123 => ?_)
      · skip
        refine pm_R_op pm_M267 (pc_q := 34) (st_q := [.int 0]) rfl rfl rfl ?_
        exact pm_R_ret pm_M267 (r := some (.int 0)) rfl rfl (K 0 (sf_weak sf_k0 (by decide) (by decide)))
      · have B124 : sf_B 1 50 x3_121 := sf_leL (Int32.not_lt.mp c123) Bx3_121 B122
        have B125 : sf_B 1 50 (m 43) := sf_leR (Int32.not_lt.mp c123) Bx3_121 B122
        refine pm_R_lo pm_M267 (pc_q := 11) rfl rfl rfl ?_
        refine rf_R_get pm_M267 T (pc_q := 14) (v := .ref 67) rfl rfl rfl rfl ?_
        refine pm_R_op pm_M267 (pc_q := 16) (st_q := [.int 6, .ref 67]) rfl rfl rfl ?_
        refine pm_R_lo pm_M267 (pc_q := 17) rfl rfl rfl ?_
        refine sf_R_imul pm_M267 (pc_q := 18) rfl rfl sf_k6 B124 (by decide) (by decide) (by decide) (fun z126 e127 B128 => ?_)
        refine pm_R_lo pm_M267 (pc_q := 19) rfl rfl rfl ?_
        refine sf_R_iadd pm_M267 (pc_q := 20) rfl rfl B128 Ba0 (by decide) (by decide) (fun z129 e130 B131 => ?_)
        obtain ⟨f132, e133⟩ := T.2.2.2.1 67 (by decide) (by decide)
        refine rf_R_ild pm_M267 T (pc_q := 21) rfl e133 (by decide) (sf_in B131 (by decide) (by decide)) rfl (fun z135 ez136 => ?_)
        refine pm_R_lo pm_M267 (pc_q := 22) rfl rfl rfl ?_
        refine pm_R_icmp pm_M267 (t := 27) (pc_q := 25) rfl rfl rfl (fun c137 => ?_) (fun c137 => ?_)
        · skip
          refine sf_R_iinc pm_M267 (pc_q := 30) (ls_q := fun z => [.ref 41, .int a0, .int a1, .int z]) rfl B124 rfl (by decide) (by decide) (by decide) (fun _ => rfl) rfl (fun z138 e139 B140 => ?_)
          show pm_R _ 267 30 [.ref 41, .int a0, .int a1, .int z138] [] _ _
          refine pm_R_br pm_M267 (pc_q := 2) rfl rfl ?_
          exact ih_121 _ (sf_up hN_121 e139 B124 (by decide) (by decide)) z138 (sf_weak B140 (by decide) (by decide)) rfl
        · refine pm_R_op pm_M267 (pc_q := 26) (st_q := [.int 1]) rfl rfl rfl ?_
          exact pm_R_ret pm_M267 (r := some (.int 1)) rfl rfl (K 1 (sf_weak sf_k1 (by decide) (by decide)))
  exact L_121 _ 1 (sf_weak sf_k1 (by decide) (by decide)) rfl

set_option maxRecDepth 100000 in
set_option maxHeartbeats 4000000 in
/-- SilentTableModel.hands -/
theorem rf_c266 {d : Nat} {m : Nat → Int32} {w : Int64} {h : pm_H} {Q : Option Value → pm_H → Prop} {a0 : Int32} {a1 : Int32} {a2 : Int32} (T : rf_T m w h)  (K : ∀ (r : Int32) (m_q : Nat → Int32) (w_q : Int64) (h_q : pm_H), rf_T m_q w_q h_q → rf_G [41, 67, 68] h h_q → rf_W [42, 43, 44] m m_q → sf_B (-1) 5 r → Q (some (.int r)) h_q) : pm_R (d + 3) 266 0 [.ref 41, .int a0, .int a1, .int a2, pm_no, pm_no, pm_no, pm_no, pm_no] [] h Q := by
  refine pm_R_lo pm_M266 (pc_q := 1) rfl rfl rfl ?_
  refine pm_R_lo pm_M266 (pc_q := 2) rfl rfl rfl ?_
  refine pm_R_cv pm_M266 (pc_q := 5) (a := 41) (ra := [.int a0]) (rest := []) (ls_q := [.ref 41, .int a0, pm_no, pm_no, pm_no, pm_no]) rfl rfl (Or.inl rfl) pm_M254 T.2.1 rfl (by decide) (Nat.lt_of_lt_of_le (by decide) T.1) rfl rfl (Nat.le_of_ble_eq_true rfl) rfl rfl ?_
  refine rf_c254 (d := d + 0) T  (fun r1 m3 w4 h5 T6 F7 W8 B2 => ?_)
  have F9 := (rf_G.refl [41, 67, 68] h).trans F7 (by decide)
  have W10 : rf_W [42, 43, 44] m m3 := (rf_W.refl [42, 43, 44] m).trans W8 (by decide)
  show pm_R _ 266 5 [.ref 41, .int a0, .int a1, .int a2, pm_no, pm_no, pm_no, pm_no, pm_no] [.int r1] _ _
  refine pm_R_ifc pm_M266 (t := 29) (pc_q := 8) rfl rfl rfl (fun c11 => ?_) (fun c11 => ?_)
  · have B12 : sf_B 0 0 r1 := sf_eqL c11 sf_k0
    refine pm_R_op pm_M266 (pc_q := 30) (st_q := [.int (-1)]) rfl rfl rfl ?_
    exact pm_R_ret pm_M266 (r := some (.int (-1))) rfl rfl (K (-1) m3 w4 h5 T6 F9 W10 (sf_weak sf_kn1 (by decide) (by decide)))
  · have B13 : sf_B 1 1 r1 := sf_neL0 c11 sf_k0 B2
    refine pm_R_lo pm_M266 (pc_q := 9) rfl rfl rfl ?_
    refine pm_R_lo pm_M266 (pc_q := 10) rfl rfl rfl ?_
    refine pm_R_cv pm_M266 (pc_q := 13) (a := 41) (ra := [.int a1]) (rest := []) (ls_q := [.ref 41, .int a1]) rfl rfl (Or.inl rfl) pm_M259 T6.2.1 rfl (by decide) (Nat.lt_of_lt_of_le (by decide) T6.1) rfl rfl (Nat.le_of_ble_eq_true rfl) rfl rfl ?_
    refine pm_R_lo pm_M259 (pc_q := 1) rfl rfl rfl ?_
    refine pm_R_op pm_M259 (pc_q := 2) (st_q := [.int 0, .int a1]) rfl rfl rfl ?_
    refine pm_R_lo pm_M259 (pc_q := 3) rfl rfl rfl ?_
    have B14 : sf_B 0 6 (m3 42) := T6.2.2.1 42
    refine rf_R_get pm_M259 T6 (pc_q := 6) (v := .int (m3 42)) rfl rfl rfl rfl ?_
    refine pm_R_op pm_M259 (pc_q := 7) (st_q := [.int 1, .int (m3 42), .int 0, .int a1]) rfl rfl rfl ?_
    refine sf_R_isub pm_M259 (pc_q := 8) rfl rfl B14 sf_k1 (by decide) (by decide) (fun z15 e16 B17 => ?_)
    refine pm_R_cs pm_M259 (pc_q := 11) (ra := [.int z15, .int 0, .int a1]) (rest := []) (ls_q := [.int a1, .int 0, .int z15]) rfl rfl (Or.inl rfl) pm_M174 rfl rfl (Nat.le_of_ble_eq_true rfl) rfl rfl ?_
    refine pm_R_lo pm_M174 (pc_q := 1) rfl rfl rfl ?_
    refine pm_R_lo pm_M174 (pc_q := 2) rfl rfl rfl ?_
    refine pm_R_icmp pm_M174 (t := 14) (pc_q := 5) rfl rfl rfl (fun c18 => ?_) (fun c18 => ?_)
    · have B19 : sf_B (-2147483648) (-1) a1 := sf_ltL c18 (sf_any a1) sf_k0
      refine pm_R_op pm_M174 (pc_q := 15) (st_q := [.int 0]) rfl rfl rfl ?_
      refine pm_R_ret pm_M174 (r := some (.int 0)) rfl rfl ?_
      show pm_R _ 259 11 [.ref 41, .int a1] [.int 0] _ _
      refine pm_R_ret pm_M259 (r := some (.int 0)) rfl rfl ?_
      show pm_R _ 266 13 [.ref 41, .int a0, .int a1, .int a2, pm_no, pm_no, pm_no, pm_no, pm_no] [.int 0] _ _
      refine pm_R_br pm_M266 (pc_q := 29) (st_q := []) rfl rfl ?_
      refine pm_R_op pm_M266 (pc_q := 30) (st_q := [.int (-1)]) rfl rfl rfl ?_
      exact pm_R_ret pm_M266 (r := some (.int (-1))) rfl rfl (K (-1) m3 w4 h5 T6 F9 W10 (sf_weak sf_kn1 (by decide) (by decide)))
    · have B20 : sf_B 0 2147483647 a1 := sf_leR (Int32.not_lt.mp c18) sf_k0 (sf_any a1)
      refine pm_R_lo pm_M174 (pc_q := 6) rfl rfl rfl ?_
      refine pm_R_lo pm_M174 (pc_q := 7) rfl rfl rfl ?_
      refine pm_R_icmp pm_M174 (t := 14) (pc_q := 10) rfl rfl rfl (fun c21 => ?_) (fun c21 => ?_)
      · skip
        refine pm_R_op pm_M174 (pc_q := 15) (st_q := [.int 0]) rfl rfl rfl ?_
        refine pm_R_ret pm_M174 (r := some (.int 0)) rfl rfl ?_
        show pm_R _ 259 11 [.ref 41, .int a1] [.int 0] _ _
        refine pm_R_ret pm_M259 (r := some (.int 0)) rfl rfl ?_
        show pm_R _ 266 13 [.ref 41, .int a0, .int a1, .int a2, pm_no, pm_no, pm_no, pm_no, pm_no] [.int 0] _ _
        refine pm_R_br pm_M266 (pc_q := 29) (st_q := []) rfl rfl ?_
        refine pm_R_op pm_M266 (pc_q := 30) (st_q := [.int (-1)]) rfl rfl rfl ?_
        exact pm_R_ret pm_M266 (r := some (.int (-1))) rfl rfl (K (-1) m3 w4 h5 T6 F9 W10 (sf_weak sf_kn1 (by decide) (by decide)))
      · have B22 : sf_B 0 5 a1 := sf_leL (Int32.not_lt.mp c21) B20 B17
        have B23 : sf_B 0 5 z15 := sf_leR (Int32.not_lt.mp c21) B20 B17
        refine pm_R_op pm_M174 (pc_q := 11) (st_q := [.int 1]) rfl rfl rfl ?_
        refine pm_R_br pm_M174 (pc_q := 15) rfl rfl ?_
        refine pm_R_ret pm_M174 (r := some (.int 1)) rfl rfl ?_
        show pm_R _ 259 11 [.ref 41, .int a1] [.int 1] _ _
        refine pm_R_ret pm_M259 (r := some (.int 1)) rfl rfl ?_
        show pm_R _ 266 13 [.ref 41, .int a0, .int a1, .int a2, pm_no, pm_no, pm_no, pm_no, pm_no] [.int 1] _ _
        refine pm_R_br pm_M266 (pc_q := 16) (st_q := []) rfl rfl ?_
        refine pm_R_lo pm_M266 (pc_q := 17) rfl rfl rfl ?_
        refine pm_R_lo pm_M266 (pc_q := 18) rfl rfl rfl ?_
        refine pm_R_cv pm_M266 (pc_q := 21) (a := 41) (ra := [.int a2]) (rest := []) (ls_q := [.ref 41, .int a2]) rfl rfl (Or.inl rfl) pm_M259 T6.2.1 rfl (by decide) (Nat.lt_of_lt_of_le (by decide) T6.1) rfl rfl (Nat.le_of_ble_eq_true rfl) rfl rfl ?_
        refine pm_R_lo pm_M259 (pc_q := 1) rfl rfl rfl ?_
        refine pm_R_op pm_M259 (pc_q := 2) (st_q := [.int 0, .int a2]) rfl rfl rfl ?_
        refine pm_R_lo pm_M259 (pc_q := 3) rfl rfl rfl ?_
        refine rf_R_get pm_M259 T6 (pc_q := 6) (v := .int (m3 42)) rfl rfl rfl rfl ?_
        refine pm_R_op pm_M259 (pc_q := 7) (st_q := [.int 1, .int (m3 42), .int 0, .int a2]) rfl rfl rfl ?_
        refine sf_R_isubV pm_M259 (pc_q := 8) rfl rfl B14 sf_k1 (by decide) (by decide) e16 ?_
        refine pm_R_cs pm_M259 (pc_q := 11) (ra := [.int z15, .int 0, .int a2]) (rest := []) (ls_q := [.int a2, .int 0, .int z15]) rfl rfl (Or.inl rfl) pm_M174 rfl rfl (Nat.le_of_ble_eq_true rfl) rfl rfl ?_
        refine pm_R_lo pm_M174 (pc_q := 1) rfl rfl rfl ?_
        refine pm_R_lo pm_M174 (pc_q := 2) rfl rfl rfl ?_
        refine pm_R_icmp pm_M174 (t := 14) (pc_q := 5) rfl rfl rfl (fun c24 => ?_) (fun c24 => ?_)
        · have B25 : sf_B (-2147483648) (-1) a2 := sf_ltL c24 (sf_any a2) sf_k0
          refine pm_R_op pm_M174 (pc_q := 15) (st_q := [.int 0]) rfl rfl rfl ?_
          refine pm_R_ret pm_M174 (r := some (.int 0)) rfl rfl ?_
          show pm_R _ 259 11 [.ref 41, .int a2] [.int 0] _ _
          refine pm_R_ret pm_M259 (r := some (.int 0)) rfl rfl ?_
          show pm_R _ 266 21 [.ref 41, .int a0, .int a1, .int a2, pm_no, pm_no, pm_no, pm_no, pm_no] [.int 0] _ _
          refine pm_R_br pm_M266 (pc_q := 29) (st_q := []) rfl rfl ?_
          refine pm_R_op pm_M266 (pc_q := 30) (st_q := [.int (-1)]) rfl rfl rfl ?_
          exact pm_R_ret pm_M266 (r := some (.int (-1))) rfl rfl (K (-1) m3 w4 h5 T6 F9 W10 (sf_weak sf_kn1 (by decide) (by decide)))
        · have B26 : sf_B 0 2147483647 a2 := sf_leR (Int32.not_lt.mp c24) sf_k0 (sf_any a2)
          refine pm_R_lo pm_M174 (pc_q := 6) rfl rfl rfl ?_
          refine pm_R_lo pm_M174 (pc_q := 7) rfl rfl rfl ?_
          refine pm_R_icmp pm_M174 (t := 14) (pc_q := 10) rfl rfl rfl (fun c27 => ?_) (fun c27 => ?_)
          · have B28 : sf_B 1 2147483647 a2 := sf_ltR c27 B23 B26
            refine pm_R_op pm_M174 (pc_q := 15) (st_q := [.int 0]) rfl rfl rfl ?_
            refine pm_R_ret pm_M174 (r := some (.int 0)) rfl rfl ?_
            show pm_R _ 259 11 [.ref 41, .int a2] [.int 0] _ _
            refine pm_R_ret pm_M259 (r := some (.int 0)) rfl rfl ?_
            show pm_R _ 266 21 [.ref 41, .int a0, .int a1, .int a2, pm_no, pm_no, pm_no, pm_no, pm_no] [.int 0] _ _
            refine pm_R_br pm_M266 (pc_q := 29) (st_q := []) rfl rfl ?_
            refine pm_R_op pm_M266 (pc_q := 30) (st_q := [.int (-1)]) rfl rfl rfl ?_
            exact pm_R_ret pm_M266 (r := some (.int (-1))) rfl rfl (K (-1) m3 w4 h5 T6 F9 W10 (sf_weak sf_kn1 (by decide) (by decide)))
          · have B29 : sf_B 0 5 a2 := sf_leL (Int32.not_lt.mp c27) B26 B23
            refine pm_R_op pm_M174 (pc_q := 11) (st_q := [.int 1]) rfl rfl rfl ?_
            refine pm_R_br pm_M174 (pc_q := 15) rfl rfl ?_
            refine pm_R_ret pm_M174 (r := some (.int 1)) rfl rfl ?_
            show pm_R _ 259 11 [.ref 41, .int a2] [.int 1] _ _
            refine pm_R_ret pm_M259 (r := some (.int 1)) rfl rfl ?_
            show pm_R _ 266 21 [.ref 41, .int a0, .int a1, .int a2, pm_no, pm_no, pm_no, pm_no, pm_no] [.int 1] _ _
            refine pm_R_br pm_M266 (pc_q := 24) (st_q := []) rfl rfl ?_
            refine pm_R_lo pm_M266 (pc_q := 25) rfl rfl rfl ?_
            refine pm_R_lo pm_M266 (pc_q := 26) rfl rfl rfl ?_
            refine pm_R_icmp pm_M266 (t := 31) (pc_q := 29) rfl rfl rfl (fun c30 => ?_) (fun c30 => ?_)
            · skip
              refine pm_R_op pm_M266 (pc_q := 32) (st_q := [.int 1]) rfl rfl rfl ?_
              refine pm_R_lo pm_M266 (pc_q := 33) rfl rfl rfl ?_
              refine sf_R_iany pm_M266 (pc_q := 34) (st := []) rfl rfl rfl (fun z34 => ?_)
              refine pm_R_lo pm_M266 (pc_q := 36) (ls_q := [.ref 41, .int a0, .int a1, .int a2, .int z34, pm_no, pm_no, pm_no, pm_no]) (st_q := []) rfl rfl rfl ?_
              refine pm_R_op pm_M266 (pc_q := 37) (st_q := [.int 1]) rfl rfl rfl ?_
              refine pm_R_lo pm_M266 (pc_q := 39) (ls_q := [.ref 41, .int a0, .int a1, .int a2, .int z34, .int 1, pm_no, pm_no, pm_no]) (st_q := []) rfl rfl rfl ?_
              have L_8344 : ∀ (N : Nat) (x4_8344 : Int32) (x5_8344 : Int32) (g6_8344 : Value) (g7_8344 : Value) (g8_8344 : Value), sf_B (-2147483648) 2147483647 x4_8344 → sf_B 1 6 x5_8344 → g6_8344.category = 1 → g7_8344.category = 1 → g8_8344.category = 1 → (6 - x5_8344.toInt).toNat = N → pm_R (d + 3) 266 39 [.ref 41, .int a0, .int a1, .int a2, .int x4_8344, .int x5_8344, g6_8344, g7_8344, g8_8344] [] h5 Q := by
                intro N
                induction N using Nat.strongRecOn with
                | ind N ih_8344 =>
                  intro x4_8344 x5_8344 g6_8344 g7_8344 g8_8344 Bx4_8344 Bx5_8344 Cg6_8344 Cg7_8344 Cg8_8344 hN_8344
                  refine pm_R_lo pm_M266 (pc_q := 41) rfl rfl rfl ?_
                  refine pm_R_op pm_M266 (pc_q := 43) (st_q := [.int 6, .int x5_8344]) rfl rfl rfl ?_
                  refine pm_R_icmp pm_M266 (t := 144) (pc_q := 46) rfl rfl rfl (fun c8345 => ?_) (fun c8345 => ?_)
                  · have B8346 : sf_B 6 6 x5_8344 := sf_leR c8345 sf_k6 Bx5_8344
                    refine pm_R_op pm_M266 (pc_q := 145) (st_q := [.int (-1)]) (pm_q266_1 (Nat.le_of_ble_eq_true rfl)) rfl rfl ?_
                    exact pm_R_ret pm_M266 (r := some (.int (-1))) (pm_q266_1 (Nat.le_of_ble_eq_true rfl)) rfl (K (-1) m3 w4 h5 T6 F9 W10 (sf_weak sf_kn1 (by decide) (by decide)))
                  · have B8347 : sf_B 1 5 x5_8344 := sf_ltL (Int32.not_le.mp c8345) Bx5_8344 sf_k6
                    refine pm_R_lo pm_M266 (pc_q := 48) rfl rfl rfl ?_
                    refine pm_R_lo pm_M266 (pc_q := 50) (ls_q := [.ref 41, .int a0, .int a1, .int a2, .int x4_8344, .int x5_8344, .int x4_8344, g7_8344, g8_8344]) (st_q := []) rfl rfl rfl ?_
                    refine pm_R_op pm_M266 (pc_q := 51) (st_q := [.int 0]) rfl rfl rfl ?_
                    refine pm_R_lo pm_M266 (pc_q := 53) (ls_q := [.ref 41, .int a0, .int a1, .int a2, .int x4_8344, .int x5_8344, .int x4_8344, .int 0, g8_8344]) (st_q := []) rfl rfl rfl ?_
                    have L_10003 : ∀ (N : Nat) (x6_10003 : Int32) (x7_10003 : Int32) (g8_10003 : Value), sf_B (-2147483648) 2147483647 x6_10003 → sf_B 0 6 x7_10003 → g8_10003.category = 1 → (6 - x7_10003.toInt).toNat = N → pm_R (d + 3) 266 53 [.ref 41, .int a0, .int a1, .int a2, .int x4_8344, .int x5_8344, .int x6_10003, .int x7_10003, g8_10003] [] h5 Q := by
                      intro N
                      induction N using Nat.strongRecOn with
                      | ind N ih_10003 =>
                        intro x6_10003 x7_10003 g8_10003 Bx6_10003 Bx7_10003 Cg8_10003 hN_10003
                        refine pm_R_lo pm_M266 (pc_q := 55) rfl rfl rfl ?_
                        refine pm_R_lo pm_M266 (pc_q := 56) rfl rfl rfl ?_
                        refine rf_R_get pm_M266 T6 (pc_q := 59) (v := .int (m3 42)) rfl rfl rfl rfl ?_
                        refine pm_R_icmp pm_M266 (t := 121) (pc_q := 62) rfl rfl rfl (fun c10004 => ?_) (fun c10004 => ?_)
                        · skip
                          refine pm_R_lo pm_M266 (pc_q := 123) (pm_q266_1 (Nat.le_of_ble_eq_true rfl)) rfl rfl ?_
                          refine pm_R_lo pm_M266 (pc_q := 125) (ls_q := [.ref 41, .int a0, .int a1, .int a2, .int x6_10003, .int x5_8344, .int x6_10003, .int x7_10003, g8_10003]) (st_q := []) (pm_q266_1 (Nat.le_of_ble_eq_true rfl)) rfl rfl ?_
                          refine pm_R_lo pm_M266 (pc_q := 127) (pm_q266_1 (Nat.le_of_ble_eq_true rfl)) rfl rfl ?_
                          refine sf_R_lany pm_M266 (pc_q := 128) (st := []) (pm_q266_1 (Nat.le_of_ble_eq_true rfl)) rfl rfl (fun z10005 => ?_)
                          refine pm_R_lo pm_M266 (pc_q := 129) (pm_q266_1 (Nat.le_of_ble_eq_true rfl)) rfl rfl ?_
                          refine pm_R_cs pm_M266 (pc_q := 132) (ra := [.int a2, .long z10005]) (rest := []) (ls_q := [.long z10005, pm_no, .int a2]) (pm_q266_1 (Nat.le_of_ble_eq_true rfl)) rfl (Or.inl rfl) pm_M206 rfl rfl (Nat.le_of_ble_eq_true rfl) rfl rfl ?_
                          refine pm_R_lo pm_M206 (pc_q := 1) rfl rfl rfl ?_
                          refine pm_R_lo pm_M206 (pc_q := 2) rfl rfl rfl ?_
                          refine sf_R_lany pm_M206 (pc_q := 3) (st := []) rfl rfl rfl (fun z10006 => ?_)
                          refine pm_R_op pm_M206 (pc_q := 4) (st_q := [.long 1, .long z10006]) rfl rfl rfl ?_
                          refine sf_R_lany pm_M206 (pc_q := 5) (st := []) rfl rfl rfl (fun z10007 => ?_)
                          refine pm_R_op pm_M206 (pc_q := 6) (st_q := [.long 1, .long z10007]) rfl rfl rfl ?_
                          refine sf_R_lcmp pm_M206 (pc_q := 7) rfl rfl (fun z10008 e10009 => ?_)
                          refine pm_R_ifc pm_M206 (t := 14) (pc_q := 10) rfl rfl rfl (fun c10010 => ?_) (fun c10010 => ?_)
                          · have k10011 := sf_lneC e10009 c10010
                            refine pm_R_op pm_M206 (pc_q := 15) (st_q := [.int 0]) rfl rfl rfl ?_
                            refine pm_R_ret pm_M206 (r := some (.int 0)) rfl rfl ?_
                            show pm_R _ 266 132 [.ref 41, .int a0, .int a1, .int a2, .int x6_10003, .int x5_8344, .int x6_10003, .int x7_10003, g8_10003] [.int 0] _ _
                            refine pm_R_br pm_M266 (pc_q := 138) (st_q := []) (pm_q266_1 (Nat.le_of_ble_eq_true rfl)) rfl ?_
                            refine sf_R_iinc pm_M266 (pc_q := 141) (ls_q := fun z => [.ref 41, .int a0, .int a1, .int a2, .int x6_10003, .int z, .int x6_10003, .int x7_10003, g8_10003]) (pm_q266_1 (Nat.le_of_ble_eq_true rfl)) B8347 rfl (by decide) (by decide) (by decide) (fun _ => rfl) rfl (fun z10012 e10013 B10014 => ?_)
                            show pm_R _ 266 141 [.ref 41, .int a0, .int a1, .int a2, .int x6_10003, .int z10012, .int x6_10003, .int x7_10003, g8_10003] [] _ _
                            refine pm_R_br pm_M266 (pc_q := 39) (pm_q266_1 (Nat.le_of_ble_eq_true rfl)) rfl ?_
                            exact ih_8344 _ (sf_up hN_8344 e10013 B8347 (by decide) (by decide)) x6_10003 z10012 (.int x6_10003) (.int x7_10003) (g8_10003) Bx6_10003 (sf_weak B10014 (by decide) (by decide)) rfl rfl Cg8_10003 rfl
                          · have B10015 : sf_B 0 0 z10008 := sf_eqL (Classical.not_not.mp c10010) sf_k0
                            have B10016 : lf_B 1 1 z10007 := lf_eqB e10009 B10015 (⟨by decide, by decide⟩ : lf_B 1 1 1)
                            refine pm_R_op pm_M206 (pc_q := 11) (st_q := [.int 1]) rfl rfl rfl ?_
                            refine pm_R_br pm_M206 (pc_q := 15) rfl rfl ?_
                            refine pm_R_ret pm_M206 (r := some (.int 1)) rfl rfl ?_
                            show pm_R _ 266 132 [.ref 41, .int a0, .int a1, .int a2, .int x6_10003, .int x5_8344, .int x6_10003, .int x7_10003, g8_10003] [.int 1] _ _
                            refine pm_R_br pm_M266 (pc_q := 135) (st_q := []) (pm_q266_1 (Nat.le_of_ble_eq_true rfl)) rfl ?_
                            refine pm_R_lo pm_M266 (pc_q := 137) (pm_q266_1 (Nat.le_of_ble_eq_true rfl)) rfl rfl ?_
                            exact pm_R_ret pm_M266 (r := some (.int x5_8344)) (pm_q266_1 (Nat.le_of_ble_eq_true rfl)) (pm_ret_i _) (K x5_8344 m3 w4 h5 T6 F9 W10 (sf_weak B8347 (by decide) (by decide)))
                        · have B10017 : sf_B 0 5 x7_10003 := sf_ltL (Int32.not_le.mp c10004) Bx7_10003 B14
                          have B10018 : sf_B 1 6 (m3 42) := sf_ltR (Int32.not_le.mp c10004) Bx7_10003 B14
                          refine pm_R_op pm_M266 (pc_q := 63) (st_q := [.int 0]) rfl rfl rfl ?_
                          refine pm_R_lo pm_M266 (pc_q := 65) (ls_q := [.ref 41, .int a0, .int a1, .int a2, .int x4_8344, .int x5_8344, .int x6_10003, .int x7_10003, .int 0]) (st_q := []) rfl rfl rfl ?_
                          have L_10332 : ∀ (N : Nat) (x6_10332 : Int32) (x8_10332 : Int32), sf_B (-2147483648) 2147483647 x6_10332 → sf_B 0 6 x8_10332 → (6 - x8_10332.toInt).toNat = N → pm_R (d + 3) 266 65 [.ref 41, .int a0, .int a1, .int a2, .int x4_8344, .int x5_8344, .int x6_10332, .int x7_10003, .int x8_10332] [] h5 Q := by
                            intro N
                            induction N using Nat.strongRecOn with
                            | ind N ih_10332 =>
                              intro x6_10332 x8_10332 Bx6_10332 Bx8_10332 hN_10332
                              refine pm_R_lo pm_M266 (pc_q := 67) rfl rfl rfl ?_
                              refine pm_R_lo pm_M266 (pc_q := 68) rfl rfl rfl ?_
                              refine rf_R_get pm_M266 T6 (pc_q := 71) (v := .int (m3 42)) rfl rfl rfl rfl ?_
                              refine pm_R_icmp pm_M266 (t := 115) (pc_q := 74) rfl rfl rfl (fun c10333 => ?_) (fun c10333 => ?_)
                              · have B10334 : sf_B 1 6 x8_10332 := sf_leR c10333 B10018 Bx8_10332
                                refine sf_R_iinc pm_M266 (pc_q := 118) (ls_q := fun z => [.ref 41, .int a0, .int a1, .int a2, .int x4_8344, .int x5_8344, .int x6_10332, .int z, .int x8_10332]) (pm_q266_1 (Nat.le_of_ble_eq_true rfl)) B10017 rfl (by decide) (by decide) (by decide) (fun _ => rfl) rfl (fun z10335 e10336 B10337 => ?_)
                                show pm_R _ 266 118 [.ref 41, .int a0, .int a1, .int a2, .int x4_8344, .int x5_8344, .int x6_10332, .int z10335, .int x8_10332] [] _ _
                                refine pm_R_br pm_M266 (pc_q := 53) (pm_q266_1 (Nat.le_of_ble_eq_true rfl)) rfl ?_
                                exact ih_10003 _ (sf_up hN_10003 e10336 B10017 (by decide) (by decide)) x6_10332 z10335 (.int x8_10332) Bx6_10332 (sf_weak B10337 (by decide) (by decide)) rfl rfl
                              · have B10338 : sf_B 0 5 x8_10332 := sf_ltL (Int32.not_le.mp c10333) Bx8_10332 B10018
                                refine pm_R_lo pm_M266 (pc_q := 76) rfl rfl rfl ?_
                                refine pm_R_lo pm_M266 (pc_q := 78) rfl rfl rfl ?_
                                refine sf_R_lany pm_M266 (pc_q := 79) (st := [.int x6_10332]) rfl rfl rfl (fun z10339 => ?_)
                                refine pm_R_lo pm_M266 (pc_q := 81) rfl rfl rfl ?_
                                refine pm_R_cs pm_M266 (pc_q := 84) (ra := [.int x8_10332, .long z10339]) (rest := [.int x6_10332]) (ls_q := [.long z10339, pm_no, .int x8_10332]) rfl rfl (Or.inl rfl) pm_M206 rfl rfl (Nat.le_of_ble_eq_true rfl) rfl rfl ?_
                                refine pm_R_lo pm_M206 (pc_q := 1) rfl rfl rfl ?_
                                refine pm_R_lo pm_M206 (pc_q := 2) rfl rfl rfl ?_
                                refine sf_R_lany pm_M206 (pc_q := 3) (st := []) rfl rfl rfl (fun z10340 => ?_)
                                refine pm_R_op pm_M206 (pc_q := 4) (st_q := [.long 1, .long z10340]) rfl rfl rfl ?_
                                refine sf_R_lany pm_M206 (pc_q := 5) (st := []) rfl rfl rfl (fun z10341 => ?_)
                                refine pm_R_op pm_M206 (pc_q := 6) (st_q := [.long 1, .long z10341]) rfl rfl rfl ?_
                                refine sf_R_lcmp pm_M206 (pc_q := 7) rfl rfl (fun z10342 e10343 => ?_)
                                refine pm_R_ifc pm_M206 (t := 14) (pc_q := 10) rfl rfl rfl (fun c10344 => ?_) (fun c10344 => ?_)
                                · have k10345 := sf_lneC e10343 c10344
                                  refine pm_R_op pm_M206 (pc_q := 15) (st_q := [.int 0]) rfl rfl rfl ?_
                                  refine pm_R_ret pm_M206 (r := some (.int 0)) rfl rfl ?_
                                  show pm_R _ 266 84 [.ref 41, .int a0, .int a1, .int a2, .int x4_8344, .int x5_8344, .int x6_10332, .int x7_10003, .int x8_10332] [.int 0, .int x6_10332] _ _
                                  refine pm_R_br pm_M266 (pc_q := 105) (st_q := [.int x6_10332]) rfl rfl ?_
                                  refine pm_R_op pm_M266 (pc_q := 106) (st_q := [.int 0, .int x6_10332]) rfl rfl rfl ?_
                                  refine sf_R_iany pm_M266 (pc_q := 107) (st := []) rfl rfl rfl (fun z10349 => ?_)
                                  refine pm_R_lo pm_M266 (pc_q := 109) (ls_q := [.ref 41, .int a0, .int a1, .int a2, .int x4_8344, .int x5_8344, .int z10349, .int x7_10003, .int x8_10332]) (st_q := []) rfl rfl rfl ?_
                                  refine sf_R_iinc pm_M266 (pc_q := 112) (ls_q := fun z => [.ref 41, .int a0, .int a1, .int a2, .int x4_8344, .int x5_8344, .int z10349, .int x7_10003, .int z]) rfl B10338 rfl (by decide) (by decide) (by decide) (fun _ => rfl) rfl (fun z10350 e10351 B10352 => ?_)
                                  show pm_R _ 266 112 [.ref 41, .int a0, .int a1, .int a2, .int x4_8344, .int x5_8344, .int z10349, .int x7_10003, .int z10350] [] _ _
                                  refine pm_R_br pm_M266 (pc_q := 65) rfl rfl ?_
                                  exact ih_10332 _ (sf_up hN_10332 e10351 B10338 (by decide) (by decide)) z10349 z10350 (sf_any z10349) (sf_weak B10352 (by decide) (by decide)) rfl
                                · have B10353 : sf_B 0 0 z10342 := sf_eqL (Classical.not_not.mp c10344) sf_k0
                                  have B10354 : lf_B 1 1 z10341 := lf_eqB e10343 B10353 (⟨by decide, by decide⟩ : lf_B 1 1 1)
                                  refine pm_R_op pm_M206 (pc_q := 11) (st_q := [.int 1]) rfl rfl rfl ?_
                                  refine pm_R_br pm_M206 (pc_q := 15) rfl rfl ?_
                                  refine pm_R_ret pm_M206 (r := some (.int 1)) rfl rfl ?_
                                  show pm_R _ 266 84 [.ref 41, .int a0, .int a1, .int a2, .int x4_8344, .int x5_8344, .int x6_10332, .int x7_10003, .int x8_10332] [.int 1, .int x6_10332] _ _
                                  refine pm_R_br pm_M266 (pc_q := 87) (st_q := [.int x6_10332]) rfl rfl ?_
                                  refine pm_R_lo pm_M266 (pc_q := 88) rfl rfl rfl ?_
                                  refine pm_R_lo pm_M266 (pc_q := 90) rfl rfl rfl ?_
                                  refine pm_R_lo pm_M266 (pc_q := 92) rfl rfl rfl ?_
                                  refine pm_R_cv pm_M266 (pc_q := 95) (a := 41) (ra := [.int x8_10332, .int x7_10003]) (rest := [.int x6_10332]) (ls_q := [.ref 41, .int x7_10003, .int x8_10332, pm_no]) rfl rfl (Or.inl rfl) pm_M267 T6.2.1 rfl (by decide) (Nat.lt_of_lt_of_le (by decide) T6.1) rfl rfl (Nat.le_of_ble_eq_true rfl) rfl rfl ?_
                                  refine rf_c267 (d := d + 2) T6 B10017 (fun r10355 B10356 => ?_)
                                  show pm_R _ 266 95 [.ref 41, .int a0, .int a1, .int a2, .int x4_8344, .int x5_8344, .int x6_10332, .int x7_10003, .int x8_10332] [.int r10355, .int x6_10332] _ _
                                  refine pm_R_ifc pm_M266 (t := 105) (pc_q := 98) rfl rfl rfl (fun c10363 => ?_) (fun c10363 => ?_)
                                  · have B10364 : sf_B 0 0 r10355 := sf_eqL c10363 sf_k0
                                    refine pm_R_op pm_M266 (pc_q := 106) (st_q := [.int 0, .int x6_10332]) rfl rfl rfl ?_
                                    refine sf_R_iany pm_M266 (pc_q := 107) (st := []) rfl rfl rfl (fun z10368 => ?_)
                                    refine pm_R_lo pm_M266 (pc_q := 109) (ls_q := [.ref 41, .int a0, .int a1, .int a2, .int x4_8344, .int x5_8344, .int z10368, .int x7_10003, .int x8_10332]) (st_q := []) rfl rfl rfl ?_
                                    refine sf_R_iinc pm_M266 (pc_q := 112) (ls_q := fun z => [.ref 41, .int a0, .int a1, .int a2, .int x4_8344, .int x5_8344, .int z10368, .int x7_10003, .int z]) rfl B10338 rfl (by decide) (by decide) (by decide) (fun _ => rfl) rfl (fun z10369 e10370 B10371 => ?_)
                                    show pm_R _ 266 112 [.ref 41, .int a0, .int a1, .int a2, .int x4_8344, .int x5_8344, .int z10368, .int x7_10003, .int z10369] [] _ _
                                    refine pm_R_br pm_M266 (pc_q := 65) rfl rfl ?_
                                    exact ih_10332 _ (sf_up hN_10332 e10370 B10338 (by decide) (by decide)) z10368 z10369 (sf_any z10368) (sf_weak B10371 (by decide) (by decide)) rfl
                                  · have B10372 : sf_B 1 1 r10355 := sf_neL0 c10363 sf_k0 B10356
                                    refine pm_R_op pm_M266 (pc_q := 99) (st_q := [.int 1, .int x6_10332]) rfl rfl rfl ?_
                                    refine pm_R_lo pm_M266 (pc_q := 101) rfl rfl rfl ?_
                                    refine sf_R_iany pm_M266 (pc_q := 102) (st := [.int x6_10332]) rfl rfl rfl (fun z10376 => ?_)
                                    refine pm_R_br pm_M266 (pc_q := 106) rfl rfl ?_
                                    refine sf_R_iany pm_M266 (pc_q := 107) (st := []) rfl rfl rfl (fun z10380 => ?_)
                                    refine pm_R_lo pm_M266 (pc_q := 109) (ls_q := [.ref 41, .int a0, .int a1, .int a2, .int x4_8344, .int x5_8344, .int z10380, .int x7_10003, .int x8_10332]) (st_q := []) rfl rfl rfl ?_
                                    refine sf_R_iinc pm_M266 (pc_q := 112) (ls_q := fun z => [.ref 41, .int a0, .int a1, .int a2, .int x4_8344, .int x5_8344, .int z10380, .int x7_10003, .int z]) rfl B10338 rfl (by decide) (by decide) (by decide) (fun _ => rfl) rfl (fun z10381 e10382 B10383 => ?_)
                                    show pm_R _ 266 112 [.ref 41, .int a0, .int a1, .int a2, .int x4_8344, .int x5_8344, .int z10380, .int x7_10003, .int z10381] [] _ _
                                    refine pm_R_br pm_M266 (pc_q := 65) rfl rfl ?_
                                    exact ih_10332 _ (sf_up hN_10332 e10382 B10338 (by decide) (by decide)) z10380 z10381 (sf_any z10380) (sf_weak B10383 (by decide) (by decide)) rfl
                          exact L_10332 _ x6_10003 0 Bx6_10003 (sf_weak sf_k0 (by decide) (by decide)) rfl
                    exact L_10003 _ x4_8344 0 (g8_8344) Bx4_8344 (sf_weak sf_k0 (by decide) (by decide)) Cg8_8344 rfl
              exact L_8344 _ z34 1 (pm_no) (pm_no) (pm_no) (sf_any z34) (sf_weak sf_k1 (by decide) (by decide)) rfl rfl rfl rfl
            · refine pm_R_op pm_M266 (pc_q := 30) (st_q := [.int (-1)]) rfl rfl rfl ?_
              exact pm_R_ret pm_M266 (r := some (.int (-1))) rfl rfl (K (-1) m3 w4 h5 T6 F9 W10 (sf_weak sf_kn1 (by decide) (by decide)))

set_option maxRecDepth 100000 in
set_option maxHeartbeats 4000000 in
/-- SilentTableModel.saidBy -/
theorem rf_c270 {d : Nat} {m : Nat → Int32} {w : Int64} {h : pm_H} {Q : Option Value → pm_H → Prop} {a0 : Int32} (T : rf_T m w h)  (K : ∀ (r : Int32), Q (some (.int r)) h) : pm_R (d + 2) 270 0 [.ref 41, .int a0, pm_no, pm_no] [] h Q := by
  refine pm_R_op pm_M270 (pc_q := 1) (st_q := [.int 0]) rfl rfl rfl ?_
  refine pm_R_lo pm_M270 (pc_q := 2) (ls_q := [.ref 41, .int a0, .int 0, pm_no]) (st_q := []) rfl rfl rfl ?_
  refine pm_R_op pm_M270 (pc_q := 3) (st_q := [.int 0]) rfl rfl rfl ?_
  refine pm_R_lo pm_M270 (pc_q := 4) (ls_q := [.ref 41, .int a0, .int 0, .int 0]) (st_q := []) rfl rfl rfl ?_
  have L_299 : ∀ (N : Nat) (x2_299 : Int32) (x3_299 : Int32), sf_B (-2147483648) 2147483647 x2_299 → sf_B 0 50 x3_299 → (50 - x3_299.toInt).toNat = N → pm_R (d + 2) 270 4 [.ref 41, .int a0, .int x2_299, .int x3_299] [] h Q := by
    intro N
    induction N using Nat.strongRecOn with
    | ind N ih_299 =>
      intro x2_299 x3_299 Bx2_299 Bx3_299 hN_299
      refine pm_R_lo pm_M270 (pc_q := 5) rfl rfl rfl ?_
      refine pm_R_lo pm_M270 (pc_q := 6) rfl rfl rfl ?_
      have B300 : sf_B 0 50 (m 43) := T.2.2.1 43
      refine rf_R_get pm_M270 T (pc_q := 9) (v := .int (m 43)) rfl rfl rfl rfl ?_
      refine pm_R_icmp pm_M270 (t := 44) (pc_q := 12) rfl rfl rfl (fun c301 => ?_) (fun c301 => ?_)
      · skip
        refine pm_R_lo pm_M270 (pc_q := 45) rfl rfl rfl ?_
        exact pm_R_ret pm_M270 (r := some (.int x2_299)) rfl (pm_ret_i _) (K x2_299)
      · have B302 : sf_B 0 49 x3_299 := sf_ltL (Int32.not_le.mp c301) Bx3_299 B300
        have B303 : sf_B 1 50 (m 43) := sf_ltR (Int32.not_le.mp c301) Bx3_299 B300
        refine pm_R_lo pm_M270 (pc_q := 13) rfl rfl rfl ?_
        refine pm_R_lo pm_M270 (pc_q := 14) rfl rfl rfl ?_
        refine pm_R_lo pm_M270 (pc_q := 15) rfl rfl rfl ?_
        refine pm_R_cv pm_M270 (pc_q := 18) (a := 41) (ra := [.int x3_299]) (rest := [.int x2_299]) (ls_q := [.ref 41, .int x3_299]) rfl rfl (Or.inl rfl) pm_M256 T.2.1 rfl (by decide) (Nat.lt_of_lt_of_le (by decide) T.1) rfl rfl (Nat.le_of_ble_eq_true rfl) rfl rfl ?_
        refine pm_R_lo pm_M256 (pc_q := 1) rfl rfl rfl ?_
        refine pm_R_lo pm_M256 (pc_q := 2) rfl rfl rfl ?_
        refine pm_R_op pm_M256 (pc_q := 3) (st_q := [.int 0, .int x3_299, .ref 41]) rfl rfl rfl ?_
        refine pm_R_cv pm_M256 (pc_q := 6) (a := 41) (ra := [.int 0, .int x3_299]) (rest := []) (ls_q := [.ref 41, .int x3_299, .int 0]) rfl rfl (Or.inl rfl) pm_M255 T.2.1 rfl (by decide) (Nat.lt_of_lt_of_le (by decide) T.1) rfl rfl (Nat.le_of_ble_eq_true rfl) rfl rfl ?_
        refine pm_R_lo pm_M255 (pc_q := 1) rfl rfl rfl ?_
        refine rf_R_get pm_M255 T (pc_q := 4) (v := .ref 49) rfl rfl rfl rfl ?_
        refine pm_R_op pm_M255 (pc_q := 7) (st_q := [.int 152, .ref 49]) rfl rfl rfl ?_
        refine pm_R_lo pm_M255 (pc_q := 8) rfl rfl rfl ?_
        have B304 : sf_B 0 1 (m 44) := T.2.2.1 44
        refine rf_R_get pm_M255 T (pc_q := 11) (v := .int (m 44)) rfl rfl rfl rfl ?_
        refine sf_R_imul pm_M255 (pc_q := 12) rfl rfl sf_k152 B304 (by decide) (by decide) (by decide) (fun z305 e306 B307 => ?_)
        refine pm_R_op pm_M255 (pc_q := 13) (st_q := [.int 2, .int z305, .ref 49]) rfl rfl rfl ?_
        refine sf_R_iadd pm_M255 (pc_q := 14) rfl rfl B307 sf_k2 (by decide) (by decide) (fun z308 e309 B310 => ?_)
        refine pm_R_op pm_M255 (pc_q := 15) (st_q := [.int 3, .int z308, .ref 49]) rfl rfl rfl ?_
        refine pm_R_lo pm_M255 (pc_q := 16) rfl rfl rfl ?_
        refine sf_R_imul pm_M255 (pc_q := 17) rfl rfl sf_k3 B302 (by decide) (by decide) (by decide) (fun z311 e312 B313 => ?_)
        refine sf_R_iadd pm_M255 (pc_q := 18) rfl rfl B310 B313 (by decide) (by decide) (fun z314 e315 B316 => ?_)
        refine pm_R_lo pm_M255 (pc_q := 19) rfl rfl rfl ?_
        refine sf_R_iadd pm_M255 (pc_q := 20) rfl rfl B316 sf_k0 (by decide) (by decide) (fun z317 e318 B319 => ?_)
        obtain ⟨f320, e321, b322⟩ := T.2.2.2.1 49 (by decide) (by decide)
        refine rf_R_ild pm_M255 T (pc_q := 21) rfl e321 (by decide) (sf_in B319 (by decide) (by decide)) rfl (fun z323 ez324 => ?_)
        have e325 : (z317).toInt = 152 * ((m 44)).toInt + 3 * (x3_299).toInt + 2 := (sf_aux18 _ _ _ _ _ _ _ e306 e309 e312 e315 e318)
        have B326 : sf_B 0 2 z323 := ez324 ▸ rf_p49s b322 e325 B304 B302 (by decide) (by decide) (by decide)
        refine pm_R_ret pm_M255 (r := some (.int z323)) rfl (pm_ret_i _) ?_
        show pm_R _ 256 6 [.ref 41, .int x3_299] [.int z323] _ _
        refine pm_R_op pm_M256 (pc_q := 7) (st_q := [.int 2, .int z323]) rfl rfl rfl ?_
        refine pm_R_icmp pm_M256 (t := 14) (pc_q := 10) rfl rfl rfl (fun c327 => ?_) (fun c327 => ?_)
        · have B328 : sf_B 0 1 z323 := sf_neH0 c327 sf_k2 B326
          refine pm_R_op pm_M256 (pc_q := 15) (st_q := [.int 0]) rfl rfl rfl ?_
          refine pm_R_ret pm_M256 (r := some (.int 0)) rfl rfl ?_
          show pm_R _ 270 18 [.ref 41, .int a0, .int x2_299, .int x3_299] [.int 0, .int x2_299] _ _
          refine pm_R_br pm_M270 (pc_q := 35) (st_q := [.int x2_299]) rfl rfl ?_
          refine pm_R_op pm_M270 (pc_q := 36) (st_q := [.int 0, .int x2_299]) rfl rfl rfl ?_
          refine sf_R_iadd pm_M270 (pc_q := 37) rfl rfl Bx2_299 sf_k0 (by decide) (by decide) (fun z329 e330 B331 => ?_)
          refine pm_R_lo pm_M270 (pc_q := 38) (ls_q := [.ref 41, .int a0, .int z329, .int x3_299]) (st_q := []) rfl rfl rfl ?_
          refine sf_R_iinc pm_M270 (pc_q := 41) (ls_q := fun z => [.ref 41, .int a0, .int z329, .int z]) rfl B302 rfl (by decide) (by decide) (by decide) (fun _ => rfl) rfl (fun z332 e333 B334 => ?_)
          show pm_R _ 270 41 [.ref 41, .int a0, .int z329, .int z332] [] _ _
          refine pm_R_br pm_M270 (pc_q := 4) rfl rfl ?_
          exact ih_299 _ (sf_up hN_299 e333 B302 (by decide) (by decide)) z329 z332 B331 (sf_weak B334 (by decide) (by decide)) rfl
        · have B335 : sf_B 2 2 z323 := sf_eqL (Classical.not_not.mp c327) sf_k2
          refine pm_R_op pm_M256 (pc_q := 11) (st_q := [.int 1]) rfl rfl rfl ?_
          refine pm_R_br pm_M256 (pc_q := 15) rfl rfl ?_
          refine pm_R_ret pm_M256 (r := some (.int 1)) rfl rfl ?_
          show pm_R _ 270 18 [.ref 41, .int a0, .int x2_299, .int x3_299] [.int 1, .int x2_299] _ _
          refine pm_R_br pm_M270 (pc_q := 21) (st_q := [.int x2_299]) rfl rfl ?_
          refine pm_R_lo pm_M270 (pc_q := 22) rfl rfl rfl ?_
          refine pm_R_lo pm_M270 (pc_q := 23) rfl rfl rfl ?_
          refine pm_R_op pm_M270 (pc_q := 24) (st_q := [.int 1, .int x3_299, .ref 41, .int x2_299]) rfl rfl rfl ?_
          refine pm_R_cv pm_M270 (pc_q := 27) (a := 41) (ra := [.int 1, .int x3_299]) (rest := [.int x2_299]) (ls_q := [.ref 41, .int x3_299, .int 1]) rfl rfl (Or.inl rfl) pm_M255 T.2.1 rfl (by decide) (Nat.lt_of_lt_of_le (by decide) T.1) rfl rfl (Nat.le_of_ble_eq_true rfl) rfl rfl ?_
          refine pm_R_lo pm_M255 (pc_q := 1) rfl rfl rfl ?_
          refine rf_R_get pm_M255 T (pc_q := 4) (v := .ref 49) rfl rfl rfl rfl ?_
          refine pm_R_op pm_M255 (pc_q := 7) (st_q := [.int 152, .ref 49]) rfl rfl rfl ?_
          refine pm_R_lo pm_M255 (pc_q := 8) rfl rfl rfl ?_
          refine rf_R_get pm_M255 T (pc_q := 11) (v := .int (m 44)) rfl rfl rfl rfl ?_
          refine sf_R_imulV pm_M255 (pc_q := 12) rfl rfl sf_k152 B304 (by decide) (by decide) (by decide) e306 ?_
          refine pm_R_op pm_M255 (pc_q := 13) (st_q := [.int 2, .int z305, .ref 49]) rfl rfl rfl ?_
          refine sf_R_iaddV pm_M255 (pc_q := 14) rfl rfl B307 sf_k2 (by decide) (by decide) e309 ?_
          refine pm_R_op pm_M255 (pc_q := 15) (st_q := [.int 3, .int z308, .ref 49]) rfl rfl rfl ?_
          refine pm_R_lo pm_M255 (pc_q := 16) rfl rfl rfl ?_
          refine sf_R_imulV pm_M255 (pc_q := 17) rfl rfl sf_k3 B302 (by decide) (by decide) (by decide) e312 ?_
          refine sf_R_iaddV pm_M255 (pc_q := 18) rfl rfl B310 B313 (by decide) (by decide) e315 ?_
          refine pm_R_lo pm_M255 (pc_q := 19) rfl rfl rfl ?_
          refine sf_R_iadd pm_M255 (pc_q := 20) rfl rfl B316 sf_k1 (by decide) (by decide) (fun z336 e337 B338 => ?_)
          refine rf_R_ild pm_M255 T (pc_q := 21) rfl e321 (by decide) (sf_in B338 (by decide) (by decide)) rfl (fun z339 ez340 => ?_)
          have e341 : (z336).toInt = 152 * ((m 44)).toInt + 3 * (x3_299).toInt + 3 := (sf_aux17 _ _ _ _ _ _ _ e306 e309 e312 e315 e337)
          have B342 : sf_B 0 5 z339 := ez340 ▸ rf_p49w b322 e341 B304 B302 (by decide) (by decide) (by decide)
          refine pm_R_ret pm_M255 (r := some (.int z339)) rfl (pm_ret_i _) ?_
          show pm_R _ 270 27 [.ref 41, .int a0, .int x2_299, .int x3_299] [.int z339, .int x2_299] _ _
          refine pm_R_lo pm_M270 (pc_q := 28) rfl rfl rfl ?_
          refine pm_R_icmp pm_M270 (t := 35) (pc_q := 31) rfl rfl rfl (fun c343 => ?_) (fun c343 => ?_)
          · skip
            refine pm_R_op pm_M270 (pc_q := 36) (st_q := [.int 0, .int x2_299]) rfl rfl rfl ?_
            refine sf_R_iadd pm_M270 (pc_q := 37) rfl rfl Bx2_299 sf_k0 (by decide) (by decide) (fun z344 e345 B346 => ?_)
            refine pm_R_lo pm_M270 (pc_q := 38) (ls_q := [.ref 41, .int a0, .int z344, .int x3_299]) (st_q := []) rfl rfl rfl ?_
            refine sf_R_iinc pm_M270 (pc_q := 41) (ls_q := fun z => [.ref 41, .int a0, .int z344, .int z]) rfl B302 rfl (by decide) (by decide) (by decide) (fun _ => rfl) rfl (fun z347 e348 B349 => ?_)
            show pm_R _ 270 41 [.ref 41, .int a0, .int z344, .int z347] [] _ _
            refine pm_R_br pm_M270 (pc_q := 4) rfl rfl ?_
            exact ih_299 _ (sf_up hN_299 e348 B302 (by decide) (by decide)) z344 z347 B346 (sf_weak B349 (by decide) (by decide)) rfl
          · have B350 : sf_B 0 5 a0 := sf_eqR (Classical.not_not.mp c343) B342
            refine pm_R_op pm_M270 (pc_q := 32) (st_q := [.int 1, .int x2_299]) rfl rfl rfl ?_
            refine pm_R_br pm_M270 (pc_q := 36) rfl rfl ?_
            refine sf_R_iany pm_M270 (pc_q := 37) (st := []) rfl rfl rfl (fun z354 => ?_)
            refine pm_R_lo pm_M270 (pc_q := 38) (ls_q := [.ref 41, .int a0, .int z354, .int x3_299]) (st_q := []) rfl rfl rfl ?_
            refine sf_R_iinc pm_M270 (pc_q := 41) (ls_q := fun z => [.ref 41, .int a0, .int z354, .int z]) rfl B302 rfl (by decide) (by decide) (by decide) (fun _ => rfl) rfl (fun z355 e356 B357 => ?_)
            show pm_R _ 270 41 [.ref 41, .int a0, .int z354, .int z355] [] _ _
            refine pm_R_br pm_M270 (pc_q := 4) rfl rfl ?_
            exact ih_299 _ (sf_up hN_299 e356 B302 (by decide) (by decide)) z354 z355 (sf_any z354) (sf_weak B357 (by decide) (by decide)) rfl
  exact L_299 _ 0 0 (sf_weak sf_k0 (by decide) (by decide)) (sf_weak sf_k0 (by decide) (by decide)) rfl
