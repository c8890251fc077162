set_option maxRecDepth 100000 in
set_option maxHeartbeats 4000000 in
/-- SilentTableModel.findByValue -/
theorem rf_c224 {d : Nat} {m : Nat → Int32} {w : Int64} {h : pm_H} {Q : Option Value → pm_H → Prop}  (T : rf_T m w h)  (K : ∀ (m' : Nat → Int32) (w' : Int64) (h' : pm_H), rf_T m' w' h' → rf_G [56] h h' → rf_W [] m m' → Q none h') : pm_R (d + 3) 224 0 [.ref 41, pm_no, pm_no, pm_no, pm_no] [] h Q := by
  refine pm_R_op pm_M224 (pc' := 1) (st' := [.int 0]) rfl rfl rfl ?_
  refine pm_R_lo pm_M224 (pc' := 2) (ls' := [.ref 41, .int 0, pm_no, pm_no, pm_no]) (st' := []) rfl rfl rfl ?_
  have L_957371 : ∀ (N : Nat) (h_957371 : pm_H) (m_957371 : Nat → Int32) (w_957371 : Int64) (x1_957371 : Int32), rf_T m_957371 w_957371 h_957371 → rf_G [56] h h_957371 → rf_W [] m m_957371 → sf_B 0 43200 x1_957371 → (43200 - x1_957371.toInt).toNat = N → pm_R (d + 3) 224 2 [.ref 41, .int x1_957371, pm_no, pm_no, pm_no] [] h_957371 Q := by
    intro N
    induction N using Nat.strongRecOn with
    | ind N ih_957371 =>
      intro h_957371 m_957371 w_957371 x1_957371 T_957371 F_957371 W_957371 Bx1_957371 hN_957371
      have W957374 : rf_W [] m m_957371 := (rf_W.refl [] m).trans W_957371 (by decide)
      refine pm_R_lo pm_M224 (pc' := 3) rfl rfl rfl ?_
      refine pm_R_lo pm_M224 (pc' := 4) rfl rfl rfl ?_
      refine rf_R_get pm_M224 T_957371 (pc' := 7) (v := .ref 56) rfl rfl rfl rfl ?_
      obtain ⟨f957375, e957376⟩ := T_957371.2.2.2.1 56 (by decide) (by decide)
      refine pm_R_alen pm_M224 (pc' := 8) (v := 43200) rfl e957376 (by decide) (Nat.lt_of_lt_of_le (by decide) T_957371.1) (by decide) rfl rfl ?_
      refine pm_R_icmp pm_M224 (t := 24) (pc' := 11) rfl rfl rfl (fun c957378 => ?_) (fun c957378 => ?_)
      · have B957379 : sf_B 43200 43200 x1_957371 := sf_leR c957378 sf_k43200 Bx1_957371
        refine pm_R_op pm_M224 (pc' := 25) (st' := [.int 0]) rfl rfl rfl ?_
        refine pm_R_lo pm_M224 (pc' := 26) (ls' := [.ref 41, .int 0, pm_no, pm_no, pm_no]) (st' := []) rfl rfl rfl ?_
        have L_1449649 : ∀ (N : Nat) (h_1449649 : pm_H) (m_1449649 : Nat → Int32) (w_1449649 : Int64) (x1_1449649 : Int32) (g2_1449649 : Value), rf_T m_1449649 w_1449649 h_1449649 → rf_G [56] h h_1449649 → rf_W [] m_957371 m_1449649 → sf_B 0 12 x1_1449649 → g2_1449649.category = 1 → (12 - x1_1449649.toInt).toNat = N → pm_R (d + 3) 224 26 [.ref 41, .int x1_1449649, g2_1449649, pm_no, pm_no] [] h_1449649 Q := by
          intro N
          induction N using Nat.strongRecOn with
          | ind N ih_1449649 =>
            intro h_1449649 m_1449649 w_1449649 x1_1449649 g2_1449649 T_1449649 F_1449649 W_1449649 Bx1_1449649 Cg2_1449649 hN_1449649
            have W1449652 : rf_W [] m m_1449649 := W957374.trans W_1449649 (by decide)
            have W1449653 : rf_W [] m m_1449649 := W_957371.trans W_1449649 (by decide)
            refine pm_R_lo pm_M224 (pc' := 27) rfl rfl rfl ?_
            refine pm_R_lo pm_M224 (pc' := 28) rfl rfl rfl ?_
            have B1449654 : sf_B 0 12 (m_1449649 24) := T_1449649.2.2.1 24
            refine rf_R_get pm_M224 T_1449649 (pc' := 31) (v := .int (m_1449649 24)) rfl rfl rfl rfl ?_
            refine pm_R_icmp pm_M224 (t := 95) (pc' := 34) rfl rfl rfl (fun c1449655 => ?_) (fun c1449655 => ?_)
            · skip
              refine pm_R_op pm_M224 (pc' := 96) (st' := [.int 1]) rfl rfl rfl ?_
              refine pm_R_lo pm_M224 (pc' := 97) (ls' := [.ref 41, .int 1, g2_1449649, pm_no, pm_no]) (st' := []) rfl rfl rfl ?_
              have L_1589565 : ∀ (N : Nat) (h_1589565 : pm_H) (m_1589565 : Nat → Int32) (w_1589565 : Int64) (x1_1589565 : Int32) (g2_1589565 : Value) (g3_1589565 : Value) (g4_1589565 : Value), rf_T m_1589565 w_1589565 h_1589565 → rf_G [56] h h_1589565 → rf_W [] m_1449649 m_1589565 → sf_B 1 12 x1_1589565 → g2_1589565.category = 1 → g3_1589565.category = 1 → g4_1589565.category = 1 → (12 - x1_1589565.toInt).toNat = N → pm_R (d + 3) 224 97 [.ref 41, .int x1_1589565, g2_1589565, g3_1589565, g4_1589565] [] h_1589565 Q := by
                intro N
                induction N using Nat.strongRecOn with
                | ind N ih_1589565 =>
                  intro h_1589565 m_1589565 w_1589565 x1_1589565 g2_1589565 g3_1589565 g4_1589565 T_1589565 F_1589565 W_1589565 Bx1_1589565 Cg2_1589565 Cg3_1589565 Cg4_1589565 hN_1589565
                  have W1589568 : rf_W [] m m_1589565 := W1449652.trans W_1589565 (by decide)
                  have W1589569 : rf_W [] m m_1589565 := W1449653.trans W_1589565 (by decide)
                  have W1589570 : rf_W [] m_957371 m_1589565 := W_1449649.trans W_1589565 (by decide)
                  refine pm_R_lo pm_M224 (pc' := 98) rfl rfl rfl ?_
                  refine pm_R_lo pm_M224 (pc' := 99) rfl rfl rfl ?_
                  have B1589571 : sf_B 0 12 (m_1589565 24) := T_1589565.2.2.1 24
                  refine rf_R_get pm_M224 T_1589565 (pc' := 102) (v := .int (m_1589565 24)) rfl rfl rfl rfl ?_
                  refine pm_R_icmp pm_M224 (t := 173) (pc' := 105) (pm_q224_1 (Nat.le_of_ble_eq_true rfl)) rfl rfl (fun c1589572 => ?_) (fun c1589572 => ?_)
                  · skip
                    exact pm_R_ret pm_M224 (r := none) (pm_q224_1 (Nat.le_of_ble_eq_true rfl)) rfl (K m_1589565 w_1589565 h_1589565 T_1589565 F_1589565 W1589568)
                  · have B1589573 : sf_B 1 11 x1_1589565 := sf_ltL (Int32.not_le.mp c1589572) Bx1_1589565 B1589571
                    have B1589574 : sf_B 2 12 (m_1589565 24) := sf_ltR (Int32.not_le.mp c1589572) Bx1_1589565 B1589571
                    refine pm_R_op pm_M224 (pc' := 106) (st' := [.int 0]) (pm_q224_1 (Nat.le_of_ble_eq_true rfl)) rfl rfl ?_
                    refine pm_R_lo pm_M224 (pc' := 107) (ls' := [.ref 41, .int x1_1589565, .int 0, g3_1589565, g4_1589565]) (st' := []) (pm_q224_1 (Nat.le_of_ble_eq_true rfl)) rfl rfl ?_
                    have L_1601289 : ∀ (N : Nat) (h_1601289 : pm_H) (m_1601289 : Nat → Int32) (w_1601289 : Int64) (x2_1601289 : Int32) (g3_1601289 : Value) (g4_1601289 : Value), rf_T m_1601289 w_1601289 h_1601289 → rf_G [56] h h_1601289 → rf_W [] m_1589565 m_1601289 → sf_B 0 11 x2_1601289 → g3_1601289.category = 1 → g4_1601289.category = 1 → (11 - x2_1601289.toInt).toNat = N → pm_R (d + 3) 224 107 [.ref 41, .int x1_1589565, .int x2_1601289, g3_1601289, g4_1601289] [] h_1601289 Q := by
                      intro N
                      induction N using Nat.strongRecOn with
                      | ind N ih_1601289 =>
                        intro h_1601289 m_1601289 w_1601289 x2_1601289 g3_1601289 g4_1601289 T_1601289 F_1601289 W_1601289 Bx2_1601289 Cg3_1601289 Cg4_1601289 hN_1601289
                        have B1601292 : sf_B 2 12 (m_1601289 24) := by rw [W_1601289 24 (by decide)]; exact B1589574
                        have W1601293 : rf_W [] m m_1601289 := W1589568.trans W_1601289 (by decide)
                        have W1601294 : rf_W [] m m_1601289 := W1589569.trans W_1601289 (by decide)
                        have W1601295 : rf_W [] m_957371 m_1601289 := W1589570.trans W_1601289 (by decide)
                        have W1601296 : rf_W [] m_1449649 m_1601289 := W_1589565.trans W_1601289 (by decide)
                        refine pm_R_lo pm_M224 (pc' := 108) (pm_q224_1 (Nat.le_of_ble_eq_true rfl)) rfl rfl ?_
                        refine pm_R_lo pm_M224 (pc' := 109) (pm_q224_1 (Nat.le_of_ble_eq_true rfl)) rfl rfl ?_
                        refine sf_R_iadd pm_M224 (pc' := 110) (pm_q224_1 (Nat.le_of_ble_eq_true rfl)) rfl Bx2_1601289 B1589573 (by decide) (by decide) (fun z1601297 e1601298 B1601299 => ?_)
                        refine pm_R_lo pm_M224 (pc' := 111) (pm_q224_1 (Nat.le_of_ble_eq_true rfl)) rfl rfl ?_
                        refine rf_R_get pm_M224 T_1601289 (pc' := 114) (v := .int (m_1601289 24)) (pm_q224_1 (Nat.le_of_ble_eq_true rfl)) rfl rfl rfl ?_
                        refine pm_R_icmp pm_M224 (t := 167) (pc' := 117) (pm_q224_1 (Nat.le_of_ble_eq_true rfl)) rfl rfl (fun c1601300 => ?_) (fun c1601300 => ?_)
                        · have B1601301 : sf_B 2 22 z1601297 := sf_leR c1601300 B1601292 B1601299
                          refine sf_R_iinc pm_M224 (pc' := 170) (ls' := fun z => [.ref 41, .int z, .int x2_1601289, g3_1601289, g4_1601289]) (pm_q224_1 (Nat.le_of_ble_eq_true rfl)) B1589573 rfl (by decide) (by decide) (by decide) (fun _ => rfl) rfl (fun z1601302 e1601303 B1601304 => ?_)
                          show pm_R _ 224 170 [.ref 41, .int z1601302, .int x2_1601289, g3_1601289, g4_1601289] [] _ _
                          refine pm_R_br pm_M224 (pc' := 97) (pm_q224_1 (Nat.le_of_ble_eq_true rfl)) rfl ?_
                          exact ih_1589565 _ (sf_up hN_1589565 e1601303 B1589573 (by decide) (by decide)) h_1601289 m_1601289 w_1601289 z1601302 (.int x2_1601289) (g3_1601289) (g4_1601289) T_1601289 F_1601289 W1601296 (sf_weak B1601304 (by decide) (by decide)) rfl Cg3_1601289 Cg4_1601289 rfl
                        · have B1601305 : sf_B 1 11 z1601297 := sf_ltL (Int32.not_le.mp c1601300) B1601299 B1601292
                          have B1601306 : sf_B 0 10 x2_1601289 := sf_addL e1601298 B1601305 B1589573 Bx2_1601289
                          refine pm_R_op pm_M224 (pc' := 118) (st' := [.int 0]) (pm_q224_1 (Nat.le_of_ble_eq_true rfl)) rfl rfl ?_
                          refine pm_R_lo pm_M224 (pc' := 119) (ls' := [.ref 41, .int x1_1589565, .int x2_1601289, .int 0, g4_1601289]) (st' := []) (pm_q224_1 (Nat.le_of_ble_eq_true rfl)) rfl rfl ?_
                          have L_1601947 : ∀ (N : Nat) (h_1601947 : pm_H) (m_1601947 : Nat → Int32) (w_1601947 : Int64) (x3_1601947 : Int32) (g4_1601947 : Value), rf_T m_1601947 w_1601947 h_1601947 → rf_G [56] h h_1601947 → rf_W [] m_1601289 m_1601947 → sf_B 0 10 x3_1601947 → g4_1601947.category = 1 → (10 - x3_1601947.toInt).toNat = N → pm_R (d + 3) 224 119 [.ref 41, .int x1_1589565, .int x2_1601289, .int x3_1601947, g4_1601947] [] h_1601947 Q := by
                            intro N
                            induction N using Nat.strongRecOn with
                            | ind N ih_1601947 =>
                              intro h_1601947 m_1601947 w_1601947 x3_1601947 g4_1601947 T_1601947 F_1601947 W_1601947 Bx3_1601947 Cg4_1601947 hN_1601947
                              have B1601950 : sf_B 2 12 (m_1601947 24) := by rw [W_1601947 24 (by decide)]; exact B1601292
                              have W1601951 : rf_W [] m m_1601947 := W1601293.trans W_1601947 (by decide)
                              have W1601952 : rf_W [] m m_1601947 := W1601294.trans W_1601947 (by decide)
                              have W1601953 : rf_W [] m_957371 m_1601947 := W1601295.trans W_1601947 (by decide)
                              have W1601954 : rf_W [] m_1449649 m_1601947 := W1601296.trans W_1601947 (by decide)
                              have W1601955 : rf_W [] m_1589565 m_1601947 := W_1601289.trans W_1601947 (by decide)
                              refine pm_R_lo pm_M224 (pc' := 120) (pm_q224_1 (Nat.le_of_ble_eq_true rfl)) rfl rfl ?_
                              refine pm_R_lo pm_M224 (pc' := 121) (pm_q224_1 (Nat.le_of_ble_eq_true rfl)) rfl rfl ?_
                              refine pm_R_cv pm_M224 (pc' := 124) (a := 41) (ra := []) (rest := [.int x3_1601947]) (ls' := [.ref 41]) (pm_q224_1 (Nat.le_of_ble_eq_true rfl)) rfl (Or.inl rfl) pm_M209 T_1601947.2.1 rfl (by decide) (Nat.lt_of_lt_of_le (by decide) T_1601947.1) rfl rfl (Nat.le_of_ble_eq_true rfl) rfl rfl ?_
                              refine pm_R_lo pm_M209 (pc' := 1) rfl rfl rfl ?_
                              refine rf_R_get pm_M209 T_1601947 (pc' := 4) (v := .ref 47) rfl rfl rfl rfl ?_
                              refine pm_R_op pm_M209 (pc' := 6) (st' := [.int 100, .ref 47]) rfl rfl rfl ?_
                              refine pm_R_lo pm_M209 (pc' := 7) rfl rfl rfl ?_
                              have B1601956 : sf_B 0 1 (m_1601947 23) := T_1601947.2.2.1 23
                              refine rf_R_get pm_M209 T_1601947 (pc' := 10) (v := .int (m_1601947 23)) rfl rfl rfl rfl ?_
                              refine sf_R_imul pm_M209 (pc' := 11) rfl rfl sf_k100 B1601956 (by decide) (by decide) (by decide) (fun z1601957 e1601958 B1601959 => ?_)
                              obtain ⟨f1601960, e1601961, b1601962⟩ := T_1601947.2.2.2.1 47 (by decide) (by decide)
                              refine rf_R_ild pm_M209 T_1601947 (pc' := 12) rfl e1601961 (by decide) (sf_in B1601959 (by decide) (by decide)) rfl (fun z1601963 ez1601964 => ?_)
                              have e1601965 : (z1601957).toInt = 100 * ((m_1601947 23)).toInt + 0 := by
                                have q0 := e1601958
                                simp only [(show (100 : Int32).toInt = 100 from rfl)] at q0
                                omega
                              have B1601966 : sf_B 0 10 z1601963 := ez1601964 ▸ rf_p47a b1601962 e1601965 B1601956 (by decide)
                              refine pm_R_ret pm_M209 (r := some (.int z1601963)) rfl (pm_ret_i _) ?_
                              show pm_R _ 224 124 [.ref 41, .int x1_1589565, .int x2_1601289, .int x3_1601947, g4_1601947] [.int z1601963, .int x3_1601947] _ _
                              refine pm_R_icmp pm_M224 (t := 161) (pc' := 127) (pm_q224_1 (Nat.le_of_ble_eq_true rfl)) rfl rfl (fun c1601967 => ?_) (fun c1601967 => ?_)
                              · skip
                                refine sf_R_iinc pm_M224 (pc' := 164) (ls' := fun z => [.ref 41, .int x1_1589565, .int z, .int x3_1601947, g4_1601947]) (pm_q224_1 (Nat.le_of_ble_eq_true rfl)) B1601306 rfl (by decide) (by decide) (by decide) (fun _ => rfl) rfl (fun z1601968 e1601969 B1601970 => ?_)
                                show pm_R _ 224 164 [.ref 41, .int x1_1589565, .int z1601968, .int x3_1601947, g4_1601947] [] _ _
                                refine pm_R_br pm_M224 (pc' := 107) (pm_q224_1 (Nat.le_of_ble_eq_true rfl)) rfl ?_
                                exact ih_1601289 _ (sf_up hN_1601289 e1601969 B1601306 (by decide) (by decide)) h_1601947 m_1601947 w_1601947 z1601968 (.int x3_1601947) (g4_1601947) T_1601947 F_1601947 W1601955 (sf_weak B1601970 (by decide) (by decide)) rfl Cg4_1601947 rfl
                              · have B1601971 : sf_B 0 9 x3_1601947 := sf_ltL (Int32.not_le.mp c1601967) Bx3_1601947 B1601966
                                have B1601972 : sf_B 1 10 z1601963 := sf_ltR (Int32.not_le.mp c1601967) Bx3_1601947 B1601966
                                refine pm_R_lo pm_M224 (pc' := 128) (pm_q224_1 (Nat.le_of_ble_eq_true rfl)) rfl rfl ?_
                                refine pm_R_lo pm_M224 (pc' := 130) (ls' := [.ref 41, .int x1_1589565, .int x2_1601289, .int x3_1601947, .int x2_1601289]) (st' := []) (pm_q224_1 (Nat.le_of_ble_eq_true rfl)) rfl rfl ?_
                                have L_1602083 : ∀ (N : Nat) (h_1602083 : pm_H) (m_1602083 : Nat → Int32) (w_1602083 : Int64) (x4_1602083 : Int32), rf_T m_1602083 w_1602083 h_1602083 → rf_G [56] h h_1602083 → rf_W [] m_1601947 m_1602083 → sf_B 0 11 x4_1602083 → (11 - x4_1602083.toInt).toNat = N → pm_R (d + 3) 224 130 [.ref 41, .int x1_1589565, .int x2_1601289, .int x3_1601947, .int x4_1602083] [] h_1602083 Q := by
                                  intro N
                                  induction N using Nat.strongRecOn with
                                  | ind N ih_1602083 =>
                                    intro h_1602083 m_1602083 w_1602083 x4_1602083 T_1602083 F_1602083 W_1602083 Bx4_1602083 hN_1602083
                                    have B1602086 : sf_B 2 12 (m_1602083 24) := by rw [W_1602083 24 (by decide)]; exact B1601950
                                    have W1602087 : rf_W [] m m_1602083 := W1601951.trans W_1602083 (by decide)
                                    have W1602088 : rf_W [] m m_1602083 := W1601952.trans W_1602083 (by decide)
                                    have W1602089 : rf_W [] m_957371 m_1602083 := W1601953.trans W_1602083 (by decide)
                                    have W1602090 : rf_W [] m_1449649 m_1602083 := W1601954.trans W_1602083 (by decide)
                                    have W1602091 : rf_W [] m_1589565 m_1602083 := W1601955.trans W_1602083 (by decide)
                                    have W1602092 : rf_W [] m_1601289 m_1602083 := W_1601947.trans W_1602083 (by decide)
                                    refine pm_R_lo pm_M224 (pc' := 132) (pm_q224_1 (Nat.le_of_ble_eq_true rfl)) rfl rfl ?_
                                    refine pm_R_lo pm_M224 (pc' := 133) (pm_q224_1 (Nat.le_of_ble_eq_true rfl)) rfl rfl ?_
                                    refine pm_R_lo pm_M224 (pc' := 134) (pm_q224_1 (Nat.le_of_ble_eq_true rfl)) rfl rfl ?_
                                    refine sf_R_iadd pm_M224 (pc' := 135) (pm_q224_1 (Nat.le_of_ble_eq_true rfl)) rfl B1601306 B1589573 (by decide) (by decide) (fun z1602093 e1602094 B1602095 => ?_)
                                    have B1602096 : sf_B 1 11 z1602093 := sf_same e1601298 e1602094 B1601305
                                    refine pm_R_icmp pm_M224 (t := 155) (pc' := 138) (pm_q224_1 (Nat.le_of_ble_eq_true rfl)) rfl rfl (fun c1602097 => ?_) (fun c1602097 => ?_)
                                    · have B1602098 : sf_B 1 11 x4_1602083 := sf_leR c1602097 B1602096 Bx4_1602083
                                      refine sf_R_iinc pm_M224 (pc' := 158) (ls' := fun z => [.ref 41, .int x1_1589565, .int x2_1601289, .int z, .int x4_1602083]) (pm_q224_1 (Nat.le_of_ble_eq_true rfl)) B1601971 rfl (by decide) (by decide) (by decide) (fun _ => rfl) rfl (fun z1602099 e1602100 B1602101 => ?_)
                                      show pm_R _ 224 158 [.ref 41, .int x1_1589565, .int x2_1601289, .int z1602099, .int x4_1602083] [] _ _
                                      refine pm_R_br pm_M224 (pc' := 119) (pm_q224_1 (Nat.le_of_ble_eq_true rfl)) rfl ?_
                                      exact ih_1601947 _ (sf_up hN_1601947 e1602100 B1601971 (by decide) (by decide)) h_1602083 m_1602083 w_1602083 z1602099 (.int x4_1602083) T_1602083 F_1602083 W1602092 (sf_weak B1602101 (by decide) (by decide)) rfl rfl
                                    · have B1602102 : sf_B 0 10 x4_1602083 := sf_ltL (Int32.not_le.mp c1602097) Bx4_1602083 B1602096
                                      refine pm_R_lo pm_M224 (pc' := 139) (pm_q224_1 (Nat.le_of_ble_eq_true rfl)) rfl rfl ?_
                                      refine pm_R_lo pm_M224 (pc' := 140) (pm_q224_1 (Nat.le_of_ble_eq_true rfl)) rfl rfl ?_
                                      refine pm_R_lo pm_M224 (pc' := 141) (pm_q224_1 (Nat.le_of_ble_eq_true rfl)) rfl rfl ?_
                                      refine pm_R_lo pm_M224 (pc' := 143) (pm_q224_1 (Nat.le_of_ble_eq_true rfl)) rfl rfl ?_
                                      refine pm_R_lo pm_M224 (pc' := 144) (pm_q224_1 (Nat.le_of_ble_eq_true rfl)) rfl rfl ?_
                                      refine pm_R_lo pm_M224 (pc' := 145) (pm_q224_1 (Nat.le_of_ble_eq_true rfl)) rfl rfl ?_
                                      refine sf_R_iadd pm_M224 (pc' := 146) (pm_q224_1 (Nat.le_of_ble_eq_true rfl)) rfl B1601306 B1589573 (by decide) (by decide) (fun z1602103 e1602104 B1602105 => ?_)
                                      have B1602106 : sf_B 1 11 z1602103 := sf_same e1602094 e1602104 B1602096
                                      refine pm_R_cv pm_M224 (pc' := 149) (a := 41) (ra := [.int z1602103, .int x4_1602083, .int x2_1601289, .int x3_1601947]) (rest := []) (ls' := [.ref 41, .int x3_1601947, .int x2_1601289, .int x4_1602083, .int z1602103, pm_no, pm_no, pm_no, pm_no, pm_no, pm_no, pm_no]) (pm_q224_1 (Nat.le_of_ble_eq_true rfl)) rfl (Or.inl rfl) pm_M226 T_1602083.2.1 rfl (by decide) (Nat.lt_of_lt_of_le (by decide) T_1602083.1) rfl rfl (Nat.le_of_ble_eq_true rfl) rfl rfl ?_
                                      refine rf_c226 (d := d + 0) T_1602083 B1601971 (sf_weak B1601306 (by decide) (by decide)) B1602102 (sf_weak B1602106 (by decide) (by decide)) (fun m1602109 w1602110 h1602111 T1602112 F1602113 W1602114 => ?_)
                                      have F1602115 := F_1602083.trans F1602113 (by decide)
                                      have B1602116 : sf_B 2 12 (m1602109 24) := by rw [W1602114 24 (by decide)]; exact B1602086
                                      have W1602117 : rf_W [] m m1602109 := W1602087.trans W1602114 (by decide)
                                      have W1602118 : rf_W [] m m1602109 := W1602088.trans W1602114 (by decide)
                                      have W1602119 : rf_W [] m_957371 m1602109 := W1602089.trans W1602114 (by decide)
                                      have W1602120 : rf_W [] m_1449649 m1602109 := W1602090.trans W1602114 (by decide)
                                      have W1602121 : rf_W [] m_1589565 m1602109 := W1602091.trans W1602114 (by decide)
                                      have W1602122 : rf_W [] m_1601289 m1602109 := W1602092.trans W1602114 (by decide)
                                      have W1602123 : rf_W [] m_1601947 m1602109 := W_1602083.trans W1602114 (by decide)
                                      show pm_R _ 224 149 [.ref 41, .int x1_1589565, .int x2_1601289, .int x3_1601947, .int x4_1602083] [] _ _
                                      refine sf_R_iinc pm_M224 (pc' := 152) (ls' := fun z => [.ref 41, .int x1_1589565, .int x2_1601289, .int x3_1601947, .int z]) (pm_q224_1 (Nat.le_of_ble_eq_true rfl)) B1602102 rfl (by decide) (by decide) (by decide) (fun _ => rfl) rfl (fun z1602124 e1602125 B1602126 => ?_)
                                      show pm_R _ 224 152 [.ref 41, .int x1_1589565, .int x2_1601289, .int x3_1601947, .int z1602124] [] _ _
                                      refine pm_R_br pm_M224 (pc' := 130) (pm_q224_1 (Nat.le_of_ble_eq_true rfl)) rfl ?_
                                      exact ih_1602083 _ (sf_up hN_1602083 e1602125 B1602102 (by decide) (by decide)) h1602111 m1602109 w1602110 z1602124 T1602112 F1602115 W1602123 (sf_weak B1602126 (by decide) (by decide)) rfl
                                exact L_1602083 _ h_1601947 m_1601947 w_1601947 x2_1601289 T_1601947 F_1601947 (rf_W.refl _ _) (sf_weak B1601306 (by decide) (by decide)) rfl
                          exact L_1601947 _ h_1601289 m_1601289 w_1601289 0 (g4_1601289) T_1601289 F_1601289 (rf_W.refl _ _) (sf_weak sf_k0 (by decide) (by decide)) Cg4_1601289 rfl
                    exact L_1601289 _ h_1589565 m_1589565 w_1589565 0 (g3_1589565) (g4_1589565) T_1589565 F_1589565 (rf_W.refl _ _) (sf_weak sf_k0 (by decide) (by decide)) Cg3_1589565 Cg4_1589565 rfl
              exact L_1589565 _ h_1449649 m_1449649 w_1449649 1 (g2_1449649) (pm_no) (pm_no) T_1449649 F_1449649 (rf_W.refl _ _) (sf_weak sf_k1 (by decide) (by decide)) Cg2_1449649 rfl rfl rfl
            · have B1602127 : sf_B 0 11 x1_1449649 := sf_ltL (Int32.not_le.mp c1449655) Bx1_1449649 B1449654
              have B1602128 : sf_B 1 12 (m_1449649 24) := sf_ltR (Int32.not_le.mp c1449655) Bx1_1449649 B1449654
              refine pm_R_op pm_M224 (pc' := 35) (st' := [.int 0]) rfl rfl rfl ?_
              refine pm_R_lo pm_M224 (pc' := 36) (ls' := [.ref 41, .int x1_1449649, .int 0, pm_no, pm_no]) (st' := []) rfl rfl rfl ?_
              have L_1603075 : ∀ (N : Nat) (h_1603075 : pm_H) (m_1603075 : Nat → Int32) (w_1603075 : Int64) (x2_1603075 : Int32), rf_T m_1603075 w_1603075 h_1603075 → rf_G [56] h h_1603075 → rf_W [] m_1449649 m_1603075 → sf_B 0 16 x2_1603075 → (16 - x2_1603075.toInt).toNat = N → pm_R (d + 3) 224 36 [.ref 41, .int x1_1449649, .int x2_1603075, pm_no, pm_no] [] h_1603075 Q := by
                intro N
                induction N using Nat.strongRecOn with
                | ind N ih_1603075 =>
                  intro h_1603075 m_1603075 w_1603075 x2_1603075 T_1603075 F_1603075 W_1603075 Bx2_1603075 hN_1603075
                  have B1603078 : sf_B 1 12 (m_1603075 24) := by rw [W_1603075 24 (by decide)]; exact B1602128
                  have W1603079 : rf_W [] m m_1603075 := W1449652.trans W_1603075 (by decide)
                  have W1603080 : rf_W [] m m_1603075 := W1449653.trans W_1603075 (by decide)
                  have W1603081 : rf_W [] m_957371 m_1603075 := W_1449649.trans W_1603075 (by decide)
                  refine pm_R_lo pm_M224 (pc' := 37) rfl rfl rfl ?_
                  refine pm_R_lo pm_M224 (pc' := 38) rfl rfl rfl ?_
                  refine pm_R_cv pm_M224 (pc' := 41) (a := 41) (ra := []) (rest := [.int x2_1603075]) (ls' := [.ref 41]) rfl rfl (Or.inl rfl) pm_M203 T_1603075.2.1 rfl (by decide) (Nat.lt_of_lt_of_le (by decide) T_1603075.1) rfl rfl (Nat.le_of_ble_eq_true rfl) rfl rfl ?_
                  refine pm_R_lo pm_M203 (pc' := 1) rfl rfl rfl ?_
                  refine rf_R_get pm_M203 T_1603075 (pc' := 4) (v := .ref 47) rfl rfl rfl rfl ?_
                  refine pm_R_op pm_M203 (pc' := 6) (st' := [.int 100, .ref 47]) rfl rfl rfl ?_
                  refine pm_R_lo pm_M203 (pc' := 7) rfl rfl rfl ?_
                  have B1603082 : sf_B 0 1 (m_1603075 23) := T_1603075.2.2.1 23
                  refine rf_R_get pm_M203 T_1603075 (pc' := 10) (v := .int (m_1603075 23)) rfl rfl rfl rfl ?_
                  refine sf_R_imul pm_M203 (pc' := 11) rfl rfl sf_k100 B1603082 (by decide) (by decide) (by decide) (fun z1603083 e1603084 B1603085 => ?_)
                  refine pm_R_op pm_M203 (pc' := 12) (st' := [.int 1, .int z1603083, .ref 47]) rfl rfl rfl ?_
                  refine sf_R_iadd pm_M203 (pc' := 13) rfl rfl B1603085 sf_k1 (by decide) (by decide) (fun z1603086 e1603087 B1603088 => ?_)
                  obtain ⟨f1603089, e1603090, b1603091⟩ := T_1603075.2.2.2.1 47 (by decide) (by decide)
                  refine rf_R_ild pm_M203 T_1603075 (pc' := 14) rfl e1603090 (by decide) (sf_in B1603088 (by decide) (by decide)) rfl (fun z1603092 ez1603093 => ?_)
                  have e1603094 : (z1603086).toInt = 100 * ((m_1603075 23)).toInt + 1 := by
                    have q0 := e1603084
                    have q1 := e1603087
                    simp only [(show (1 : Int32).toInt = 1 from rfl), (show (100 : Int32).toInt = 100 from rfl)] at q0 q1
                    omega
                  have B1603095 : sf_B 0 16 z1603092 := ez1603093 ▸ rf_p47b b1603091 e1603094 B1603082 (by decide)
                  refine pm_R_ret pm_M203 (r := some (.int z1603092)) rfl (pm_ret_i _) ?_
                  show pm_R _ 224 41 [.ref 41, .int x1_1449649, .int x2_1603075, pm_no, pm_no] [.int z1603092, .int x2_1603075] _ _
                  refine pm_R_icmp pm_M224 (t := 89) (pc' := 44) rfl rfl rfl (fun c1603096 => ?_) (fun c1603096 => ?_)
                  · skip
                    refine sf_R_iinc pm_M224 (pc' := 92) (ls' := fun z => [.ref 41, .int z, .int x2_1603075, pm_no, pm_no]) rfl B1602127 rfl (by decide) (by decide) (by decide) (fun _ => rfl) rfl (fun z1603097 e1603098 B1603099 => ?_)
                    show pm_R _ 224 92 [.ref 41, .int z1603097, .int x2_1603075, pm_no, pm_no] [] _ _
                    refine pm_R_br pm_M224 (pc' := 26) rfl rfl ?_
                    exact ih_1449649 _ (sf_up hN_1449649 e1603098 B1602127 (by decide) (by decide)) h_1603075 m_1603075 w_1603075 z1603097 (.int x2_1603075) T_1603075 F_1603075 W1603081 (sf_weak B1603099 (by decide) (by decide)) rfl rfl
                  · have B1603100 : sf_B 0 15 x2_1603075 := sf_ltL (Int32.not_le.mp c1603096) Bx2_1603075 B1603095
                    have B1603101 : sf_B 1 16 z1603092 := sf_ltR (Int32.not_le.mp c1603096) Bx2_1603075 B1603095
                    refine pm_R_lo pm_M224 (pc' := 45) rfl rfl rfl ?_
                    refine rf_R_get pm_M224 T_1603075 (pc' := 48) (v := .ref 56) rfl rfl rfl rfl ?_
                    refine pm_R_lo pm_M224 (pc' := 49) rfl rfl rfl ?_
                    refine pm_R_lo pm_M224 (pc' := 50) rfl rfl rfl ?_
                    refine pm_R_op pm_M224 (pc' := 51) (st' := [.int 1, .int x2_1603075, .ref 41, .ref 56]) rfl rfl rfl ?_
                    refine pm_R_cv pm_M224 (pc' := 54) (a := 41) (ra := [.int 1, .int x2_1603075]) (rest := [.ref 56]) (ls' := [.ref 41, .int x2_1603075, .int 1]) rfl rfl (Or.inl rfl) pm_M205 T_1603075.2.1 rfl (by decide) (Nat.lt_of_lt_of_le (by decide) T_1603075.1) rfl rfl (Nat.le_of_ble_eq_true rfl) rfl rfl ?_
                    refine pm_R_lo pm_M205 (pc' := 1) rfl rfl rfl ?_
                    refine rf_R_get pm_M205 T_1603075 (pc' := 4) (v := .ref 47) rfl rfl rfl rfl ?_
                    refine pm_R_op pm_M205 (pc' := 6) (st' := [.int 100, .ref 47]) rfl rfl rfl ?_
                    refine pm_R_lo pm_M205 (pc' := 7) rfl rfl rfl ?_
                    refine rf_R_get pm_M205 T_1603075 (pc' := 10) (v := .int (m_1603075 23)) rfl rfl rfl rfl ?_
                    refine sf_R_imul pm_M205 (pc' := 11) rfl rfl sf_k100 B1603082 (by decide) (by decide) (by decide) (fun z1603102 e1603103 B1603104 => ?_)
                    refine pm_R_op pm_M205 (pc' := 13) (st' := [.int 42, .int z1603102, .ref 47]) rfl rfl rfl ?_
                    refine sf_R_iadd pm_M205 (pc' := 14) rfl rfl B1603104 sf_k42 (by decide) (by decide) (fun z1603105 e1603106 B1603107 => ?_)
                    refine pm_R_op pm_M205 (pc' := 15) (st' := [.int 3, .int z1603105, .ref 47]) rfl rfl rfl ?_
                    refine pm_R_lo pm_M205 (pc' := 16) rfl rfl rfl ?_
                    refine sf_R_imul pm_M205 (pc' := 17) rfl rfl sf_k3 B1603100 (by decide) (by decide) (by decide) (fun z1603108 e1603109 B1603110 => ?_)
                    refine sf_R_iadd pm_M205 (pc' := 18) rfl rfl B1603107 B1603110 (by decide) (by decide) (fun z1603111 e1603112 B1603113 => ?_)
                    refine pm_R_lo pm_M205 (pc' := 19) rfl rfl rfl ?_
                    refine sf_R_iadd pm_M205 (pc' := 20) rfl rfl B1603113 sf_k1 (by decide) (by decide) (fun z1603114 e1603115 B1603116 => ?_)
                    refine rf_R_ild pm_M205 T_1603075 (pc' := 21) rfl e1603090 (by decide) (sf_in B1603116 (by decide) (by decide)) rfl (fun z1603117 ez1603118 => ?_)
                    have e1603119 : (z1603114).toInt = 100 * ((m_1603075 23)).toInt + 3 * (x2_1603075).toInt + 43 := by
                      have q0 := e1603103
                      have q1 := e1603106
                      have q2 := e1603109
                      have q3 := e1603112
                      have q4 := e1603115
                      simp only [(show (1 : Int32).toInt = 1 from rfl), (show (3 : Int32).toInt = 3 from rfl), (show (42 : Int32).toInt = 42 from rfl), (show (100 : Int32).toInt = 100 from rfl)] at q0 q1 q2 q3 q4
                      omega
                    have B1603120 : sf_B 0 5 z1603117 := ez1603118 ▸ rf_p47k b1603091 e1603119 B1603082 B1603100 (by decide) (by decide) (by decide)
                    refine pm_R_ret pm_M205 (r := some (.int z1603117)) rfl (pm_ret_i _) ?_
                    show pm_R _ 224 54 [.ref 41, .int x1_1449649, .int x2_1603075, pm_no, pm_no] [.int z1603117, .ref 56] _ _
                    refine pm_R_lo pm_M224 (pc' := 55) rfl rfl rfl ?_
                    refine pm_R_lo pm_M224 (pc' := 56) rfl rfl rfl ?_
                    refine pm_R_lo pm_M224 (pc' := 57) rfl rfl rfl ?_
                    refine pm_R_lo pm_M224 (pc' := 58) rfl rfl rfl ?_
                    refine pm_R_op pm_M224 (pc' := 59) (st' := [.int 2, .int x2_1603075, .ref 41, .int x1_1449649, .int x1_1449649, .int z1603117, .ref 56]) rfl rfl rfl ?_
                    refine pm_R_cv pm_M224 (pc' := 62) (a := 41) (ra := [.int 2, .int x2_1603075]) (rest := [.int x1_1449649, .int x1_1449649, .int z1603117, .ref 56]) (ls' := [.ref 41, .int x2_1603075, .int 2]) rfl rfl (Or.inl rfl) pm_M205 T_1603075.2.1 rfl (by decide) (Nat.lt_of_lt_of_le (by decide) T_1603075.1) rfl rfl (Nat.le_of_ble_eq_true rfl) rfl rfl ?_
                    refine pm_R_lo pm_M205 (pc' := 1) rfl rfl rfl ?_
                    refine rf_R_get pm_M205 T_1603075 (pc' := 4) (v := .ref 47) rfl rfl rfl rfl ?_
                    refine pm_R_op pm_M205 (pc' := 6) (st' := [.int 100, .ref 47]) rfl rfl rfl ?_
                    refine pm_R_lo pm_M205 (pc' := 7) rfl rfl rfl ?_
                    refine rf_R_get pm_M205 T_1603075 (pc' := 10) (v := .int (m_1603075 23)) rfl rfl rfl rfl ?_
                    refine sf_R_imul pm_M205 (pc' := 11) rfl rfl sf_k100 B1603082 (by decide) (by decide) (by decide) (fun z1603121 e1603122 B1603123 => ?_)
                    refine pm_R_op pm_M205 (pc' := 13) (st' := [.int 42, .int z1603121, .ref 47]) rfl rfl rfl ?_
                    refine sf_R_iadd pm_M205 (pc' := 14) rfl rfl B1603123 sf_k42 (by decide) (by decide) (fun z1603124 e1603125 B1603126 => ?_)
                    refine pm_R_op pm_M205 (pc' := 15) (st' := [.int 3, .int z1603124, .ref 47]) rfl rfl rfl ?_
                    refine pm_R_lo pm_M205 (pc' := 16) rfl rfl rfl ?_
                    refine sf_R_imul pm_M205 (pc' := 17) rfl rfl sf_k3 B1603100 (by decide) (by decide) (by decide) (fun z1603127 e1603128 B1603129 => ?_)
                    refine sf_R_iadd pm_M205 (pc' := 18) rfl rfl B1603126 B1603129 (by decide) (by decide) (fun z1603130 e1603131 B1603132 => ?_)
                    refine pm_R_lo pm_M205 (pc' := 19) rfl rfl rfl ?_
                    refine sf_R_iadd pm_M205 (pc' := 20) rfl rfl B1603132 sf_k2 (by decide) (by decide) (fun z1603133 e1603134 B1603135 => ?_)
                    refine rf_R_ild pm_M205 T_1603075 (pc' := 21) rfl e1603090 (by decide) (sf_in B1603135 (by decide) (by decide)) rfl (fun z1603136 ez1603137 => ?_)
                    have e1603138 : (z1603133).toInt = 100 * ((m_1603075 23)).toInt + 3 * (x2_1603075).toInt + 44 := by
                      have q0 := e1603122
                      have q1 := e1603125
                      have q2 := e1603128
                      have q3 := e1603131
                      have q4 := e1603134
                      simp only [(show (2 : Int32).toInt = 2 from rfl), (show (3 : Int32).toInt = 3 from rfl), (show (42 : Int32).toInt = 42 from rfl), (show (100 : Int32).toInt = 100 from rfl)] at q0 q1 q2 q3 q4
                      omega
                    have B1603139 : sf_B 0 49 z1603136 := ez1603137 ▸ rf_p47v b1603091 e1603138 B1603082 B1603100 (by decide) (by decide) (by decide)
                    refine pm_R_ret pm_M205 (r := some (.int z1603136)) rfl (pm_ret_i _) ?_
                    show pm_R _ 224 62 [.ref 41, .int x1_1449649, .int x2_1603075, pm_no, pm_no] [.int z1603136, .int x1_1449649, .int x1_1449649, .int z1603117, .ref 56] _ _
                    refine pm_R_cs pm_M224 (pc' := 65) (ra := [.int z1603136, .int x1_1449649, .int x1_1449649, .int z1603117]) (rest := [.ref 56]) (ls' := [.int z1603117, .int x1_1449649, .int x1_1449649, .int z1603136]) rfl rfl (Or.inl rfl) pm_M225 rfl rfl (Nat.le_of_ble_eq_true rfl) rfl rfl ?_
                    refine pm_R_op pm_M225 (pc' := 2) (st' := [.int 50]) rfl rfl rfl ?_
                    refine pm_R_lo pm_M225 (pc' := 3) rfl rfl rfl ?_
                    refine pm_R_lo pm_M225 (pc' := 4) rfl rfl rfl ?_
                    refine pm_R_lo pm_M225 (pc' := 5) rfl rfl rfl ?_
                    refine pm_R_cs pm_M225 (pc' := 8) (ra := [.int x1_1449649, .int x1_1449649, .int z1603117]) (rest := [.int 50]) (ls' := [.int z1603117, .int x1_1449649, .int x1_1449649]) rfl rfl (Or.inl rfl) pm_M207 rfl rfl (Nat.le_of_ble_eq_true rfl) rfl rfl ?_
                    refine pm_R_op pm_M207 (pc' := 3) (st' := [.int 144]) rfl rfl rfl ?_
                    refine pm_R_lo pm_M207 (pc' := 4) rfl rfl rfl ?_
                    refine sf_R_imul pm_M207 (pc' := 5) rfl rfl sf_k144 B1603120 (by decide) (by decide) (by decide) (fun z1603140 e1603141 B1603142 => ?_)
                    refine pm_R_op pm_M207 (pc' := 7) (st' := [.int 12, .int z1603140]) rfl rfl rfl ?_
                    refine pm_R_lo pm_M207 (pc' := 8) rfl rfl rfl ?_
                    refine sf_R_imul pm_M207 (pc' := 9) rfl rfl sf_k12 B1602127 (by decide) (by decide) (by decide) (fun z1603143 e1603144 B1603145 => ?_)
                    refine sf_R_iadd pm_M207 (pc' := 10) rfl rfl B1603142 B1603145 (by decide) (by decide) (fun z1603146 e1603147 B1603148 => ?_)
                    refine pm_R_lo pm_M207 (pc' := 11) rfl rfl rfl ?_
                    refine sf_R_iadd pm_M207 (pc' := 12) rfl rfl B1603148 B1602127 (by decide) (by decide) (fun z1603149 e1603150 B1603151 => ?_)
                    refine pm_R_ret pm_M207 (r := some (.int z1603149)) rfl (pm_ret_i _) ?_
                    show pm_R _ 225 8 [.int z1603117, .int x1_1449649, .int x1_1449649, .int z1603136] [.int z1603149, .int 50] _ _
                    refine sf_R_imul pm_M225 (pc' := 9) rfl rfl sf_k50 B1603151 (by decide) (by decide) (by decide) (fun z1603152 e1603153 B1603154 => ?_)
                    refine pm_R_lo pm_M225 (pc' := 10) rfl rfl rfl ?_
                    refine sf_R_iadd pm_M225 (pc' := 11) rfl rfl B1603154 B1603139 (by decide) (by decide) (fun z1603155 e1603156 B1603157 => ?_)
                    refine pm_R_ret pm_M225 (r := some (.int z1603155)) rfl (pm_ret_i _) ?_
                    show pm_R _ 224 65 [.ref 41, .int x1_1449649, .int x2_1603075, pm_no, pm_no] [.int z1603155, .ref 56] _ _
                    refine pm_R_op pm_M224 (pc' := 66) (st' := [.int z1603155, .ref 56, .int z1603155, .ref 56]) rfl rfl rfl ?_
                    obtain ⟨f1603158, e1603159⟩ := T_1603075.2.2.2.1 56 (by decide) (by decide)
                    refine rf_R_lld pm_M224 T_1603075 (pc' := 67) rfl e1603159 (by decide) (by decide) (sf_in B1603157 (by decide) (by decide)) rfl (fun z1603161 ez1603162 => ?_)
                    refine pm_R_lo pm_M224 (pc' := 68) rfl rfl rfl ?_
                    refine pm_R_lo pm_M224 (pc' := 69) rfl rfl rfl ?_
                    refine pm_R_lo pm_M224 (pc' := 70) rfl rfl rfl ?_
                    refine pm_R_cv pm_M224 (pc' := 73) (a := 41) (ra := [.int x1_1449649, .int x2_1603075]) (rest := [.long z1603161, .int z1603155, .ref 56]) (ls' := [.ref 41, .int x2_1603075, .int x1_1449649]) rfl rfl (Or.inl rfl) pm_M204 T_1603075.2.1 rfl (by decide) (Nat.lt_of_lt_of_le (by decide) T_1603075.1) rfl rfl (Nat.le_of_ble_eq_true rfl) rfl rfl ?_
                    refine pm_R_lo pm_M204 (pc' := 1) rfl rfl rfl ?_
                    refine rf_R_get pm_M204 T_1603075 (pc' := 4) (v := .ref 53) rfl rfl rfl rfl ?_
                    refine pm_R_lo pm_M204 (pc' := 5) rfl rfl rfl ?_
                    obtain ⟨f1603163, e1603164⟩ := T_1603075.2.2.2.1 53 (by decide) (by decide)
                    refine rf_R_ild pm_M204 T_1603075 (pc' := 6) rfl e1603164 (by decide) (sf_in B1602127 (by decide) (by decide)) rfl (fun z1603166 ez1603167 => ?_)
                    refine sf_R_lany pm_M204 (pc' := 7) (st := []) rfl rfl rfl (fun z1603168 => ?_)
                    refine pm_R_lo pm_M204 (pc' := 8) rfl rfl rfl ?_
                    refine pm_R_lo pm_M204 (pc' := 9) rfl rfl rfl ?_
                    refine pm_R_op pm_M204 (pc' := 10) (st' := [.int 0, .int x2_1603075, .ref 41, .long z1603168]) rfl rfl rfl ?_
                    refine pm_R_cv pm_M204 (pc' := 13) (a := 41) (ra := [.int 0, .int x2_1603075]) (rest := [.long z1603168]) (ls' := [.ref 41, .int x2_1603075, .int 0]) rfl rfl (Or.inl rfl) pm_M205 T_1603075.2.1 rfl (by decide) (Nat.lt_of_lt_of_le (by decide) T_1603075.1) rfl rfl (Nat.le_of_ble_eq_true rfl) rfl rfl ?_
                    refine pm_R_lo pm_M205 (pc' := 1) rfl rfl rfl ?_
                    refine rf_R_get pm_M205 T_1603075 (pc' := 4) (v := .ref 47) rfl rfl rfl rfl ?_
                    refine pm_R_op pm_M205 (pc' := 6) (st' := [.int 100, .ref 47]) rfl rfl rfl ?_
                    refine pm_R_lo pm_M205 (pc' := 7) rfl rfl rfl ?_
                    refine rf_R_get pm_M205 T_1603075 (pc' := 10) (v := .int (m_1603075 23)) rfl rfl rfl rfl ?_
                    refine sf_R_imul pm_M205 (pc' := 11) rfl rfl sf_k100 B1603082 (by decide) (by decide) (by decide) (fun z1603169 e1603170 B1603171 => ?_)
                    refine pm_R_op pm_M205 (pc' := 13) (st' := [.int 42, .int z1603169, .ref 47]) rfl rfl rfl ?_
                    refine sf_R_iadd pm_M205 (pc' := 14) rfl rfl B1603171 sf_k42 (by decide) (by decide) (fun z1603172 e1603173 B1603174 => ?_)
                    refine pm_R_op pm_M205 (pc' := 15) (st' := [.int 3, .int z1603172, .ref 47]) rfl rfl rfl ?_
                    refine pm_R_lo pm_M205 (pc' := 16) rfl rfl rfl ?_
                    refine sf_R_imul pm_M205 (pc' := 17) rfl rfl sf_k3 B1603100 (by decide) (by decide) (by decide) (fun z1603175 e1603176 B1603177 => ?_)
                    refine sf_R_iadd pm_M205 (pc' := 18) rfl rfl B1603174 B1603177 (by decide) (by decide) (fun z1603178 e1603179 B1603180 => ?_)
                    refine pm_R_lo pm_M205 (pc' := 19) rfl rfl rfl ?_
                    refine sf_R_iadd pm_M205 (pc' := 20) rfl rfl B1603180 sf_k0 (by decide) (by decide) (fun z1603181 e1603182 B1603183 => ?_)
                    refine rf_R_ild pm_M205 T_1603075 (pc' := 21) rfl e1603090 (by decide) (sf_in B1603183 (by decide) (by decide)) rfl (fun z1603184 ez1603185 => ?_)
                    have e1603186 : (z1603181).toInt = 100 * ((m_1603075 23)).toInt + 3 * (x2_1603075).toInt + 42 := by
                      have q0 := e1603170
                      have q1 := e1603173
                      have q2 := e1603176
                      have q3 := e1603179
                      have q4 := e1603182
                      simp only [(show (0 : Int32).toInt = 0 from rfl), (show (3 : Int32).toInt = 3 from rfl), (show (42 : Int32).toInt = 42 from rfl), (show (100 : Int32).toInt = 100 from rfl)] at q0 q1 q2 q3 q4
                      omega
                    have B1603187 : sf_B 0 9 z1603184 := ez1603185 ▸ rf_p47s b1603091 e1603186 B1603082 B1603100 (by decide) (by decide) (by decide)
                    refine pm_R_ret pm_M205 (r := some (.int z1603184)) rfl (pm_ret_i _) ?_
                    show pm_R _ 204 13 [.ref 41, .int x2_1603075, .int x1_1449649] [.int z1603184, .long z1603168] _ _
                    refine pm_R_cs pm_M204 (pc' := 16) (ra := [.int z1603184, .long z1603168]) (rest := []) (ls' := [.long z1603168, pm_no, .int z1603184]) rfl rfl (Or.inl rfl) pm_M206 rfl rfl (Nat.le_of_ble_eq_true rfl) rfl rfl ?_
                    refine pm_R_lo pm_M206 (pc' := 1) rfl rfl rfl ?_
                    refine pm_R_lo pm_M206 (pc' := 2) rfl rfl rfl ?_
                    refine sf_R_lany pm_M206 (pc' := 3) (st := []) rfl rfl rfl (fun z1603188 => ?_)
                    refine pm_R_op pm_M206 (pc' := 4) (st' := [.long 1, .long z1603188]) rfl rfl rfl ?_
                    refine sf_R_lany pm_M206 (pc' := 5) (st := []) rfl rfl rfl (fun z1603189 => ?_)
                    refine pm_R_op pm_M206 (pc' := 6) (st' := [.long 1, .long z1603189]) rfl rfl rfl ?_
                    refine sf_R_lcmp pm_M206 (pc' := 7) rfl rfl (fun z1603190 e1603191 => ?_)
                    refine pm_R_ifc pm_M206 (t := 14) (pc' := 10) rfl rfl rfl (fun c1603192 => ?_) (fun c1603192 => ?_)
                    · have k1603193 := sf_lneC e1603191 c1603192
                      refine pm_R_op pm_M206 (pc' := 15) (st' := [.int 0]) rfl rfl rfl ?_
                      refine pm_R_ret pm_M206 (r := some (.int 0)) rfl rfl ?_
                      show pm_R _ 204 16 [.ref 41, .int x2_1603075, .int x1_1449649] [.int 0] _ _
                      refine pm_R_br pm_M204 (pc' := 39) (st' := []) rfl rfl ?_
                      refine pm_R_op pm_M204 (pc' := 40) (st' := [.int 0]) rfl rfl rfl ?_
                      refine pm_R_ret pm_M204 (r := some (.int 0)) rfl rfl ?_
                      show pm_R _ 224 73 [.ref 41, .int x1_1449649, .int x2_1603075, pm_no, pm_no] [.int 0, .long z1603161, .int z1603155, .ref 56] _ _
                      refine pm_R_br pm_M224 (pc' := 80) (st' := [.long z1603161, .int z1603155, .ref 56]) rfl rfl ?_
                      refine pm_R_op pm_M224 (pc' := 81) (st' := [.long 0, .long z1603161, .int z1603155, .ref 56]) rfl rfl rfl ?_
                      refine sf_R_lany pm_M224 (pc' := 82) (st := [.int z1603155, .ref 56]) rfl rfl rfl (fun z1603194 => ?_)
                      refine rf_R_lst pm_M224 T_1603075 (pc' := 83) rfl e1603159 (by decide) (by decide) (sf_in B1603157 (by decide) (by decide)) ⟨_, rfl⟩ rfl (fun h1603195 T1603196 F1603197 e1603198 => ?_)
                      have F1603199 := F_1603075.trans F1603197 (by decide)
                      refine sf_R_iinc pm_M224 (pc' := 86) (ls' := fun z => [.ref 41, .int x1_1449649, .int z, pm_no, pm_no]) rfl B1603100 rfl (by decide) (by decide) (by decide) (fun _ => rfl) rfl (fun z1603200 e1603201 B1603202 => ?_)
                      show pm_R _ 224 86 [.ref 41, .int x1_1449649, .int z1603200, pm_no, pm_no] [] _ _
                      refine pm_R_br pm_M224 (pc' := 36) rfl rfl ?_
                      exact ih_1603075 _ (sf_up hN_1603075 e1603201 B1603100 (by decide) (by decide)) h1603195 m_1603075 w_1603075 z1603200 T1603196 F1603199 W_1603075 (sf_weak B1603202 (by decide) (by decide)) rfl
                    · have B1603203 : sf_B 0 0 z1603190 := sf_eqL (Classical.not_not.mp c1603192) sf_k0
                      refine pm_R_op pm_M206 (pc' := 11) (st' := [.int 1]) rfl rfl rfl ?_
                      refine pm_R_br pm_M206 (pc' := 15) rfl rfl ?_
                      refine pm_R_ret pm_M206 (r := some (.int 1)) rfl rfl ?_
                      show pm_R _ 204 16 [.ref 41, .int x2_1603075, .int x1_1449649] [.int 1] _ _
                      refine pm_R_br pm_M204 (pc' := 19) (st' := []) rfl rfl ?_
                      refine pm_R_lo pm_M204 (pc' := 20) rfl rfl rfl ?_
                      have B1603204 : sf_B (-1) 11 (m_1603075 26) := T_1603075.2.2.1 26
                      refine rf_R_get pm_M204 T_1603075 (pc' := 23) (v := .int (m_1603075 26)) rfl rfl rfl rfl ?_
                      refine pm_R_lo pm_M204 (pc' := 24) rfl rfl rfl ?_
                      refine pm_R_icmp pm_M204 (t := 35) (pc' := 27) rfl rfl rfl (fun c1603205 => ?_) (fun c1603205 => ?_)
                      · skip
                        refine pm_R_op pm_M204 (pc' := 36) (st' := [.int 1]) rfl rfl rfl ?_
                        refine pm_R_br pm_M204 (pc' := 40) rfl rfl ?_
                        refine pm_R_ret pm_M204 (r := some (.int 1)) rfl rfl ?_
                        show pm_R _ 224 73 [.ref 41, .int x1_1449649, .int x2_1603075, pm_no, pm_no] [.int 1, .long z1603161, .int z1603155, .ref 56] _ _
                        refine pm_R_br pm_M224 (pc' := 76) (st' := [.long z1603161, .int z1603155, .ref 56]) rfl rfl ?_
                        refine pm_R_op pm_M224 (pc' := 77) (st' := [.long 1, .long z1603161, .int z1603155, .ref 56]) rfl rfl rfl ?_
                        refine pm_R_br pm_M224 (pc' := 81) rfl rfl ?_
                        refine sf_R_lany pm_M224 (pc' := 82) (st := [.int z1603155, .ref 56]) rfl rfl rfl (fun z1603206 => ?_)
                        refine rf_R_lst pm_M224 T_1603075 (pc' := 83) rfl e1603159 (by decide) (by decide) (sf_in B1603157 (by decide) (by decide)) ⟨_, rfl⟩ rfl (fun h1603207 T1603208 F1603209 e1603210 => ?_)
                        have F1603211 := F_1603075.trans F1603209 (by decide)
                        refine sf_R_iinc pm_M224 (pc' := 86) (ls' := fun z => [.ref 41, .int x1_1449649, .int z, pm_no, pm_no]) rfl B1603100 rfl (by decide) (by decide) (by decide) (fun _ => rfl) rfl (fun z1603212 e1603213 B1603214 => ?_)
                        show pm_R _ 224 86 [.ref 41, .int x1_1449649, .int z1603212, pm_no, pm_no] [] _ _
                        refine pm_R_br pm_M224 (pc' := 36) rfl rfl ?_
                        exact ih_1603075 _ (sf_up hN_1603075 e1603213 B1603100 (by decide) (by decide)) h1603207 m_1603075 w_1603075 z1603212 T1603208 F1603211 W_1603075 (sf_weak B1603214 (by decide) (by decide)) rfl
                      · have B1603215 : sf_B 0 11 (m_1603075 26) := sf_eqL (Classical.not_not.mp c1603205) B1602127
                        refine pm_R_lo pm_M204 (pc' := 28) rfl rfl rfl ?_
                        have B1603216 : sf_B 0 15 (m_1603075 27) := T_1603075.2.2.1 27
                        refine rf_R_get pm_M204 T_1603075 (pc' := 31) (v := .int (m_1603075 27)) rfl rfl rfl rfl ?_
                        refine pm_R_lo pm_M204 (pc' := 32) rfl rfl rfl ?_
                        refine pm_R_icmp pm_M204 (t := 39) (pc' := 35) rfl rfl rfl (fun c1603217 => ?_) (fun c1603217 => ?_)
                        · skip
                          refine pm_R_op pm_M204 (pc' := 40) (st' := [.int 0]) rfl rfl rfl ?_
                          refine pm_R_ret pm_M204 (r := some (.int 0)) rfl rfl ?_
                          show pm_R _ 224 73 [.ref 41, .int x1_1449649, .int x2_1603075, pm_no, pm_no] [.int 0, .long z1603161, .int z1603155, .ref 56] _ _
                          refine pm_R_br pm_M224 (pc' := 80) (st' := [.long z1603161, .int z1603155, .ref 56]) rfl rfl ?_
                          refine pm_R_op pm_M224 (pc' := 81) (st' := [.long 0, .long z1603161, .int z1603155, .ref 56]) rfl rfl rfl ?_
                          refine sf_R_lany pm_M224 (pc' := 82) (st := [.int z1603155, .ref 56]) rfl rfl rfl (fun z1603218 => ?_)
                          refine rf_R_lst pm_M224 T_1603075 (pc' := 83) rfl e1603159 (by decide) (by decide) (sf_in B1603157 (by decide) (by decide)) ⟨_, rfl⟩ rfl (fun h1603219 T1603220 F1603221 e1603222 => ?_)
                          have F1603223 := F_1603075.trans F1603221 (by decide)
                          refine sf_R_iinc pm_M224 (pc' := 86) (ls' := fun z => [.ref 41, .int x1_1449649, .int z, pm_no, pm_no]) rfl B1603100 rfl (by decide) (by decide) (by decide) (fun _ => rfl) rfl (fun z1603224 e1603225 B1603226 => ?_)
                          show pm_R _ 224 86 [.ref 41, .int x1_1449649, .int z1603224, pm_no, pm_no] [] _ _
                          refine pm_R_br pm_M224 (pc' := 36) rfl rfl ?_
                          exact ih_1603075 _ (sf_up hN_1603075 e1603225 B1603100 (by decide) (by decide)) h1603219 m_1603075 w_1603075 z1603224 T1603220 F1603223 W_1603075 (sf_weak B1603226 (by decide) (by decide)) rfl
                        · refine pm_R_op pm_M204 (pc' := 36) (st' := [.int 1]) rfl rfl rfl ?_
                          refine pm_R_br pm_M204 (pc' := 40) rfl rfl ?_
                          refine pm_R_ret pm_M204 (r := some (.int 1)) rfl rfl ?_
                          show pm_R _ 224 73 [.ref 41, .int x1_1449649, .int x2_1603075, pm_no, pm_no] [.int 1, .long z1603161, .int z1603155, .ref 56] _ _
                          refine pm_R_br pm_M224 (pc' := 76) (st' := [.long z1603161, .int z1603155, .ref 56]) rfl rfl ?_
                          refine pm_R_op pm_M224 (pc' := 77) (st' := [.long 1, .long z1603161, .int z1603155, .ref 56]) rfl rfl rfl ?_
                          refine pm_R_br pm_M224 (pc' := 81) rfl rfl ?_
                          refine sf_R_lany pm_M224 (pc' := 82) (st := [.int z1603155, .ref 56]) rfl rfl rfl (fun z1603227 => ?_)
                          refine rf_R_lst pm_M224 T_1603075 (pc' := 83) rfl e1603159 (by decide) (by decide) (sf_in B1603157 (by decide) (by decide)) ⟨_, rfl⟩ rfl (fun h1603228 T1603229 F1603230 e1603231 => ?_)
                          have F1603232 := F_1603075.trans F1603230 (by decide)
                          refine sf_R_iinc pm_M224 (pc' := 86) (ls' := fun z => [.ref 41, .int x1_1449649, .int z, pm_no, pm_no]) rfl B1603100 rfl (by decide) (by decide) (by decide) (fun _ => rfl) rfl (fun z1603233 e1603234 B1603235 => ?_)
                          show pm_R _ 224 86 [.ref 41, .int x1_1449649, .int z1603233, pm_no, pm_no] [] _ _
                          refine pm_R_br pm_M224 (pc' := 36) rfl rfl ?_
                          exact ih_1603075 _ (sf_up hN_1603075 e1603234 B1603100 (by decide) (by decide)) h1603228 m_1603075 w_1603075 z1603233 T1603229 F1603232 W_1603075 (sf_weak B1603235 (by decide) (by decide)) rfl
              exact L_1603075 _ h_1449649 m_1449649 w_1449649 0 T_1449649 F_1449649 (rf_W.refl _ _) (sf_weak sf_k0 (by decide) (by decide)) rfl
        exact L_1449649 _ h_957371 m_957371 w_957371 0 (pm_no) T_957371 F_957371 (rf_W.refl _ _) (sf_weak sf_k0 (by decide) (by decide)) rfl rfl
      · have B1603236 : sf_B 0 43199 x1_957371 := sf_ltL (Int32.not_le.mp c957378) Bx1_957371 sf_k43200
        refine pm_R_lo pm_M224 (pc' := 12) rfl rfl rfl ?_
        refine rf_R_get pm_M224 T_957371 (pc' := 15) (v := .ref 56) rfl rfl rfl rfl ?_
        refine pm_R_lo pm_M224 (pc' := 16) rfl rfl rfl ?_
        refine pm_R_op pm_M224 (pc' := 17) (st' := [.long 0, .int x1_957371, .ref 56]) rfl rfl rfl ?_
        refine rf_R_lst pm_M224 T_957371 (pc' := 18) rfl e957376 (by decide) (by decide) (sf_in B1603236 (by decide) (by decide)) ⟨_, rfl⟩ rfl (fun h1603237 T1603238 F1603239 e1603240 => ?_)
        have F1603241 := F_957371.trans F1603239 (by decide)
        refine sf_R_iinc pm_M224 (pc' := 21) (ls' := fun z => [.ref 41, .int z, pm_no, pm_no, pm_no]) rfl B1603236 rfl (by decide) (by decide) (by decide) (fun _ => rfl) rfl (fun z1603242 e1603243 B1603244 => ?_)
        show pm_R _ 224 21 [.ref 41, .int z1603242, pm_no, pm_no, pm_no] [] _ _
        refine pm_R_br pm_M224 (pc' := 2) rfl rfl ?_
        exact ih_957371 _ (sf_up hN_957371 e1603243 B1603236 (by decide) (by decide)) h1603237 m_957371 w_957371 z1603242 T1603238 F1603241 W_957371 (sf_weak B1603244 (by decide) (by decide)) rfl
  exact L_957371 _ h m w 0 T (rf_G.refl [56] h) (rf_W.refl _ _) (sf_weak sf_k0 (by decide) (by decide)) rfl

set_option maxRecDepth 100000 in
set_option maxHeartbeats 4000000 in
/-- SilentTableModel.wear -/
theorem rf_c235 {d : Nat} {m : Nat → Int32} {w : Int64} {h : pm_H} {Q : Option Value → pm_H → Prop} {a0 : Int32} (T : rf_T m w h) (Ba0 : sf_B (-1) 9 a0) (K : ∀ (m' : Nat → Int32) (w' : Int64) (h' : pm_H), rf_T m' w' h' → rf_G [53] h h' → rf_W [] m m' → Q none h') : pm_R (d + 1) 235 0 [.ref 41, .int a0, pm_no, pm_no, pm_no, pm_no] [] h Q := by
  refine pm_R_op pm_M235 (pc' := 1) (st' := [.int 0]) rfl rfl rfl ?_
  refine pm_R_lo pm_M235 (pc' := 2) (ls' := [.ref 41, .int a0, .int 0, pm_no, pm_no, pm_no]) (st' := []) rfl rfl rfl ?_
  have L_6471 : ∀ (N : Nat) (h_6471 : pm_H) (m_6471 : Nat → Int32) (w_6471 : Int64) (x2_6471 : Int32) (g3_6471 : Value) (g4_6471 : Value) (g5_6471 : Value), rf_T m_6471 w_6471 h_6471 → rf_G [53] h h_6471 → rf_W [] m m_6471 → sf_B 0 9 x2_6471 → g3_6471.category = 1 → g4_6471.category = 1 → g5_6471.category = 1 → (9 - x2_6471.toInt).toNat = N → pm_R (d + 1) 235 2 [.ref 41, .int a0, .int x2_6471, g3_6471, g4_6471, g5_6471] [] h_6471 Q := by
    intro N
    induction N using Nat.strongRecOn with
    | ind N ih_6471 =>
      intro h_6471 m_6471 w_6471 x2_6471 g3_6471 g4_6471 g5_6471 T_6471 F_6471 W_6471 Bx2_6471 Cg3_6471 Cg4_6471 Cg5_6471 hN_6471
      have W6474 : rf_W [] m m_6471 := (rf_W.refl [] m).trans W_6471 (by decide)
      refine pm_R_lo pm_M235 (pc' := 3) rfl rfl rfl ?_
      refine pm_R_lo pm_M235 (pc' := 4) rfl rfl rfl ?_
      refine pm_R_icmp pm_M235 (t := 91) (pc' := 7) rfl rfl rfl (fun c6475 => ?_) (fun c6475 => ?_)
      · skip
        exact pm_R_ret pm_M235 (r := none) rfl rfl (K m_6471 w_6471 h_6471 T_6471 F_6471 W6474)
      · have B6476 : sf_B 0 8 x2_6471 := sf_ltL (Int32.not_le.mp c6475) Bx2_6471 Ba0
        have B6477 : sf_B 1 9 a0 := sf_ltR (Int32.not_le.mp c6475) Bx2_6471 Ba0
        refine pm_R_op pm_M235 (pc' := 8) (st' := [.int 0]) rfl rfl rfl ?_
        refine pm_R_lo pm_M235 (pc' := 9) (ls' := [.ref 41, .int a0, .int x2_6471, .int 0, g4_6471, g5_6471]) (st' := []) rfl rfl rfl ?_
        have L_7763 : ∀ (N : Nat) (h_7763 : pm_H) (m_7763 : Nat → Int32) (w_7763 : Int64) (x3_7763 : Int32) (g4_7763 : Value) (g5_7763 : Value), rf_T m_7763 w_7763 h_7763 → rf_G [53] h h_7763 → rf_W [] m_6471 m_7763 → sf_B 0 12 x3_7763 → g4_7763.category = 1 → g5_7763.category = 1 → (12 - x3_7763.toInt).toNat = N → pm_R (d + 1) 235 9 [.ref 41, .int a0, .int x2_6471, .int x3_7763, g4_7763, g5_7763] [] h_7763 Q := by
          intro N
          induction N using Nat.strongRecOn with
          | ind N ih_7763 =>
            intro h_7763 m_7763 w_7763 x3_7763 g4_7763 g5_7763 T_7763 F_7763 W_7763 Bx3_7763 Cg4_7763 Cg5_7763 hN_7763
            have W7766 : rf_W [] m m_7763 := W6474.trans W_7763 (by decide)
            have W7767 : rf_W [] m m_7763 := W_6471.trans W_7763 (by decide)
            refine pm_R_lo pm_M235 (pc' := 10) rfl rfl rfl ?_
            refine pm_R_lo pm_M235 (pc' := 11) rfl rfl rfl ?_
            have B7768 : sf_B 0 12 (m_7763 24) := T_7763.2.2.1 24
            refine rf_R_get pm_M235 T_7763 (pc' := 14) (v := .int (m_7763 24)) rfl rfl rfl rfl ?_
            refine pm_R_icmp pm_M235 (t := 85) (pc' := 17) rfl rfl rfl (fun c7769 => ?_) (fun c7769 => ?_)
            · skip
              refine sf_R_iinc pm_M235 (pc' := 88) (ls' := fun z => [.ref 41, .int a0, .int z, .int x3_7763, g4_7763, g5_7763]) rfl B6476 rfl (by decide) (by decide) (by decide) (fun _ => rfl) rfl (fun z7770 e7771 B7772 => ?_)
              show pm_R _ 235 88 [.ref 41, .int a0, .int z7770, .int x3_7763, g4_7763, g5_7763] [] _ _
              refine pm_R_br pm_M235 (pc' := 2) rfl rfl ?_
              exact ih_6471 _ (sf_up hN_6471 e7771 B6476 (by decide) (by decide)) h_7763 m_7763 w_7763 z7770 (.int x3_7763) (g4_7763) (g5_7763) T_7763 F_7763 W7767 (sf_weak B7772 (by decide) (by decide)) rfl Cg4_7763 Cg5_7763 rfl
            · have B7773 : sf_B 0 11 x3_7763 := sf_ltL (Int32.not_le.mp c7769) Bx3_7763 B7768
              have B7774 : sf_B 1 12 (m_7763 24) := sf_ltR (Int32.not_le.mp c7769) Bx3_7763 B7768
              refine pm_R_lo pm_M235 (pc' := 18) rfl rfl rfl ?_
              refine rf_R_get pm_M235 T_7763 (pc' := 21) (v := .ref 53) rfl rfl rfl rfl ?_
              refine pm_R_lo pm_M235 (pc' := 22) rfl rfl rfl ?_
              obtain ⟨f7775, e7776⟩ := T_7763.2.2.2.1 53 (by decide) (by decide)
              refine rf_R_ild pm_M235 T_7763 (pc' := 23) rfl e7776 (by decide) (sf_in B7773 (by decide) (by decide)) rfl (fun z7778 ez7779 => ?_)
              refine pm_R_lo pm_M235 (pc' := 25) (ls' := [.ref 41, .int a0, .int x2_6471, .int x3_7763, .int z7778, g5_7763]) (st' := []) rfl rfl rfl ?_
              refine pm_R_op pm_M235 (pc' := 26) (st' := [.int 0]) rfl rfl rfl ?_
              refine pm_R_lo pm_M235 (pc' := 28) (ls' := [.ref 41, .int a0, .int x2_6471, .int x3_7763, .int z7778, .int 0]) (st' := []) rfl rfl rfl ?_
              have L_8020 : ∀ (N : Nat) (x4_8020 : Int32) (x5_8020 : Int32), sf_B (-2147483648) 2147483647 x4_8020 → sf_B 0 10 x5_8020 → (10 - x5_8020.toInt).toNat = N → pm_R (d + 1) 235 28 [.ref 41, .int a0, .int x2_6471, .int x3_7763, .int x4_8020, .int x5_8020] [] h_7763 Q := by
                intro N
                induction N using Nat.strongRecOn with
                | ind N ih_8020 =>
                  intro x4_8020 x5_8020 Bx4_8020 Bx5_8020 hN_8020
                  refine pm_R_lo pm_M235 (pc' := 30) rfl rfl rfl ?_
                  refine pm_R_op pm_M235 (pc' := 32) (st' := [.int 10, .int x5_8020]) rfl rfl rfl ?_
                  refine pm_R_icmp pm_M235 (t := 71) (pc' := 35) rfl rfl rfl (fun c8021 => ?_) (fun c8021 => ?_)
                  · have B8022 : sf_B 10 10 x5_8020 := sf_leR c8021 sf_k10 Bx5_8020
                    refine pm_R_lo pm_M235 (pc' := 72) rfl rfl rfl ?_
                    refine rf_R_get pm_M235 T_7763 (pc' := 75) (v := .ref 53) rfl rfl rfl rfl ?_
                    refine pm_R_lo pm_M235 (pc' := 76) rfl rfl rfl ?_
                    refine pm_R_lo pm_M235 (pc' := 78) rfl rfl rfl ?_
                    refine rf_R_ist pm_M235 T_7763 (pc' := 79) rfl e7776 (by decide) (by decide) (sf_in B7773 (by decide) (by decide)) ⟨_, rfl⟩ rfl (fun h8023 T8024 F8025 e8026 => ?_)
                    have F8027 := F_7763.trans F8025 (by decide)
                    refine sf_R_iinc pm_M235 (pc' := 82) (ls' := fun z => [.ref 41, .int a0, .int x2_6471, .int z, .int x4_8020, .int x5_8020]) rfl B7773 rfl (by decide) (by decide) (by decide) (fun _ => rfl) rfl (fun z8028 e8029 B8030 => ?_)
                    show pm_R _ 235 82 [.ref 41, .int a0, .int x2_6471, .int z8028, .int x4_8020, .int x5_8020] [] _ _
                    refine pm_R_br pm_M235 (pc' := 9) rfl rfl ?_
                    exact ih_7763 _ (sf_up hN_7763 e8029 B7773 (by decide) (by decide)) h8023 m_7763 w_7763 z8028 (.int x4_8020) (.int x5_8020) T8024 F8027 W_7763 (sf_weak B8030 (by decide) (by decide)) rfl rfl rfl
                  · have B8031 : sf_B 0 9 x5_8020 := sf_ltL (Int32.not_le.mp c8021) Bx5_8020 sf_k10
                    refine pm_R_lo pm_M235 (pc' := 37) rfl rfl rfl ?_
                    refine pm_R_lo pm_M235 (pc' := 38) rfl rfl rfl ?_
                    refine rf_R_get pm_M235 T_7763 (pc' := 41) (v := .ref 53) rfl rfl rfl rfl ?_
                    refine pm_R_lo pm_M235 (pc' := 42) rfl rfl rfl ?_
                    refine rf_R_ild pm_M235 T_7763 (pc' := 43) rfl e7776 (by decide) (sf_in B7773 (by decide) (by decide)) rfl (fun z8032 ez8033 => ?_)
                    refine sf_R_lany pm_M235 (pc' := 44) (st := [.int x4_8020]) rfl rfl rfl (fun z8034 => ?_)
                    refine pm_R_lo pm_M235 (pc' := 46) rfl rfl rfl ?_
                    refine pm_R_cs pm_M235 (pc' := 49) (ra := [.int x5_8020, .long z8034]) (rest := [.int x4_8020]) (ls' := [.long z8034, pm_no, .int x5_8020]) rfl rfl (Or.inl rfl) pm_M206 rfl rfl (Nat.le_of_ble_eq_true rfl) rfl rfl ?_
                    refine pm_R_lo pm_M206 (pc' := 1) rfl rfl rfl ?_
                    refine pm_R_lo pm_M206 (pc' := 2) rfl rfl rfl ?_
                    refine sf_R_lany pm_M206 (pc' := 3) (st := []) rfl rfl rfl (fun z8035 => ?_)
                    refine pm_R_op pm_M206 (pc' := 4) (st' := [.long 1, .long z8035]) rfl rfl rfl ?_
                    refine sf_R_lany pm_M206 (pc' := 5) (st := []) rfl rfl rfl (fun z8036 => ?_)
                    refine pm_R_op pm_M206 (pc' := 6) (st' := [.long 1, .long z8036]) rfl rfl rfl ?_
                    refine sf_R_lcmp pm_M206 (pc' := 7) rfl rfl (fun z8037 e8038 => ?_)
                    refine pm_R_ifc pm_M206 (t := 14) (pc' := 10) rfl rfl rfl (fun c8039 => ?_) (fun c8039 => ?_)
                    · have k8040 := sf_lneC e8038 c8039
                      refine pm_R_op pm_M206 (pc' := 15) (st' := [.int 0]) rfl rfl rfl ?_
                      refine pm_R_ret pm_M206 (r := some (.int 0)) rfl rfl ?_
                      show pm_R _ 235 49 [.ref 41, .int a0, .int x2_6471, .int x3_7763, .int x4_8020, .int x5_8020] [.int 0, .int x4_8020] _ _
                      refine pm_R_br pm_M235 (pc' := 61) (st' := [.int x4_8020]) rfl rfl ?_
                      refine pm_R_op pm_M235 (pc' := 62) (st' := [.int 0, .int x4_8020]) rfl rfl rfl ?_
                      refine sf_R_iany pm_M235 (pc' := 63) (st := []) rfl rfl rfl (fun z8044 => ?_)
                      refine pm_R_lo pm_M235 (pc' := 65) (ls' := [.ref 41, .int a0, .int x2_6471, .int x3_7763, .int z8044, .int x5_8020]) (st' := []) rfl rfl rfl ?_
                      refine sf_R_iinc pm_M235 (pc' := 68) (ls' := fun z => [.ref 41, .int a0, .int x2_6471, .int x3_7763, .int z8044, .int z]) rfl B8031 rfl (by decide) (by decide) (by decide) (fun _ => rfl) rfl (fun z8045 e8046 B8047 => ?_)
                      show pm_R _ 235 68 [.ref 41, .int a0, .int x2_6471, .int x3_7763, .int z8044, .int z8045] [] _ _
                      refine pm_R_br pm_M235 (pc' := 28) rfl rfl ?_
                      exact ih_8020 _ (sf_up hN_8020 e8046 B8031 (by decide) (by decide)) z8044 z8045 (sf_any z8044) (sf_weak B8047 (by decide) (by decide)) rfl
                    · have B8048 : sf_B 0 0 z8037 := sf_eqL (Classical.not_not.mp c8039) sf_k0
                      refine pm_R_op pm_M206 (pc' := 11) (st' := [.int 1]) rfl rfl rfl ?_
                      refine pm_R_br pm_M206 (pc' := 15) rfl rfl ?_
                      refine pm_R_ret pm_M206 (r := some (.int 1)) rfl rfl ?_
                      show pm_R _ 235 49 [.ref 41, .int a0, .int x2_6471, .int x3_7763, .int x4_8020, .int x5_8020] [.int 1, .int x4_8020] _ _
                      refine pm_R_br pm_M235 (pc' := 52) (st' := [.int x4_8020]) rfl rfl ?_
                      refine pm_R_lo pm_M235 (pc' := 53) rfl rfl rfl ?_
                      refine pm_R_lo pm_M235 (pc' := 55) rfl rfl rfl ?_
                      refine pm_R_cv pm_M235 (pc' := 58) (a := 41) (ra := [.int x5_8020]) (rest := [.int x4_8020]) (ls' := [.ref 41, .int x5_8020]) rfl rfl (Or.inl rfl) pm_M236 T_7763.2.1 rfl (by decide) (Nat.lt_of_lt_of_le (by decide) T_7763.1) rfl rfl (Nat.le_of_ble_eq_true rfl) rfl rfl ?_
                      refine pm_R_lo pm_M236 (pc' := 1) rfl rfl rfl ?_
                      refine rf_R_get pm_M236 T_7763 (pc' := 4) (v := .ref 47) rfl rfl rfl rfl ?_
                      refine pm_R_op pm_M236 (pc' := 6) (st' := [.int 100, .ref 47]) rfl rfl rfl ?_
                      refine pm_R_lo pm_M236 (pc' := 7) rfl rfl rfl ?_
                      have B8049 : sf_B 0 1 (m_7763 23) := T_7763.2.2.1 23
                      refine rf_R_get pm_M236 T_7763 (pc' := 10) (v := .int (m_7763 23)) rfl rfl rfl rfl ?_
                      refine sf_R_imul pm_M236 (pc' := 11) rfl rfl sf_k100 B8049 (by decide) (by decide) (by decide) (fun z8050 e8051 B8052 => ?_)
                      refine pm_R_op pm_M236 (pc' := 13) (st' := [.int 90, .int z8050, .ref 47]) rfl rfl rfl ?_
                      refine sf_R_iadd pm_M236 (pc' := 14) rfl rfl B8052 sf_k90 (by decide) (by decide) (fun z8053 e8054 B8055 => ?_)
                      refine pm_R_lo pm_M236 (pc' := 15) rfl rfl rfl ?_
                      refine sf_R_iadd pm_M236 (pc' := 16) rfl rfl B8055 B8031 (by decide) (by decide) (fun z8056 e8057 B8058 => ?_)
                      obtain ⟨f8059, e8060, b8061⟩ := T_7763.2.2.2.1 47 (by decide) (by decide)
                      refine rf_R_ild pm_M236 T_7763 (pc' := 17) rfl e8060 (by decide) (sf_in B8058 (by decide) (by decide)) rfl (fun z8062 ez8063 => ?_)
                      have e8064 : (z8056).toInt = 100 * ((m_7763 23)).toInt + 1 * (x5_8020).toInt + 90 := by
                        have q0 := e8051
                        have q1 := e8054
                        have q2 := e8057
                        simp only [(show (90 : Int32).toInt = 90 from rfl), (show (100 : Int32).toInt = 100 from rfl)] at q0 q1 q2
                        omega
                      have B8065 : sf_B 0 1023 z8062 := ez8063 ▸ rf_p47n b8061 e8064 B8049 B8031 (by decide) (by decide) (by decide)
                      refine pm_R_ret pm_M236 (r := some (.int z8062)) rfl (pm_ret_i _) ?_
                      show pm_R _ 235 58 [.ref 41, .int a0, .int x2_6471, .int x3_7763, .int x4_8020, .int x5_8020] [.int z8062, .int x4_8020] _ _
                      refine pm_R_br pm_M235 (pc' := 62) rfl rfl ?_
                      refine sf_R_iany pm_M235 (pc' := 63) (st := []) rfl rfl rfl (fun z8069 => ?_)
                      refine pm_R_lo pm_M235 (pc' := 65) (ls' := [.ref 41, .int a0, .int x2_6471, .int x3_7763, .int z8069, .int x5_8020]) (st' := []) rfl rfl rfl ?_
                      refine sf_R_iinc pm_M235 (pc' := 68) (ls' := fun z => [.ref 41, .int a0, .int x2_6471, .int x3_7763, .int z8069, .int z]) rfl B8031 rfl (by decide) (by decide) (by decide) (fun _ => rfl) rfl (fun z8070 e8071 B8072 => ?_)
                      show pm_R _ 235 68 [.ref 41, .int a0, .int x2_6471, .int x3_7763, .int z8069, .int z8070] [] _ _
                      refine pm_R_br pm_M235 (pc' := 28) rfl rfl ?_
                      exact ih_8020 _ (sf_up hN_8020 e8071 B8031 (by decide) (by decide)) z8069 z8070 (sf_any z8069) (sf_weak B8072 (by decide) (by decide)) rfl
              exact L_8020 _ z7778 0 (sf_any z7778) (sf_weak sf_k0 (by decide) (by decide)) rfl
        exact L_7763 _ h_6471 m_6471 w_6471 0 (g4_6471) (g5_6471) T_6471 F_6471 (rf_W.refl _ _) (sf_weak sf_k0 (by decide) (by decide)) Cg4_6471 Cg5_6471 rfl
  exact L_6471 _ h m w 0 (pm_no) (pm_no) (pm_no) T (rf_G.refl [53] h) (rf_W.refl _ _) (sf_weak sf_k0 (by decide) (by decide)) rfl rfl rfl rfl

set_option maxRecDepth 100000 in
set_option maxHeartbeats 4000000 in
/-- SilentTableModel.meanings -/
theorem rf_c215 {d : Nat} {m : Nat → Int32} {w : Int64} {h : pm_H} {Q : Option Value → pm_H → Prop}  (T : rf_T m w h) (Bf24 : sf_B 1 12 (m 24)) (K : ∀ (r : Int64) (m' : Nat → Int32) (w' : Int64) (h' : pm_H), rf_T m' w' h' → rf_G [54] h h' → rf_W [] m m' → Q (some (.long r)) h') : pm_R (d + 5) 215 0 [.ref 41] [] h Q := by
  refine pm_R_lo pm_M215 (pc' := 1) rfl rfl rfl ?_
  refine pm_R_cv pm_M215 (pc' := 4) (a := 41) (ra := []) (rest := []) (ls' := [.ref 41, pm_no, pm_no, pm_no, pm_no, pm_no]) rfl rfl (Or.inl rfl) pm_M216 T.2.1 rfl (by decide) (Nat.lt_of_lt_of_le (by decide) T.1) rfl rfl (Nat.le_of_ble_eq_true rfl) rfl rfl ?_
  refine rf_c216 (d := d + 0) T  (fun m3 w4 h5 T6 F7 W8 => ?_)
  have F9 := (rf_G.refl [54] h).trans F7 (by decide)
  have B10 : sf_B 1 12 (m3 24) := by rw [W8 24 (by decide)]; exact Bf24
  have W11 : rf_W [] m m3 := (rf_W.refl [] m).trans W8 (by decide)
  show pm_R _ 215 4 [.ref 41] [] _ _
  refine pm_R_lo pm_M215 (pc' := 5) rfl rfl rfl ?_
  refine rf_R_get pm_M215 T6 (pc' := 8) (v := .ref 54) rfl rfl rfl rfl ?_
  refine pm_R_op pm_M215 (pc' := 9) (st' := [.int 0, .ref 54]) rfl rfl rfl ?_
  refine pm_R_op pm_M215 (pc' := 10) (st' := [.int 0, .int 0, .ref 54]) rfl rfl rfl ?_
  refine pm_R_lo pm_M215 (pc' := 11) rfl rfl rfl ?_
  refine rf_R_get pm_M215 T6 (pc' := 14) (v := .int (m3 24)) rfl rfl rfl rfl ?_
  refine pm_R_op pm_M215 (pc' := 15) (st' := [.int 1, .int (m3 24), .int 0, .int 0, .ref 54]) rfl rfl rfl ?_
  refine sf_R_isub pm_M215 (pc' := 16) rfl rfl B10 sf_k1 (by decide) (by decide) (fun z12 e13 B14 => ?_)
  refine pm_R_cs pm_M215 (pc' := 19) (ra := [.int z12, .int 0, .int 0]) (rest := [.ref 54]) (ls' := [.int 0, .int 0, .int z12]) rfl rfl (Or.inl rfl) pm_M207 rfl rfl (Nat.le_of_ble_eq_true rfl) rfl rfl ?_
  refine pm_R_op pm_M207 (pc' := 3) (st' := [.int 144]) rfl rfl rfl ?_
  refine pm_R_lo pm_M207 (pc' := 4) rfl rfl rfl ?_
  refine pm_R_op pm_M207 (pc' := 5) (st' := [.int 0]) rfl rfl rfl ?_
  refine pm_R_op pm_M207 (pc' := 7) (st' := [.int 12, .int 0]) rfl rfl rfl ?_
  refine pm_R_lo pm_M207 (pc' := 8) rfl rfl rfl ?_
  refine pm_R_op pm_M207 (pc' := 9) (st' := [.int 0, .int 0]) rfl rfl rfl ?_
  refine pm_R_op pm_M207 (pc' := 10) (st' := [.int 0]) rfl rfl rfl ?_
  refine pm_R_lo pm_M207 (pc' := 11) rfl rfl rfl ?_
  refine sf_R_iadd pm_M207 (pc' := 12) rfl rfl sf_k0 B14 (by decide) (by decide) (fun z15 e16 B17 => ?_)
  refine pm_R_ret pm_M207 (r := some (.int z15)) rfl (pm_ret_i _) ?_
  show pm_R _ 215 19 [.ref 41] [.int z15, .ref 54] _ _
  obtain ⟨f18, e19⟩ := T6.2.2.2.1 54 (by decide) (by decide)
  refine rf_R_lld pm_M215 T6 (pc' := 20) rfl e19 (by decide) (by decide) (sf_in B17 (by decide) (by decide)) rfl (fun z21 ez22 => ?_)
  exact pm_R_ret pm_M215 (r := some (.long z21)) rfl rfl (K z21 m3 w4 h5 T6 F9 W11)

set_option maxRecDepth 100000 in
set_option maxHeartbeats 4000000 in
/-- SilentTableModel.lay -/
theorem rf_c201 {d : Nat} {m : Nat → Int32} {w : Int64} {h : pm_H} {Q : Option Value → pm_H → Prop} {a0 : Int32} {a1 : Int32} (T : rf_T m w h) (Ba0 : sf_B 0 1 a0) (Ba1 : sf_B 0 2 a1) (V : rf_V h a1) (K : ∀ (m' : Nat → Int32) (w' : Int64) (h' : pm_H), rf_T m' w' h' → rf_G [41, 53] h h' → rf_W [23, 24, 26] m m' → (∀ g : Nat → Int32, h.2.2 48 = .inl (0, 156, .inl g) → (m' 24).toInt = (g (13 * a1.toInt).toNat).toInt) → sf_B 1 12 (m' 24) → Q none h') : pm_R (d + 0) 201 0 [.ref 41, .int a0, .int a1, pm_no] [] h Q := by
  refine pm_R_lo pm_M201 (pc' := 1) rfl rfl rfl ?_
  refine pm_R_lo pm_M201 (pc' := 2) rfl rfl rfl ?_
  refine rf_R_put pm_M201 T (pc' := 5) rfl rfl rfl (by decide) rfl rfl Ba0 rfl rfl (fun h1 m4 em5 T2 F3 => ?_)
  have F6 := (rf_G.refl [41, 53] h).trans F3 (by decide)
  have B7 : sf_B 0 1 (m4 23) := by rw [em5]; exact Ba0
  have ek8 : (m4 23).toInt = (a0).toInt := by rw [em5]; rfl
  have W9 : rf_W [23, 24, 26] m m4 := by rw [em5]; exact (rf_W.refl [23, 24, 26] m).put (by decide)
  refine pm_R_lo pm_M201 (pc' := 6) rfl rfl rfl ?_
  refine pm_R_lo pm_M201 (pc' := 7) rfl rfl rfl ?_
  refine rf_R_get pm_M201 T2 (pc' := 10) (v := .ref 48) rfl rfl rfl rfl ?_
  refine pm_R_op pm_M201 (pc' := 12) (st' := [.int 13, .ref 48, .ref 41]) rfl rfl rfl ?_
  refine pm_R_lo pm_M201 (pc' := 13) rfl rfl rfl ?_
  refine sf_R_imul pm_M201 (pc' := 14) rfl rfl sf_k13 Ba1 (by decide) (by decide) (by decide) (fun z10 e11 B12 => ?_)
  obtain ⟨f13, e14, b15⟩ := T2.2.2.2.1 48 (by decide) (by decide)
  refine rf_R_ild pm_M201 T2 (pc' := 15) rfl e14 (by decide) (sf_in B12 (by decide) (by decide)) rfl (fun z16 ez17 => ?_)
  have e18 : (z10).toInt = 13 * (a1).toInt + 0 := by
    have q0 := e11
    simp only [(show (13 : Int32).toInt = 13 from rfl)] at q0
    omega
  have B19 : sf_B 1 12 z16 := ez17 ▸ rf_p48v T2 e14 (V.F F6 (by decide)) e18
  refine rf_R_put pm_M201 T2 (pc' := 18) rfl rfl rfl (by decide) rfl rfl (sf_weak B19 (by decide) (by decide)) rfl rfl (fun h20 m23 em24 T21 F22 => ?_)
  have F25 := F6.trans F22 (by decide)
  have B26 : sf_B 1 12 (m23 24) := by rw [em24]; exact B19
  have ek27 : (m23 24).toInt = (z16).toInt := by rw [em24]; rfl
  have W28 : rf_W [23, 24, 26] m m23 := by rw [em24]; exact W9.put (by decide)
  refine pm_R_op pm_M201 (pc' := 19) (st' := [.int 0]) rfl rfl rfl ?_
  refine pm_R_lo pm_M201 (pc' := 20) (ls' := [.ref 41, .int a0, .int a1, .int 0]) (st' := []) rfl rfl rfl ?_
  have L_304 : ∀ (N : Nat) (h_304 : pm_H) (m_304 : Nat → Int32) (w_304 : Int64) (x3_304 : Int32), rf_T m_304 w_304 h_304 → rf_G [41, 53] h h_304 → rf_W [] m23 m_304 → sf_B 0 12 x3_304 → (12 - x3_304.toInt).toNat = N → pm_R (d + 0) 201 20 [.ref 41, .int a0, .int a1, .int x3_304] [] h_304 Q := by
    intro N
    induction N using Nat.strongRecOn with
    | ind N ih_304 =>
      intro h_304 m_304 w_304 x3_304 T_304 F_304 W_304 Bx3_304 hN_304
      have B307 : sf_B 1 12 (m_304 24) := by rw [W_304 24 (by decide)]; exact B26
      have ek308 : (m_304 24).toInt = (z16).toInt := by rw [W_304 24 (by decide)]; exact ek27
      have W309 : rf_W [23, 24, 26] m m_304 := W28.trans W_304 (by decide)
      refine pm_R_lo pm_M201 (pc' := 21) rfl rfl rfl ?_
      refine pm_R_lo pm_M201 (pc' := 22) rfl rfl rfl ?_
      refine rf_R_get pm_M201 T_304 (pc' := 25) (v := .int (m_304 24)) rfl rfl rfl rfl ?_
      refine pm_R_icmp pm_M201 (t := 55) (pc' := 28) rfl rfl rfl (fun c310 => ?_) (fun c310 => ?_)
      · have B311 : sf_B 1 12 x3_304 := sf_leR c310 B307 Bx3_304
        refine pm_R_lo pm_M201 (pc' := 56) rfl rfl rfl ?_
        refine pm_R_op pm_M201 (pc' := 57) (st' := [.int (-1), .ref 41]) rfl rfl rfl ?_
        refine rf_R_put pm_M201 T_304 (pc' := 60) rfl rfl rfl (by decide) rfl rfl (sf_weak sf_kn1 (by decide) (by decide)) rfl rfl (fun h312 m315 em316 T313 F314 => ?_)
        have F317 := F_304.trans F314 (by decide)
        have B318 : sf_B 1 12 (m315 24) := by rw [em316]; exact B307
        have ek319 : (m315 24).toInt = (z16).toInt := by rw [em316]; exact ek308
        have B320 : sf_B (-1) (-1) (m315 26) := by rw [em316]; exact sf_kn1
        have W322 : rf_W [23, 24, 26] m m315 := by rw [em316]; exact W309.put (by decide)
        exact pm_R_ret pm_M201 (r := none) rfl rfl (K m315 w_304 h312 T313 F317 W322 (fun g eg => rf_layX e14 F6 eg ez17 ek319 e18 (by decide)) B318)
      · have B323 : sf_B 0 11 x3_304 := sf_ltL (Int32.not_le.mp c310) Bx3_304 B307
        refine pm_R_lo pm_M201 (pc' := 29) rfl rfl rfl ?_
        refine rf_R_get pm_M201 T_304 (pc' := 32) (v := .ref 53) rfl rfl rfl rfl ?_
        refine pm_R_lo pm_M201 (pc' := 33) rfl rfl rfl ?_
        refine pm_R_op pm_M201 (pc' := 34) (st' := [.int 1, .int x3_304, .ref 53]) rfl rfl rfl ?_
        refine pm_R_lo pm_M201 (pc' := 35) rfl rfl rfl ?_
        refine rf_R_get pm_M201 T_304 (pc' := 38) (v := .ref 48) rfl rfl rfl rfl ?_
        refine pm_R_op pm_M201 (pc' := 40) (st' := [.int 13, .ref 48, .int 1, .int x3_304, .ref 53]) rfl rfl rfl ?_
        refine pm_R_lo pm_M201 (pc' := 41) rfl rfl rfl ?_
        refine sf_R_imul pm_M201 (pc' := 42) rfl rfl sf_k13 Ba1 (by decide) (by decide) (by decide) (fun z324 e325 B326 => ?_)
        refine pm_R_op pm_M201 (pc' := 43) (st' := [.int 1, .int z324, .ref 48, .int 1, .int x3_304, .ref 53]) rfl rfl rfl ?_
        refine sf_R_iadd pm_M201 (pc' := 44) rfl rfl B326 sf_k1 (by decide) (by decide) (fun z327 e328 B329 => ?_)
        refine pm_R_lo pm_M201 (pc' := 45) rfl rfl rfl ?_
        refine sf_R_iadd pm_M201 (pc' := 46) rfl rfl B329 B323 (by decide) (by decide) (fun z330 e331 B332 => ?_)
        obtain ⟨f333, e334, b335⟩ := T_304.2.2.2.1 48 (by decide) (by decide)
        refine rf_R_ild pm_M201 T_304 (pc' := 47) rfl e334 (by decide) (sf_in B332 (by decide) (by decide)) rfl (fun z336 ez337 => ?_)
        have e338 : (z330).toInt = 13 * (a1).toInt + 1 * (x3_304).toInt + 1 := by
          have q0 := e325
          have q1 := e328
          have q2 := e331
          simp only [(show (1 : Int32).toInt = 1 from rfl), (show (13 : Int32).toInt = 13 from rfl)] at q0 q1 q2
          omega
        have B339 : sf_B 0 9 z336 := ez337 ▸ rf_p48s b335 e338 Ba1 B323 (by decide) (by decide) (by decide)
        refine sf_R_iany pm_M201 (pc' := 48) (st := [.int x3_304, .ref 53]) rfl rfl rfl (fun z343 => ?_)
        obtain ⟨f344, e345⟩ := T_304.2.2.2.1 53 (by decide) (by decide)
        refine rf_R_ist pm_M201 T_304 (pc' := 49) rfl e345 (by decide) (by decide) (sf_in B323 (by decide) (by decide)) ⟨_, rfl⟩ rfl (fun h347 T348 F349 e350 => ?_)
        have F351 := F_304.trans F349 (by decide)
        refine sf_R_iinc pm_M201 (pc' := 52) (ls' := fun z => [.ref 41, .int a0, .int a1, .int z]) rfl B323 rfl (by decide) (by decide) (by decide) (fun _ => rfl) rfl (fun z352 e353 B354 => ?_)
        show pm_R _ 201 52 [.ref 41, .int a0, .int a1, .int z352] [] _ _
        refine pm_R_br pm_M201 (pc' := 20) rfl rfl ?_
        exact ih_304 _ (sf_up hN_304 e353 B323 (by decide) (by decide)) h347 m_304 w_304 z352 T348 F351 W_304 (sf_weak B354 (by decide) (by decide)) rfl
  exact L_304 _ h20 m23 w 0 T21 F25 (rf_W.refl _ _) (sf_weak sf_k0 (by decide) (by decide)) rfl

set_option maxRecDepth 100000 in
set_option maxHeartbeats 4000000 in
/-- SilentTableModel.layNumber -/
theorem rf_c244 {d : Nat} {m : Nat → Int32} {w : Int64} {h : pm_H} {Q : Option Value → pm_H → Prop} {a0 : Int32} {a1 : Int32} (T : rf_T m w h) (Ba0 : sf_B 1 4 a0) (Ba1 : sf_B 0 2147483647 a1) (K : ∀ (m' : Nat → Int32) (w' : Int64) (h' : pm_H), rf_T m' w' h' → rf_G [41, 53] h h' → rf_W [24, 26] m m' → sf_B 1 4 (m' 24) → Q none h') : pm_R (d + 0) 244 0 [.ref 41, .int a0, .int a1, pm_no, pm_no] [] h Q := by
  refine pm_R_lo pm_M244 (pc' := 1) rfl rfl rfl ?_
  refine pm_R_lo pm_M244 (pc' := 2) rfl rfl rfl ?_
  refine rf_R_put pm_M244 T (pc' := 5) rfl rfl rfl (by decide) rfl rfl (sf_weak Ba0 (by decide) (by decide)) rfl rfl (fun h1 m4 em5 T2 F3 => ?_)
  have F6 := (rf_G.refl [41, 53] h).trans F3 (by decide)
  have B7 : sf_B 1 4 (m4 24) := by rw [em5]; exact Ba0
  have ek8 : (m4 24).toInt = (a0).toInt := by rw [em5]; rfl
  have W9 : rf_W [24, 26] m m4 := by rw [em5]; exact (rf_W.refl [24, 26] m).put (by decide)
  refine pm_R_lo pm_M244 (pc' := 6) rfl rfl rfl ?_
  refine pm_R_op pm_M244 (pc' := 7) (st' := [.int (-1), .ref 41]) rfl rfl rfl ?_
  refine rf_R_put pm_M244 T2 (pc' := 10) rfl rfl rfl (by decide) rfl rfl (sf_weak sf_kn1 (by decide) (by decide)) rfl rfl (fun h10 m13 em14 T11 F12 => ?_)
  have F15 := F6.trans F12 (by decide)
  have B16 : sf_B 1 4 (m13 24) := by rw [em14]; exact B7
  have ek17 : (m13 24).toInt = (a0).toInt := by rw [em14]; exact ek8
  have B18 : sf_B (-1) (-1) (m13 26) := by rw [em14]; exact sf_kn1
  have W20 : rf_W [24, 26] m m13 := by rw [em14]; exact W9.put (by decide)
  refine pm_R_lo pm_M244 (pc' := 11) rfl rfl rfl ?_
  refine pm_R_lo pm_M244 (pc' := 12) (ls' := [.ref 41, .int a0, .int a1, .int a1, pm_no]) (st' := []) rfl rfl rfl ?_
  refine pm_R_lo pm_M244 (pc' := 13) rfl rfl rfl ?_
  refine pm_R_op pm_M244 (pc' := 14) (st' := [.int 1, .int a0]) rfl rfl rfl ?_
  refine sf_R_isub pm_M244 (pc' := 15) rfl rfl Ba0 sf_k1 (by decide) (by decide) (fun z21 e22 B23 => ?_)
  refine pm_R_lo pm_M244 (pc' := 17) (ls' := [.ref 41, .int a0, .int a1, .int a1, .int z21]) (st' := []) rfl rfl rfl ?_
  have L_106 : ∀ (N : Nat) (h_106 : pm_H) (m_106 : Nat → Int32) (w_106 : Int64) (x3_106 : Int32) (x4_106 : Int32), rf_T m_106 w_106 h_106 → rf_G [41, 53] h h_106 → rf_W [] m13 m_106 → sf_B 0 2147483647 x3_106 → sf_B (-1) 3 x4_106 → (x4_106.toInt - (-1)).toNat = N → pm_R (d + 0) 244 17 [.ref 41, .int a0, .int a1, .int x3_106, .int x4_106] [] h_106 Q := by
    intro N
    induction N using Nat.strongRecOn with
    | ind N ih_106 =>
      intro h_106 m_106 w_106 x3_106 x4_106 T_106 F_106 W_106 Bx3_106 Bx4_106 hN_106
      have B109 : sf_B 1 4 (m_106 24) := by rw [W_106 24 (by decide)]; exact B16
      have ek110 : (m_106 24).toInt = (a0).toInt := by rw [W_106 24 (by decide)]; exact ek17
      have B111 : sf_B (-1) (-1) (m_106 26) := by rw [W_106 26 (by decide)]; exact B18
      have W112 : rf_W [24, 26] m m_106 := W20.trans W_106 (by decide)
      refine pm_R_lo pm_M244 (pc' := 19) rfl rfl rfl ?_
      refine pm_R_ifc pm_M244 (t := 46) (pc' := 22) rfl rfl rfl (fun c113 => ?_) (fun c113 => ?_)
      · have B114 : sf_B (-1) (-1) x4_106 := sf_ltL c113 Bx4_106 sf_k0
        exact pm_R_ret pm_M244 (r := none) rfl rfl (K m_106 w_106 h_106 T_106 F_106 W112 B109)
      · have B115 : sf_B 0 3 x4_106 := sf_leR (Int32.not_lt.mp c113) sf_k0 Bx4_106
        refine pm_R_lo pm_M244 (pc' := 23) rfl rfl rfl ?_
        refine rf_R_get pm_M244 T_106 (pc' := 26) (v := .ref 53) rfl rfl rfl rfl ?_
        refine pm_R_lo pm_M244 (pc' := 28) rfl rfl rfl ?_
        refine pm_R_op pm_M244 (pc' := 29) (st' := [.int 1, .int x4_106, .ref 53]) rfl rfl rfl ?_
        refine pm_R_lo pm_M244 (pc' := 30) rfl rfl rfl ?_
        refine pm_R_op pm_M244 (pc' := 32) (st' := [.int 10, .int x3_106, .int 1, .int x4_106, .ref 53]) rfl rfl rfl ?_
        refine sf_R_irem pm_M244 (pc' := 33) rfl rfl Bx3_106 sf_k10 (by decide) (by decide) (fun z116 e117 B118 => ?_)
        refine sf_R_iany pm_M244 (pc' := 34) (st := [.int x4_106, .ref 53]) rfl rfl rfl (fun z122 => ?_)
        obtain ⟨f123, e124⟩ := T_106.2.2.2.1 53 (by decide) (by decide)
        refine rf_R_ist pm_M244 T_106 (pc' := 35) rfl e124 (by decide) (by decide) (sf_in B115 (by decide) (by decide)) ⟨_, rfl⟩ rfl (fun h126 T127 F128 e129 => ?_)
        have F130 := F_106.trans F128 (by decide)
        refine pm_R_lo pm_M244 (pc' := 36) rfl rfl rfl ?_
        refine pm_R_op pm_M244 (pc' := 38) (st' := [.int 10, .int x3_106]) rfl rfl rfl ?_
        refine sf_R_idiv pm_M244 (pc' := 39) rfl rfl Bx3_106 sf_k10 (by decide) (by decide) (fun z131 e132 B133 => ?_)
        refine pm_R_lo pm_M244 (pc' := 40) (ls' := [.ref 41, .int a0, .int a1, .int z131, .int x4_106]) (st' := []) rfl rfl rfl ?_
        refine sf_R_iinc pm_M244 (pc' := 43) (ls' := fun z => [.ref 41, .int a0, .int a1, .int z131, .int z]) rfl B115 rfl (by decide) (by decide) (by decide) (fun _ => rfl) rfl (fun z134 e135 B136 => ?_)
        show pm_R _ 244 43 [.ref 41, .int a0, .int a1, .int z131, .int z134] [] _ _
        refine pm_R_br pm_M244 (pc' := 17) rfl rfl ?_
        exact ih_106 _ (sf_dn hN_106 e135 B115 (by decide) (by decide)) h126 m_106 w_106 z131 z134 T127 F130 W_106 (sf_weak B133 (by decide) (by decide)) (sf_weak B136 (by decide) (by decide)) rfl
  exact L_106 _ h10 m13 w a1 z21 T11 F15 (rf_W.refl _ _) Ba1 (sf_weak B23 (by decide) (by decide)) rfl

set_option maxRecDepth 100000 in
set_option maxHeartbeats 4000000 in
/-- SilentTableModel.keepFound -/
theorem rf_c245 {d : Nat} {m : Nat → Int32} {w : Int64} {h : pm_H} {Q : Option Value → pm_H → Prop} {a0 : Int32} {a1 : Int32} (T : rf_T m w h) (Ba0 : sf_B 1 4 a0) (Ba1 : sf_B 0 2147483647 a1) (K : ∀ (m' : Nat → Int32) (w' : Int64) (h' : pm_H), rf_T m' w' h' → rf_G [66] h h' → rf_W [] m m' → Q none h') : pm_R (d + 0) 245 0 [.ref 41, .int a0, .int a1, pm_no, pm_no] [] h Q := by
  refine pm_R_lo pm_M245 (pc' := 1) rfl rfl rfl ?_
  refine pm_R_lo pm_M245 (pc' := 2) (ls' := [.ref 41, .int a0, .int a1, .int a1, pm_no]) (st' := []) rfl rfl rfl ?_
  refine pm_R_lo pm_M245 (pc' := 3) rfl rfl rfl ?_
  refine rf_R_get pm_M245 T (pc' := 6) (v := .ref 66) rfl rfl rfl rfl ?_
  refine pm_R_op pm_M245 (pc' := 7) (st' := [.int 0, .ref 66]) rfl rfl rfl ?_
  refine pm_R_lo pm_M245 (pc' := 8) rfl rfl rfl ?_
  obtain ⟨f1, e2, b3⟩ := T.2.2.2.1 66 (by decide) (by decide)
  refine rf_R_ist pm_M245 T (pc' := 9) rfl e2 (by decide) (by decide) rfl ⟨_, rfl, rf_u66 b3 (sf_weak Ba0 (by decide) (by decide))⟩ rfl (fun h4 T5 F6 e7 => ?_)
  have F8 := (rf_G.refl [66] h).trans F6 (by decide)
  refine pm_R_lo pm_M245 (pc' := 10) rfl rfl rfl ?_
  refine pm_R_lo pm_M245 (pc' := 12) (ls' := [.ref 41, .int a0, .int a1, .int a1, .int a0]) (st' := []) rfl rfl rfl ?_
  have L_79 : ∀ (N : Nat) (h_79 : pm_H) (m_79 : Nat → Int32) (w_79 : Int64) (x3_79 : Int32) (x4_79 : Int32), rf_T m_79 w_79 h_79 → rf_G [66] h h_79 → rf_W [] m m_79 → sf_B 0 2147483647 x3_79 → sf_B 0 4 x4_79 → (x4_79.toInt - 0).toNat = N → pm_R (d + 0) 245 12 [.ref 41, .int a0, .int a1, .int x3_79, .int x4_79] [] h_79 Q := by
    intro N
    induction N using Nat.strongRecOn with
    | ind N ih_79 =>
      intro h_79 m_79 w_79 x3_79 x4_79 T_79 F_79 W_79 Bx3_79 Bx4_79 hN_79
      have W82 : rf_W [] m m_79 := (rf_W.refl [] m).trans W_79 (by decide)
      refine pm_R_lo pm_M245 (pc' := 14) rfl rfl rfl ?_
      refine pm_R_ifc pm_M245 (t := 39) (pc' := 17) rfl rfl rfl (fun c83 => ?_) (fun c83 => ?_)
      · have B84 : sf_B 0 0 x4_79 := sf_leL c83 Bx4_79 sf_k0
        exact pm_R_ret pm_M245 (r := none) rfl rfl (K m_79 w_79 h_79 T_79 F_79 W82)
      · have B85 : sf_B 1 4 x4_79 := sf_ltR (Int32.not_le.mp c83) sf_k0 Bx4_79
        refine pm_R_lo pm_M245 (pc' := 18) rfl rfl rfl ?_
        refine rf_R_get pm_M245 T_79 (pc' := 21) (v := .ref 66) rfl rfl rfl rfl ?_
        refine pm_R_lo pm_M245 (pc' := 23) rfl rfl rfl ?_
        refine pm_R_lo pm_M245 (pc' := 24) rfl rfl rfl ?_
        refine pm_R_op pm_M245 (pc' := 26) (st' := [.int 10, .int x3_79, .int x4_79, .ref 66]) rfl rfl rfl ?_
        refine sf_R_irem pm_M245 (pc' := 27) rfl rfl Bx3_79 sf_k10 (by decide) (by decide) (fun z86 e87 B88 => ?_)
        obtain ⟨f89, e90, b91⟩ := T_79.2.2.2.1 66 (by decide) (by decide)
        refine rf_R_ist pm_M245 T_79 (pc' := 28) rfl e90 (by decide) (by decide) (sf_in B85 (by decide) (by decide)) ⟨_, rfl, rf_v66 b91 B88 B85 (by decide)⟩ rfl (fun h92 T93 F94 e95 => ?_)
        have F96 := F_79.trans F94 (by decide)
        refine pm_R_lo pm_M245 (pc' := 29) rfl rfl rfl ?_
        refine pm_R_op pm_M245 (pc' := 31) (st' := [.int 10, .int x3_79]) rfl rfl rfl ?_
        refine sf_R_idiv pm_M245 (pc' := 32) rfl rfl Bx3_79 sf_k10 (by decide) (by decide) (fun z97 e98 B99 => ?_)
        refine pm_R_lo pm_M245 (pc' := 33) (ls' := [.ref 41, .int a0, .int a1, .int z97, .int x4_79]) (st' := []) rfl rfl rfl ?_
        refine sf_R_iinc pm_M245 (pc' := 36) (ls' := fun z => [.ref 41, .int a0, .int a1, .int z97, .int z]) rfl B85 rfl (by decide) (by decide) (by decide) (fun _ => rfl) rfl (fun z100 e101 B102 => ?_)
        show pm_R _ 245 36 [.ref 41, .int a0, .int a1, .int z97, .int z100] [] _ _
        refine pm_R_br pm_M245 (pc' := 12) rfl rfl ?_
        exact ih_79 _ (sf_dn hN_79 e101 B85 (by decide) (by decide)) h92 m_79 w_79 z97 z100 T93 F96 W_79 (sf_weak B99 (by decide) (by decide)) (sf_weak B102 (by decide) (by decide)) rfl
  exact L_79 _ h4 m w a1 a0 T5 F8 (rf_W.refl _ _) Ba1 (sf_weak Ba0 (by decide) (by decide)) rfl

set_option maxRecDepth 100000 in
set_option maxHeartbeats 4000000 in
/-- SilentTableModel.isBrief -/
theorem rf_c243 {d : Nat} {m : Nat → Int32} {w : Int64} {h : pm_H} {Q : Option Value → pm_H → Prop} {a0 : Int32} {a1 : Int32} {a2 : Int32} {a3 : Int32} (T : rf_T m w h) (Ba0 : sf_B 1 4 a0) (Ba1 : sf_B 0 2147483647 a1) (Ba2 : sf_B 0 49 a2) (Ba3 : sf_B (-1) 9 a3) (K : ∀ (r : Int32) (m' : Nat → Int32) (w' : Int64) (h' : pm_H), rf_T m' w' h' → rf_G [41, 53, 54, 55] h h' → rf_W [24, 26] m m' → sf_B 0 1 r → Q (some (.int r)) h') : pm_R (d + 7) 243 0 [.ref 41, .int a0, .int a1, .int a2, .int a3] [] h Q := by
  refine pm_R_lo pm_M243 (pc' := 1) rfl rfl rfl ?_
  refine pm_R_lo pm_M243 (pc' := 2) rfl rfl rfl ?_
  refine pm_R_lo pm_M243 (pc' := 3) rfl rfl rfl ?_
  refine pm_R_cv pm_M243 (pc' := 6) (a := 41) (ra := [.int a1, .int a0]) (rest := []) (ls' := [.ref 41, .int a0, .int a1, pm_no, pm_no]) rfl rfl (Or.inl rfl) pm_M244 T.2.1 rfl (by decide) (Nat.lt_of_lt_of_le (by decide) T.1) rfl rfl (Nat.le_of_ble_eq_true rfl) rfl rfl ?_
  refine rf_c244 (d := d + 6) T Ba0 Ba1 (fun m3 w4 h5 T6 F7 W8 B9 => ?_)
  have F10 := (rf_G.refl [41, 53, 54, 55] h).trans F7 (by decide)
  have W11 : rf_W [24, 26] m m3 := (rf_W.refl [24, 26] m).trans W8 (by decide)
  show pm_R _ 243 6 [.ref 41, .int a0, .int a1, .int a2, .int a3] [] _ _
  refine pm_R_lo pm_M243 (pc' := 7) rfl rfl rfl ?_
  refine pm_R_cv pm_M243 (pc' := 10) (a := 41) (ra := []) (rest := []) (ls' := [.ref 41, pm_no, pm_no, pm_no, pm_no, pm_no]) rfl rfl (Or.inl rfl) pm_M202 T6.2.1 rfl (by decide) (Nat.lt_of_lt_of_le (by decide) T6.1) rfl rfl (Nat.le_of_ble_eq_true rfl) rfl rfl ?_
  refine rf_c202 (d := d + 2) T6  (fun m14 w15 h16 T17 F18 W19 => ?_)
  have F20 := F10.trans F18 (by decide)
  have B21 : sf_B 1 4 (m14 24) := by rw [W19 24 (by decide)]; exact B9
  have W22 : rf_W [24, 26] m m14 := W11.trans W19 (by decide)
  show pm_R _ 243 10 [.ref 41, .int a0, .int a1, .int a2, .int a3] [] _ _
  refine pm_R_lo pm_M243 (pc' := 11) rfl rfl rfl ?_
  refine rf_R_get pm_M243 T17 (pc' := 14) (v := .ref 55) rfl rfl rfl rfl ?_
  refine pm_R_op pm_M243 (pc' := 15) (st' := [.int 0, .ref 55]) rfl rfl rfl ?_
  refine pm_R_op pm_M243 (pc' := 16) (st' := [.int 0, .int 0, .ref 55]) rfl rfl rfl ?_
  refine pm_R_lo pm_M243 (pc' := 17) rfl rfl rfl ?_
  refine pm_R_op pm_M243 (pc' := 18) (st' := [.int 1, .int a0, .int 0, .int 0, .ref 55]) rfl rfl rfl ?_
  refine sf_R_isub pm_M243 (pc' := 19) rfl rfl Ba0 sf_k1 (by decide) (by decide) (fun z23 e24 B25 => ?_)
  refine pm_R_cs pm_M243 (pc' := 22) (ra := [.int z23, .int 0, .int 0]) (rest := [.ref 55]) (ls' := [.int 0, .int 0, .int z23]) rfl rfl (Or.inl rfl) pm_M207 rfl rfl (Nat.le_of_ble_eq_true rfl) rfl rfl ?_
  refine pm_R_op pm_M207 (pc' := 3) (st' := [.int 144]) rfl rfl rfl ?_
  refine pm_R_lo pm_M207 (pc' := 4) rfl rfl rfl ?_
  refine pm_R_op pm_M207 (pc' := 5) (st' := [.int 0]) rfl rfl rfl ?_
  refine pm_R_op pm_M207 (pc' := 7) (st' := [.int 12, .int 0]) rfl rfl rfl ?_
  refine pm_R_lo pm_M207 (pc' := 8) rfl rfl rfl ?_
  refine pm_R_op pm_M207 (pc' := 9) (st' := [.int 0, .int 0]) rfl rfl rfl ?_
  refine pm_R_op pm_M207 (pc' := 10) (st' := [.int 0]) rfl rfl rfl ?_
  refine pm_R_lo pm_M207 (pc' := 11) rfl rfl rfl ?_
  refine sf_R_iadd pm_M207 (pc' := 12) rfl rfl sf_k0 B25 (by decide) (by decide) (fun z26 e27 B28 => ?_)
  refine pm_R_ret pm_M207 (r := some (.int z26)) rfl (pm_ret_i _) ?_
  show pm_R _ 243 22 [.ref 41, .int a0, .int a1, .int a2, .int a3] [.int z26, .ref 55] _ _
  obtain ⟨f29, e30, b31⟩ := T17.2.2.2.1 55 (by decide) (by decide)
  refine rf_R_lld pm_M243 T17 (pc' := 23) rfl e30 (by decide) (by decide) (sf_in B28 (by decide) (by decide)) rfl (fun z32 ez33 => ?_)
  have B34 : lf_B 0 1000000000000 z32 := ez33 ▸ b31 _
  refine pm_R_op pm_M243 (pc' := 24) (st' := [.long 1, .long z32]) rfl rfl rfl ?_
  refine sf_R_lcmp pm_M243 (pc' := 25) rfl rfl (fun z35 e36 => ?_)
  refine pm_R_ifc pm_M243 (t := 39) (pc' := 28) rfl rfl rfl (fun c37 => ?_) (fun c37 => ?_)
  · have k38 := sf_lneC e36 c37
    refine pm_R_op pm_M243 (pc' := 40) (st' := [.int 0]) rfl rfl rfl ?_
    exact pm_R_ret pm_M243 (r := some (.int 0)) rfl rfl (K 0 m14 w15 h16 T17 F20 W22 (sf_weak sf_k0 (by decide) (by decide)))
  · have B39 : sf_B 0 0 z35 := sf_eqL (Classical.not_not.mp c37) sf_k0
    refine pm_R_lo pm_M243 (pc' := 29) rfl rfl rfl ?_
    refine pm_R_cv pm_M243 (pc' := 32) (a := 41) (ra := []) (rest := []) (ls' := [.ref 41]) rfl rfl (Or.inl rfl) pm_M215 T17.2.1 rfl (by decide) (Nat.lt_of_lt_of_le (by decide) T17.1) rfl rfl (Nat.le_of_ble_eq_true rfl) rfl rfl ?_
    refine rf_c215 (d := d + 1) T17 (sf_weak B21 (by decide) (by decide)) (fun r40 m42 w43 h44 T45 F46 W47 => ?_)
    have F48 := F20.trans F46 (by decide)
    have B49 : sf_B 1 4 (m42 24) := by rw [W47 24 (by decide)]; exact B21
    have W50 : rf_W [24, 26] m m42 := W22.trans W47 (by decide)
    show pm_R _ 243 32 [.ref 41, .int a0, .int a1, .int a2, .int a3] [.long r40] _ _
    refine pm_R_op pm_M243 (pc' := 33) (st' := [.long 1, .long r40]) rfl rfl rfl ?_
    refine pm_R_lo pm_M243 (pc' := 34) rfl rfl rfl ?_
    refine sf_R_lany pm_M243 (pc' := 35) (st := [.long r40]) rfl rfl rfl (fun z51 => ?_)
    refine sf_R_lcmp pm_M243 (pc' := 36) rfl rfl (fun z52 e53 => ?_)
    refine pm_R_ifc pm_M243 (t := 41) (pc' := 39) rfl rfl rfl (fun c54 => ?_) (fun c54 => ?_)
    · have B55 : sf_B 0 0 z52 := sf_eqL c54 sf_k0
      refine pm_R_lo pm_M243 (pc' := 43) rfl rfl rfl ?_
      refine pm_R_op pm_M243 (pc' := 44) (st' := [.int (-1), .int a3]) rfl rfl rfl ?_
      refine pm_R_icmp pm_M243 (t := 60) (pc' := 47) rfl rfl rfl (fun c56 => ?_) (fun c56 => ?_)
      · have B57 : sf_B (-1) (-1) a3 := sf_eqL c56 sf_kn1
        refine pm_R_op pm_M243 (pc' := 61) (st' := [.int 1]) rfl rfl rfl ?_
        refine pm_R_br pm_M243 (pc' := 65) rfl rfl ?_
        exact pm_R_ret pm_M243 (r := some (.int 1)) rfl rfl (K 1 m42 w43 h44 T45 F48 W50 (sf_weak sf_k1 (by decide) (by decide)))
      · have B58 : sf_B 0 9 a3 := sf_neL0 c56 sf_kn1 Ba3
        refine pm_R_lo pm_M243 (pc' := 48) rfl rfl rfl ?_
        refine pm_R_lo pm_M243 (pc' := 50) rfl rfl rfl ?_
        refine pm_R_cv pm_M243 (pc' := 53) (a := 41) (ra := [.int a3]) (rest := []) (ls' := [.ref 41, .int a3]) rfl rfl (Or.inl rfl) pm_M234 T45.2.1 rfl (by decide) (Nat.lt_of_lt_of_le (by decide) T45.1) rfl rfl (Nat.le_of_ble_eq_true rfl) rfl rfl ?_
        refine pm_R_lo pm_M234 (pc' := 1) rfl rfl rfl ?_
        refine pm_R_lo pm_M234 (pc' := 2) rfl rfl rfl ?_
        refine pm_R_cv pm_M234 (pc' := 5) (a := 41) (ra := [.int a3]) (rest := []) (ls' := [.ref 41, .int a3, pm_no, pm_no, pm_no, pm_no]) rfl rfl (Or.inl rfl) pm_M235 T45.2.1 rfl (by decide) (Nat.lt_of_lt_of_le (by decide) T45.1) rfl rfl (Nat.le_of_ble_eq_true rfl) rfl rfl ?_
        refine rf_c235 (d := d + 4) T45 (sf_weak B58 (by decide) (by decide)) (fun m61 w62 h63 T64 F65 W66 => ?_)
        have F67 := F48.trans F65 (by decide)
        have B68 : sf_B 1 4 (m61 24) := by rw [W66 24 (by decide)]; exact B49
        have W69 : rf_W [24, 26] m m61 := W50.trans W66 (by decide)
        show pm_R _ 234 5 [.ref 41, .int a3] [] _ _
        refine pm_R_lo pm_M234 (pc' := 6) rfl rfl rfl ?_
        refine pm_R_cv pm_M234 (pc' := 9) (a := 41) (ra := []) (rest := []) (ls' := [.ref 41]) rfl rfl (Or.inl rfl) pm_M215 T64.2.1 rfl (by decide) (Nat.lt_of_lt_of_le (by decide) T64.1) rfl rfl (Nat.le_of_ble_eq_true rfl) rfl rfl ?_
        refine rf_c215 (d := d + 0) T64 (sf_weak B68 (by decide) (by decide)) (fun r70 m72 w73 h74 T75 F76 W77 => ?_)
        have F78 := F67.trans F76 (by decide)
        have B79 : sf_B 1 4 (m72 24) := by rw [W77 24 (by decide)]; exact B68
        have W80 : rf_W [24, 26] m m72 := W69.trans W77 (by decide)
        show pm_R _ 234 9 [.ref 41, .int a3] [.long r70] _ _
        refine pm_R_ret pm_M234 (r := some (.long r70)) rfl rfl ?_
        show pm_R _ 243 53 [.ref 41, .int a0, .int a1, .int a2, .int a3] [.long r70] _ _
        refine pm_R_op pm_M243 (pc' := 54) (st' := [.long 1, .long r70]) rfl rfl rfl ?_
        refine pm_R_lo pm_M243 (pc' := 55) rfl rfl rfl ?_
        refine sf_R_lany pm_M243 (pc' := 56) (st := [.long r70]) rfl rfl rfl (fun z81 => ?_)
        refine sf_R_lcmp pm_M243 (pc' := 57) rfl rfl (fun z82 e83 => ?_)
        refine pm_R_ifc pm_M243 (t := 64) (pc' := 60) rfl rfl rfl (fun c84 => ?_) (fun c84 => ?_)
        · have k85 := sf_lneC e83 c84
          refine pm_R_op pm_M243 (pc' := 65) (st' := [.int 0]) rfl rfl rfl ?_
          exact pm_R_ret pm_M243 (r := some (.int 0)) rfl rfl (K 0 m72 w73 h74 T75 F78 W80 (sf_weak sf_k0 (by decide) (by decide)))
        · have B86 : sf_B 0 0 z82 := sf_eqL (Classical.not_not.mp c84) sf_k0
          refine pm_R_op pm_M243 (pc' := 61) (st' := [.int 1]) rfl rfl rfl ?_
          refine pm_R_br pm_M243 (pc' := 65) rfl rfl ?_
          exact pm_R_ret pm_M243 (r := some (.int 1)) rfl rfl (K 1 m72 w73 h74 T75 F78 W80 (sf_weak sf_k1 (by decide) (by decide)))
    · have k87 := sf_lneC e53 c54
      refine pm_R_op pm_M243 (pc' := 40) (st' := [.int 0]) rfl rfl rfl ?_
      exact pm_R_ret pm_M243 (r := some (.int 0)) rfl rfl (K 0 m42 w43 h44 T45 F48 W50 (sf_weak sf_k0 (by decide) (by decide)))

set_option maxRecDepth 100000 in
set_option maxHeartbeats 4000000 in
/-- SilentTableModel.findBrief -/
theorem rf_c241 {d : Nat} {m : Nat → Int32} {w : Int64} {h : pm_H} {Q : Option Value → pm_H → Prop} {a0 : Int32} {a1 : Int32} (T : rf_T m w h) (Ba0 : sf_B 0 49 a0) (Ba1 : sf_B (-1) 9 a1) (K : ∀ (r : Int32) (m' : Nat → Int32) (w' : Int64) (h' : pm_H), rf_T m' w' h' → rf_G [41, 53, 54, 55, 66] h h' → rf_W [24, 26] m m' → sf_B 0 1 r → Q (some (.int r)) h') : pm_R (d + 8) 241 0 [.ref 41, .int a0, .int a1, pm_no, pm_no] [] h Q := by
  refine pm_R_op pm_M241 (pc' := 1) (st' := [.int 1]) rfl rfl rfl ?_
  refine pm_R_lo pm_M241 (pc' := 2) (ls' := [.ref 41, .int a0, .int a1, .int 1, pm_no]) (st' := []) rfl rfl rfl ?_
  have L_1325 : ∀ (N : Nat) (h_1325 : pm_H) (m_1325 : Nat → Int32) (w_1325 : Int64) (x3_1325 : Int32) (g4_1325 : Value), rf_T m_1325 w_1325 h_1325 → rf_G [41, 53, 54, 55, 66] h h_1325 → rf_W [24, 26] m m_1325 → sf_B 1 5 x3_1325 → g4_1325.category = 1 → (5 - x3_1325.toInt).toNat = N → pm_R (d + 8) 241 2 [.ref 41, .int a0, .int a1, .int x3_1325, g4_1325] [] h_1325 Q := by
    intro N
    induction N using Nat.strongRecOn with
    | ind N ih_1325 =>
      intro h_1325 m_1325 w_1325 x3_1325 g4_1325 T_1325 F_1325 W_1325 Bx3_1325 Cg4_1325 hN_1325
      have W1328 : rf_W [24, 26] m m_1325 := (rf_W.refl [24, 26] m).trans W_1325 (by decide)
      refine pm_R_lo pm_M241 (pc' := 3) rfl rfl rfl ?_
      refine pm_R_op pm_M241 (pc' := 4) (st' := [.int 4, .int x3_1325]) rfl rfl rfl ?_
      refine pm_R_icmp pm_M241 (t := 52) (pc' := 7) rfl rfl rfl (fun c1329 => ?_) (fun c1329 => ?_)
      · have B1330 : sf_B 5 5 x3_1325 := sf_ltR c1329 sf_k4 Bx3_1325
        refine pm_R_op pm_M241 (pc' := 53) (st' := [.int 0]) rfl rfl rfl ?_
        exact pm_R_ret pm_M241 (r := some (.int 0)) rfl rfl (K 0 m_1325 w_1325 h_1325 T_1325 F_1325 W1328 (sf_weak sf_k0 (by decide) (by decide)))
      · have B1331 : sf_B 1 4 x3_1325 := sf_leL (Int32.not_lt.mp c1329) Bx3_1325 sf_k4
        refine pm_R_op pm_M241 (pc' := 8) (st' := [.int 0]) rfl rfl rfl ?_
        refine pm_R_lo pm_M241 (pc' := 10) (ls' := [.ref 41, .int a0, .int a1, .int x3_1325, .int 0]) (st' := []) rfl rfl rfl ?_
        have L_1557 : ∀ (N : Nat) (h_1557 : pm_H) (m_1557 : Nat → Int32) (w_1557 : Int64) (x4_1557 : Int32), rf_T m_1557 w_1557 h_1557 → rf_G [41, 53, 54, 55, 66] h h_1557 → rf_W [24, 26] m_1325 m_1557 → sf_B 0 2147483647 x4_1557 → (2147483647 - x4_1557.toInt).toNat = N → pm_R (d + 8) 241 10 [.ref 41, .int a0, .int a1, .int x3_1325, .int x4_1557] [] h_1557 Q := by
          intro N
          induction N using Nat.strongRecOn with
          | ind N ih_1557 =>
            intro h_1557 m_1557 w_1557 x4_1557 T_1557 F_1557 W_1557 Bx4_1557 hN_1557
            have W1560 : rf_W [24, 26] m m_1557 := W1328.trans W_1557 (by decide)
            have W1561 : rf_W [24, 26] m m_1557 := W_1325.trans W_1557 (by decide)
            refine pm_R_lo pm_M241 (pc' := 12) rfl rfl rfl ?_
            refine pm_R_lo pm_M241 (pc' := 13) rfl rfl rfl ?_
            refine pm_R_cs pm_M241 (pc' := 16) (ra := [.int x3_1325]) (rest := [.int x4_1557]) (ls' := [.int x3_1325, pm_no, pm_no]) rfl rfl (Or.inl rfl) pm_M242 rfl rfl (Nat.le_of_ble_eq_true rfl) rfl rfl ?_
            refine rf_c242 (d := d + 7) (sf_weak B1331 (by decide) (by decide)) (fun r1562 => ?_)
            show pm_R _ 241 16 [.ref 41, .int a0, .int a1, .int x3_1325, .int x4_1557] [.int r1562, .int x4_1557] _ _
            refine pm_R_icmp pm_M241 (t := 46) (pc' := 19) rfl rfl rfl (fun c1570 => ?_) (fun c1570 => ?_)
            · skip
              refine sf_R_iinc pm_M241 (pc' := 49) (ls' := fun z => [.ref 41, .int a0, .int a1, .int z, .int x4_1557]) rfl B1331 rfl (by decide) (by decide) (by decide) (fun _ => rfl) rfl (fun z1571 e1572 B1573 => ?_)
              show pm_R _ 241 49 [.ref 41, .int a0, .int a1, .int z1571, .int x4_1557] [] _ _
              refine pm_R_br pm_M241 (pc' := 2) rfl rfl ?_
              exact ih_1325 _ (sf_up hN_1325 e1572 B1331 (by decide) (by decide)) h_1557 m_1557 w_1557 z1571 (.int x4_1557) T_1557 F_1557 W1561 (sf_weak B1573 (by decide) (by decide)) rfl rfl
            · have B1574 : sf_B 0 2147483646 x4_1557 := sf_ltL (Int32.not_le.mp c1570) Bx4_1557 (sf_any r1562)
              have B1575 : sf_B 1 2147483647 r1562 := sf_ltR (Int32.not_le.mp c1570) Bx4_1557 (sf_any r1562)
              refine pm_R_lo pm_M241 (pc' := 20) rfl rfl rfl ?_
              refine pm_R_lo pm_M241 (pc' := 21) rfl rfl rfl ?_
              refine pm_R_lo pm_M241 (pc' := 23) rfl rfl rfl ?_
              refine pm_R_lo pm_M241 (pc' := 24) rfl rfl rfl ?_
              refine pm_R_lo pm_M241 (pc' := 25) rfl rfl rfl ?_
              refine pm_R_cv pm_M241 (pc' := 28) (a := 41) (ra := [.int a1, .int a0, .int x4_1557, .int x3_1325]) (rest := []) (ls' := [.ref 41, .int x3_1325, .int x4_1557, .int a0, .int a1]) rfl rfl (Or.inl rfl) pm_M243 T_1557.2.1 rfl (by decide) (Nat.lt_of_lt_of_le (by decide) T_1557.1) rfl rfl (Nat.le_of_ble_eq_true rfl) rfl rfl ?_
              refine rf_c243 (d := d + 0) T_1557 B1331 (sf_weak B1574 (by decide) (by decide)) Ba0 Ba1 (fun r1576 m1578 w1579 h1580 T1581 F1582 W1583 B1577 => ?_)
              have F1584 := F_1557.trans F1582 (by decide)
              have W1585 : rf_W [24, 26] m m1578 := W1560.trans W1583 (by decide)
              have W1586 : rf_W [24, 26] m m1578 := W1561.trans W1583 (by decide)
              have W1587 : rf_W [24, 26] m_1325 m1578 := W_1557.trans W1583 (by decide)
              show pm_R _ 241 28 [.ref 41, .int a0, .int a1, .int x3_1325, .int x4_1557] [.int r1576] _ _
              refine pm_R_ifc pm_M241 (t := 40) (pc' := 31) rfl rfl rfl (fun c1588 => ?_) (fun c1588 => ?_)
              · have B1589 : sf_B 0 0 r1576 := sf_eqL c1588 sf_k0
                refine sf_R_iinc pm_M241 (pc' := 43) (ls' := fun z => [.ref 41, .int a0, .int a1, .int x3_1325, .int z]) rfl B1574 rfl (by decide) (by decide) (by decide) (fun _ => rfl) rfl (fun z1590 e1591 B1592 => ?_)
                show pm_R _ 241 43 [.ref 41, .int a0, .int a1, .int x3_1325, .int z1590] [] _ _
                refine pm_R_br pm_M241 (pc' := 10) rfl rfl ?_
                exact ih_1557 _ (sf_up hN_1557 e1591 B1574 (by decide) (by decide)) h1580 m1578 w1579 z1590 T1581 F1584 W1587 (sf_weak B1592 (by decide) (by decide)) rfl
              · have B1593 : sf_B 1 1 r1576 := sf_neL0 c1588 sf_k0 B1577
                refine pm_R_lo pm_M241 (pc' := 32) rfl rfl rfl ?_
                refine pm_R_lo pm_M241 (pc' := 33) rfl rfl rfl ?_
                refine pm_R_lo pm_M241 (pc' := 35) rfl rfl rfl ?_
                refine pm_R_cv pm_M241 (pc' := 38) (a := 41) (ra := [.int x4_1557, .int x3_1325]) (rest := []) (ls' := [.ref 41, .int x3_1325, .int x4_1557, pm_no, pm_no]) rfl rfl (Or.inl rfl) pm_M245 T1581.2.1 rfl (by decide) (Nat.lt_of_lt_of_le (by decide) T1581.1) rfl rfl (Nat.le_of_ble_eq_true rfl) rfl rfl ?_
                refine rf_c245 (d := d + 7) T1581 B1331 (sf_weak B1574 (by decide) (by decide)) (fun m1596 w1597 h1598 T1599 F1600 W1601 => ?_)
                have F1602 := F1584.trans F1600 (by decide)
                have W1603 : rf_W [24, 26] m m1596 := W1585.trans W1601 (by decide)
                have W1604 : rf_W [24, 26] m m1596 := W1586.trans W1601 (by decide)
                have W1605 : rf_W [24, 26] m_1325 m1596 := W1587.trans W1601 (by decide)
                show pm_R _ 241 38 [.ref 41, .int a0, .int a1, .int x3_1325, .int x4_1557] [] _ _
                refine pm_R_op pm_M241 (pc' := 39) (st' := [.int 1]) rfl rfl rfl ?_
                exact pm_R_ret pm_M241 (r := some (.int 1)) rfl rfl (K 1 m1596 w1597 h1598 T1599 F1602 W1603 (sf_weak sf_k1 (by decide) (by decide)))
        exact L_1557 _ h_1325 m_1325 w_1325 0 T_1325 F_1325 (rf_W.refl _ _) (sf_weak sf_k0 (by decide) (by decide)) rfl
  exact L_1325 _ h m w 1 (pm_no) T (rf_G.refl [41, 53, 54, 55, 66] h) (rf_W.refl _ _) (sf_weak sf_k1 (by decide) (by decide)) rfl rfl

set_option maxRecDepth 100000 in
set_option maxHeartbeats 4000000 in
/-- SilentTableModel.layMeal -/
theorem rf_c254 {d : Nat} {m : Nat → Int32} {w : Int64} {h : pm_H} {Q : Option Value → pm_H → Prop} {a0 : Int32} (T : rf_T m w h)  (K : ∀ (r : Int32) (m' : Nat → Int32) (w' : Int64) (h' : pm_H), rf_T m' w' h' → rf_G [41, 67, 68] h h' → rf_W [42, 43, 44] m m' → sf_B 0 1 r → Q (some (.int r)) h') : pm_R (d + 2) 254 0 [.ref 41, .int a0, pm_no, pm_no, pm_no, pm_no] [] h Q := by
  refine pm_R_lo pm_M254 (pc' := 1) rfl rfl rfl ?_
  refine pm_R_op pm_M254 (pc' := 2) (st' := [.int 2, .ref 41]) rfl rfl rfl ?_
  refine pm_R_lo pm_M254 (pc' := 3) rfl rfl rfl ?_
  refine pm_R_cv pm_M254 (pc' := 6) (a := 41) (ra := [.int a0, .int 2]) (rest := []) (ls' := [.ref 41, .int 2, .int a0]) rfl rfl (Or.inl rfl) pm_M177 T.2.1 rfl (by decide) (Nat.lt_of_lt_of_le (by decide) T.1) rfl rfl (Nat.le_of_ble_eq_true rfl) rfl rfl ?_
  refine pm_R_lo pm_M177 (pc' := 1) rfl rfl rfl ?_
  refine pm_R_op pm_M177 (pc' := 2) (st' := [.int 0, .int a0]) rfl rfl rfl ?_
  refine pm_R_lo pm_M177 (pc' := 3) rfl rfl rfl ?_
  refine rf_R_get pm_M177 T (pc' := 6) (v := .ref 46) rfl rfl rfl rfl ?_
  refine pm_R_lo pm_M177 (pc' := 7) rfl rfl rfl ?_
  obtain ⟨f1, e2, b3⟩ := T.2.2.2.1 46 (by decide) (by decide)
  refine rf_R_ild pm_M177 T (pc' := 8) rfl e2 (by decide) rfl rfl (fun z4 ez5 => ?_)
  have B6 : sf_B 0 2 z4 := ez5 ▸ (b3 2)
  refine pm_R_op pm_M177 (pc' := 9) (st' := [.int 1, .int z4, .int 0, .int a0]) rfl rfl rfl ?_
  refine sf_R_isub pm_M177 (pc' := 10) rfl rfl B6 sf_k1 (by decide) (by decide) (fun z7 e8 B9 => ?_)
  refine pm_R_cs pm_M177 (pc' := 13) (ra := [.int z7, .int 0, .int a0]) (rest := []) (ls' := [.int a0, .int 0, .int z7]) rfl rfl (Or.inl rfl) pm_M174 rfl rfl (Nat.le_of_ble_eq_true rfl) rfl rfl ?_
  refine pm_R_lo pm_M174 (pc' := 1) rfl rfl rfl ?_
  refine pm_R_lo pm_M174 (pc' := 2) rfl rfl rfl ?_
  refine pm_R_icmp pm_M174 (t := 14) (pc' := 5) rfl rfl rfl (fun c10 => ?_) (fun c10 => ?_)
  · have B11 : sf_B (-2147483648) (-1) a0 := sf_ltL c10 (sf_any a0) sf_k0
    refine pm_R_op pm_M174 (pc' := 15) (st' := [.int 0]) rfl rfl rfl ?_
    refine pm_R_ret pm_M174 (r := some (.int 0)) rfl rfl ?_
    show pm_R _ 177 13 [.ref 41, .int 2, .int a0] [.int 0] _ _
    refine pm_R_ret pm_M177 (r := some (.int 0)) rfl rfl ?_
    show pm_R _ 254 6 [.ref 41, .int a0, pm_no, pm_no, pm_no, pm_no] [.int 0] _ _
    refine pm_R_br pm_M254 (pc' := 9) (st' := []) rfl rfl ?_
    refine pm_R_op pm_M254 (pc' := 10) (st' := [.int 0]) rfl rfl rfl ?_
    exact pm_R_ret pm_M254 (r := some (.int 0)) rfl rfl (K 0 m w h T (rf_G.refl [41, 67, 68] h) (rf_W.refl [42, 43, 44] m) (sf_weak sf_k0 (by decide) (by decide)))
  · have B12 : sf_B 0 2147483647 a0 := sf_leR (Int32.not_lt.mp c10) sf_k0 (sf_any a0)
    refine pm_R_lo pm_M174 (pc' := 6) rfl rfl rfl ?_
    refine pm_R_lo pm_M174 (pc' := 7) rfl rfl rfl ?_
    refine pm_R_icmp pm_M174 (t := 14) (pc' := 10) rfl rfl rfl (fun c13 => ?_) (fun c13 => ?_)
    · skip
      refine pm_R_op pm_M174 (pc' := 15) (st' := [.int 0]) rfl rfl rfl ?_
      refine pm_R_ret pm_M174 (r := some (.int 0)) rfl rfl ?_
      show pm_R _ 177 13 [.ref 41, .int 2, .int a0] [.int 0] _ _
      refine pm_R_ret pm_M177 (r := some (.int 0)) rfl rfl ?_
      show pm_R _ 254 6 [.ref 41, .int a0, pm_no, pm_no, pm_no, pm_no] [.int 0] _ _
      refine pm_R_br pm_M254 (pc' := 9) (st' := []) rfl rfl ?_
      refine pm_R_op pm_M254 (pc' := 10) (st' := [.int 0]) rfl rfl rfl ?_
      exact pm_R_ret pm_M254 (r := some (.int 0)) rfl rfl (K 0 m w h T (rf_G.refl [41, 67, 68] h) (rf_W.refl [42, 43, 44] m) (sf_weak sf_k0 (by decide) (by decide)))
    · have B14 : sf_B 0 1 a0 := sf_leL (Int32.not_lt.mp c13) B12 B9
      have B15 : sf_B 0 1 z7 := sf_leR (Int32.not_lt.mp c13) B12 B9
      refine pm_R_op pm_M174 (pc' := 11) (st' := [.int 1]) rfl rfl rfl ?_
      refine pm_R_br pm_M174 (pc' := 15) rfl rfl ?_
      refine pm_R_ret pm_M174 (r := some (.int 1)) rfl rfl ?_
      show pm_R _ 177 13 [.ref 41, .int 2, .int a0] [.int 1] _ _
      refine pm_R_ret pm_M177 (r := some (.int 1)) rfl rfl ?_
      show pm_R _ 254 6 [.ref 41, .int a0, pm_no, pm_no, pm_no, pm_no] [.int 1] _ _
      refine pm_R_br pm_M254 (pc' := 11) (st' := []) rfl rfl ?_
      refine pm_R_lo pm_M254 (pc' := 12) rfl rfl rfl ?_
      refine pm_R_lo pm_M254 (pc' := 13) rfl rfl rfl ?_
      refine rf_R_put pm_M254 T (pc' := 16) rfl rfl rfl (by decide) rfl rfl B14 rfl rfl (fun h16 m19 em20 T17 F18 => ?_)
      have F21 := (rf_G.refl [41, 67, 68] h).trans F18 (by decide)
      have B22 : sf_B 0 1 (m19 44) := by rw [em20]; exact B14
      have ek23 : (m19 44).toInt = (a0).toInt := by rw [em20]; rfl
      have W24 : rf_W [42, 43, 44] m m19 := by rw [em20]; exact (rf_W.refl [42, 43, 44] m).put (by decide)
      refine pm_R_lo pm_M254 (pc' := 17) rfl rfl rfl ?_
      refine pm_R_lo pm_M254 (pc' := 18) rfl rfl rfl ?_
      refine rf_R_get pm_M254 T17 (pc' := 21) (v := .ref 49) rfl rfl rfl rfl ?_
      refine pm_R_op pm_M254 (pc' := 24) (st' := [.int 152, .ref 49, .ref 41]) rfl rfl rfl ?_
      refine pm_R_lo pm_M254 (pc' := 25) rfl rfl rfl ?_
      refine sf_R_imul pm_M254 (pc' := 26) rfl rfl sf_k152 B14 (by decide) (by decide) (by decide) (fun z25 e26 B27 => ?_)
      obtain ⟨f28, e29, b30⟩ := T17.2.2.2.1 49 (by decide) (by decide)
      refine rf_R_ild pm_M254 T17 (pc' := 27) rfl e29 (by decide) (sf_in B27 (by decide) (by decide)) rfl (fun z31 ez32 => ?_)
      have e33 : (z25).toInt = 152 * (a0).toInt + 0 := by
        have q0 := e26
        simp only [(show (152 : Int32).toInt = 152 from rfl)] at q0
        omega
      have B34 : sf_B 0 6 z31 := ez32 ▸ rf_p49a b30 e33 B14 (by decide)
      refine rf_R_put pm_M254 T17 (pc' := 30) rfl rfl rfl (by decide) rfl rfl B34 rfl rfl (fun h35 m38 em39 T36 F37 => ?_)
      have F40 := F21.trans F37 (by decide)
      have B41 : sf_B 0 6 (m38 42) := by rw [em39]; exact B34
      have ek42 : (m38 42).toInt = (z31).toInt := by rw [em39]; rfl
      have W43 : rf_W [42, 43, 44] m m38 := by rw [em39]; exact W24.put (by decide)
      refine pm_R_lo pm_M254 (pc' := 31) rfl rfl rfl ?_
      refine pm_R_lo pm_M254 (pc' := 32) rfl rfl rfl ?_
      refine rf_R_get pm_M254 T36 (pc' := 35) (v := .ref 49) rfl rfl rfl rfl ?_
      refine pm_R_op pm_M254 (pc' := 38) (st' := [.int 152, .ref 49, .ref 41]) rfl rfl rfl ?_
      refine pm_R_lo pm_M254 (pc' := 39) rfl rfl rfl ?_
      refine sf_R_imul pm_M254 (pc' := 40) rfl rfl sf_k152 B14 (by decide) (by decide) (by decide) (fun z44 e45 B46 => ?_)
      refine pm_R_op pm_M254 (pc' := 41) (st' := [.int 1, .int z44, .ref 49, .ref 41]) rfl rfl rfl ?_
      refine sf_R_iadd pm_M254 (pc' := 42) rfl rfl B46 sf_k1 (by decide) (by decide) (fun z47 e48 B49 => ?_)
      have e50 := (F37.cell (by decide) e29)
      refine rf_R_ild pm_M254 T36 (pc' := 43) rfl e50 (by decide) (sf_in B49 (by decide) (by decide)) rfl (fun z51 ez52 => ?_)
      have e53 : (z47).toInt = 152 * (a0).toInt + 1 := by
        have q0 := e45
        have q1 := e48
        simp only [(show (1 : Int32).toInt = 1 from rfl), (show (152 : Int32).toInt = 152 from rfl)] at q0 q1
        omega
      have B54 : sf_B 0 50 z51 := ez52 ▸ rf_p49b b30 e53 B14 (by decide)
      refine rf_R_put pm_M254 T36 (pc' := 46) rfl rfl rfl (by decide) rfl rfl B54 rfl rfl (fun h55 m58 em59 T56 F57 => ?_)
      have F60 := F40.trans F57 (by decide)
      have B61 : sf_B 0 50 (m58 43) := by rw [em59]; exact B54
      have ek62 : (m58 43).toInt = (z51).toInt := by rw [em59]; rfl
      have W63 : rf_W [42, 43, 44] m m58 := by rw [em59]; exact W43.put (by decide)
      refine pm_R_op pm_M254 (pc' := 47) (st' := [.int 0]) rfl rfl rfl ?_
      refine pm_R_lo pm_M254 (pc' := 48) (ls' := [.ref 41, .int a0, .int 0, pm_no, pm_no, pm_no]) (st' := []) rfl rfl rfl ?_
      have L_25273 : ∀ (N : Nat) (h_25273 : pm_H) (m_25273 : Nat → Int32) (w_25273 : Int64) (x2_25273 : Int32), rf_T m_25273 w_25273 h_25273 → rf_G [41, 67, 68] h h_25273 → rf_W [] m58 m_25273 → sf_B 0 6 x2_25273 → (6 - x2_25273.toInt).toNat = N → pm_R (d + 2) 254 48 [.ref 41, .int a0, .int x2_25273, pm_no, pm_no, pm_no] [] h_25273 Q := by
        intro N
        induction N using Nat.strongRecOn with
        | ind N ih_25273 =>
          intro h_25273 m_25273 w_25273 x2_25273 T_25273 F_25273 W_25273 Bx2_25273 hN_25273
          have W25276 : rf_W [42, 43, 44] m m_25273 := W63.trans W_25273 (by decide)
          refine pm_R_lo pm_M254 (pc' := 49) rfl rfl rfl ?_
          refine pm_R_op pm_M254 (pc' := 51) (st' := [.int 6, .int x2_25273]) rfl rfl rfl ?_
          refine pm_R_icmp pm_M254 (t := 67) (pc' := 54) rfl rfl rfl (fun c25277 => ?_) (fun c25277 => ?_)
          · have B25278 : sf_B 6 6 x2_25273 := sf_leR c25277 sf_k6 Bx2_25273
            refine pm_R_op pm_M254 (pc' := 68) (st' := [.int 0]) rfl rfl rfl ?_
            refine pm_R_lo pm_M254 (pc' := 69) (ls' := [.ref 41, .int a0, .int 0, pm_no, pm_no, pm_no]) (st' := []) rfl rfl rfl ?_
            have L_37849 : ∀ (N : Nat) (h_37849 : pm_H) (m_37849 : Nat → Int32) (w_37849 : Int64) (x2_37849 : Int32) (g3_37849 : Value) (g4_37849 : Value) (g5_37849 : Value), rf_T m_37849 w_37849 h_37849 → rf_G [41, 67, 68] h h_37849 → rf_W [] m_25273 m_37849 → sf_B 0 50 x2_37849 → g3_37849.category = 1 → g4_37849.category = 1 → g5_37849.category = 1 → (50 - x2_37849.toInt).toNat = N → pm_R (d + 2) 254 69 [.ref 41, .int a0, .int x2_37849, g3_37849, g4_37849, g5_37849] [] h_37849 Q := by
              intro N
              induction N using Nat.strongRecOn with
              | ind N ih_37849 =>
                intro h_37849 m_37849 w_37849 x2_37849 g3_37849 g4_37849 g5_37849 T_37849 F_37849 W_37849 Bx2_37849 Cg3_37849 Cg4_37849 Cg5_37849 hN_37849
                have W37852 : rf_W [42, 43, 44] m m_37849 := W25276.trans W_37849 (by decide)
                have W37853 : rf_W [] m58 m_37849 := W_25273.trans W_37849 (by decide)
                refine pm_R_lo pm_M254 (pc' := 70) rfl rfl rfl ?_
                refine pm_R_lo pm_M254 (pc' := 71) rfl rfl rfl ?_
                have B37854 : sf_B 0 50 (m_37849 43) := T_37849.2.2.1 43
                refine rf_R_get pm_M254 T_37849 (pc' := 74) (v := .int (m_37849 43)) rfl rfl rfl rfl ?_
                refine pm_R_icmp pm_M254 (t := 214) (pc' := 77) rfl rfl rfl (fun c37855 => ?_) (fun c37855 => ?_)
                · skip
                  refine pm_R_op pm_M254 (pc' := 215) (st' := [.int 1]) (pm_q254_2 (Nat.le_of_ble_eq_true rfl)) rfl rfl ?_
                  exact pm_R_ret pm_M254 (r := some (.int 1)) (pm_q254_2 (Nat.le_of_ble_eq_true rfl)) rfl (K 1 m_37849 w_37849 h_37849 T_37849 F_37849 W37852 (sf_weak sf_k1 (by decide) (by decide)))
                · have B37856 : sf_B 0 49 x2_37849 := sf_ltL (Int32.not_le.mp c37855) Bx2_37849 B37854
                  have B37857 : sf_B 1 50 (m_37849 43) := sf_ltR (Int32.not_le.mp c37855) Bx2_37849 B37854
                  refine pm_R_lo pm_M254 (pc' := 78) rfl rfl rfl ?_
                  refine pm_R_lo pm_M254 (pc' := 79) rfl rfl rfl ?_
                  refine pm_R_op pm_M254 (pc' := 80) (st' := [.int 1, .int x2_37849, .ref 41]) rfl rfl rfl ?_
                  refine pm_R_cv pm_M254 (pc' := 83) (a := 41) (ra := [.int 1, .int x2_37849]) (rest := []) (ls' := [.ref 41, .int x2_37849, .int 1]) rfl rfl (Or.inl rfl) pm_M255 T_37849.2.1 rfl (by decide) (Nat.lt_of_lt_of_le (by decide) T_37849.1) rfl rfl (Nat.le_of_ble_eq_true rfl) rfl rfl ?_
                  refine pm_R_lo pm_M255 (pc' := 1) rfl rfl rfl ?_
                  refine rf_R_get pm_M255 T_37849 (pc' := 4) (v := .ref 49) rfl rfl rfl rfl ?_
                  refine pm_R_op pm_M255 (pc' := 7) (st' := [.int 152, .ref 49]) rfl rfl rfl ?_
                  refine pm_R_lo pm_M255 (pc' := 8) rfl rfl rfl ?_
                  have B37858 : sf_B 0 1 (m_37849 44) := T_37849.2.2.1 44
                  refine rf_R_get pm_M255 T_37849 (pc' := 11) (v := .int (m_37849 44)) rfl rfl rfl rfl ?_
                  refine sf_R_imul pm_M255 (pc' := 12) rfl rfl sf_k152 B37858 (by decide) (by decide) (by decide) (fun z37859 e37860 B37861 => ?_)
                  refine pm_R_op pm_M255 (pc' := 13) (st' := [.int 2, .int z37859, .ref 49]) rfl rfl rfl ?_
                  refine sf_R_iadd pm_M255 (pc' := 14) rfl rfl B37861 sf_k2 (by decide) (by decide) (fun z37862 e37863 B37864 => ?_)
                  refine pm_R_op pm_M255 (pc' := 15) (st' := [.int 3, .int z37862, .ref 49]) rfl rfl rfl ?_
                  refine pm_R_lo pm_M255 (pc' := 16) rfl rfl rfl ?_
                  refine sf_R_imul pm_M255 (pc' := 17) rfl rfl sf_k3 B37856 (by decide) (by decide) (by decide) (fun z37865 e37866 B37867 => ?_)
                  refine sf_R_iadd pm_M255 (pc' := 18) rfl rfl B37864 B37867 (by decide) (by decide) (fun z37868 e37869 B37870 => ?_)
                  refine pm_R_lo pm_M255 (pc' := 19) rfl rfl rfl ?_
                  refine sf_R_iadd pm_M255 (pc' := 20) rfl rfl B37870 sf_k1 (by decide) (by decide) (fun z37871 e37872 B37873 => ?_)
                  obtain ⟨f37874, e37875, b37876⟩ := T_37849.2.2.2.1 49 (by decide) (by decide)
                  refine rf_R_ild pm_M255 T_37849 (pc' := 21) rfl e37875 (by decide) (sf_in B37873 (by decide) (by decide)) rfl (fun z37877 ez37878 => ?_)
                  have e37879 : (z37871).toInt = 152 * ((m_37849 44)).toInt + 3 * (x2_37849).toInt + 3 := by
                    have q0 := e37860
                    have q1 := e37863
                    have q2 := e37866
                    have q3 := e37869
                    have q4 := e37872
                    simp only [(show (1 : Int32).toInt = 1 from rfl), (show (2 : Int32).toInt = 2 from rfl), (show (3 : Int32).toInt = 3 from rfl), (show (152 : Int32).toInt = 152 from rfl)] at q0 q1 q2 q3 q4
                    omega
                  have B37880 : sf_B 0 5 z37877 := ez37878 ▸ rf_p49w b37876 e37879 B37858 B37856 (by decide) (by decide) (by decide)
                  refine pm_R_ret pm_M255 (r := some (.int z37877)) rfl (pm_ret_i _) ?_
                  show pm_R _ 254 83 [.ref 41, .int a0, .int x2_37849, g3_37849, g4_37849, g5_37849] [.int z37877] _ _
                  refine pm_R_lo pm_M254 (pc' := 84) (ls' := [.ref 41, .int a0, .int x2_37849, .int z37877, g4_37849, g5_37849]) (st' := []) rfl rfl rfl ?_
                  refine pm_R_lo pm_M254 (pc' := 85) rfl rfl rfl ?_
                  refine rf_R_get pm_M254 T_37849 (pc' := 88) (v := .ref 68) rfl rfl rfl rfl ?_
                  refine pm_R_lo pm_M254 (pc' := 89) rfl rfl rfl ?_
                  refine pm_R_op pm_M254 (pc' := 90) (st' := [.int 0, .int x2_37849, .ref 68]) rfl rfl rfl ?_
                  obtain ⟨f37881, e37882⟩ := T_37849.2.2.2.1 68 (by decide) (by decide)
                  refine rf_R_ist pm_M254 T_37849 (pc' := 91) rfl e37882 (by decide) (by decide) (sf_in B37856 (by decide) (by decide)) ⟨_, rfl⟩ rfl (fun h37884 T37885 F37886 e37887 => ?_)
                  have F37888 := F_37849.trans F37886 (by decide)
                  refine pm_R_op pm_M254 (pc' := 92) (st' := [.int 0]) rfl rfl rfl ?_
                  refine pm_R_lo pm_M254 (pc' := 94) (ls' := [.ref 41, .int a0, .int x2_37849, .int z37877, .int 0, g5_37849]) (st' := []) rfl rfl rfl ?_
                  have L_40362 : ∀ (N : Nat) (h_40362 : pm_H) (m_40362 : Nat → Int32) (w_40362 : Int64) (x4_40362 : Int32) (g5_40362 : Value), rf_T m_40362 w_40362 h_40362 → rf_G [41, 67, 68] h h_40362 → rf_W [] m_37849 m_40362 → sf_B 0 6 x4_40362 → g5_40362.category = 1 → (6 - x4_40362.toInt).toNat = N → pm_R (d + 2) 254 94 [.ref 41, .int a0, .int x2_37849, .int z37877, .int x4_40362, g5_40362] [] h_40362 Q := by
                    intro N
                    induction N using Nat.strongRecOn with
                    | ind N ih_40362 =>
                      intro h_40362 m_40362 w_40362 x4_40362 g5_40362 T_40362 F_40362 W_40362 Bx4_40362 Cg5_40362 hN_40362
                      have B40365 : sf_B 1 50 (m_40362 43) := by rw [W_40362 43 (by decide)]; exact B37857
                      have W40366 : rf_W [42, 43, 44] m m_40362 := W37852.trans W_40362 (by decide)
                      have W40367 : rf_W [] m58 m_40362 := W37853.trans W_40362 (by decide)
                      have W40368 : rf_W [] m_25273 m_40362 := W_37849.trans W_40362 (by decide)
                      refine pm_R_lo pm_M254 (pc' := 96) rfl rfl rfl ?_
                      refine pm_R_op pm_M254 (pc' := 98) (st' := [.int 6, .int x4_40362]) rfl rfl rfl ?_
                      refine pm_R_icmp pm_M254 (t := 208) (pc' := 101) (pm_q254_1 (Nat.le_of_ble_eq_true rfl)) rfl rfl (fun c40369 => ?_) (fun c40369 => ?_)
                      · have B40370 : sf_B 6 6 x4_40362 := sf_leR c40369 sf_k6 Bx4_40362
                        refine sf_R_iinc pm_M254 (pc' := 211) (ls' := fun z => [.ref 41, .int a0, .int z, .int z37877, .int x4_40362, g5_40362]) (pm_q254_2 (Nat.le_of_ble_eq_true rfl)) B37856 rfl (by decide) (by decide) (by decide) (fun _ => rfl) rfl (fun z40371 e40372 B40373 => ?_)
                        show pm_R _ 254 211 [.ref 41, .int a0, .int z40371, .int z37877, .int x4_40362, g5_40362] [] _ _
                        refine pm_R_br pm_M254 (pc' := 69) (pm_q254_2 (Nat.le_of_ble_eq_true rfl)) rfl ?_
                        exact ih_37849 _ (sf_up hN_37849 e40372 B37856 (by decide) (by decide)) h_40362 m_40362 w_40362 z40371 (.int z37877) (.int x4_40362) (g5_40362) T_40362 F_40362 W40368 (sf_weak B40373 (by decide) (by decide)) rfl rfl Cg5_40362 rfl
                      · have B40374 : sf_B 0 5 x4_40362 := sf_ltL (Int32.not_le.mp c40369) Bx4_40362 sf_k6
                        refine pm_R_lo pm_M254 (pc' := 102) (pm_q254_1 (Nat.le_of_ble_eq_true rfl)) rfl rfl ?_
                        refine rf_R_get pm_M254 T_40362 (pc' := 105) (v := .ref 67) (pm_q254_1 (Nat.le_of_ble_eq_true rfl)) rfl rfl rfl ?_
                        refine pm_R_op pm_M254 (pc' := 107) (st' := [.int 6, .ref 67]) (pm_q254_1 (Nat.le_of_ble_eq_true rfl)) rfl rfl ?_
                        refine pm_R_lo pm_M254 (pc' := 108) (pm_q254_1 (Nat.le_of_ble_eq_true rfl)) rfl rfl ?_
                        refine sf_R_imul pm_M254 (pc' := 109) (pm_q254_1 (Nat.le_of_ble_eq_true rfl)) rfl sf_k6 B37856 (by decide) (by decide) (by decide) (fun z40375 e40376 B40377 => ?_)
                        refine pm_R_lo pm_M254 (pc' := 111) (pm_q254_1 (Nat.le_of_ble_eq_true rfl)) rfl rfl ?_
                        refine sf_R_iadd pm_M254 (pc' := 112) (pm_q254_1 (Nat.le_of_ble_eq_true rfl)) rfl B40377 B40374 (by decide) (by decide) (fun z40378 e40379 B40380 => ?_)
                        obtain ⟨f40381, e40382⟩ := T_40362.2.2.2.1 67 (by decide) (by decide)
                        refine rf_R_ild pm_M254 T_40362 (pc' := 113) (pm_q254_1 (Nat.le_of_ble_eq_true rfl)) e40382 (by decide) (sf_in B40380 (by decide) (by decide)) rfl (fun z40384 ez40385 => ?_)
                        refine pm_R_lo pm_M254 (pc' := 115) (ls' := [.ref 41, .int a0, .int x2_37849, .int z37877, .int x4_40362, .int z40384]) (st' := []) (pm_q254_1 (Nat.le_of_ble_eq_true rfl)) rfl rfl ?_
                        refine pm_R_lo pm_M254 (pc' := 116) (pm_q254_1 (Nat.le_of_ble_eq_true rfl)) rfl rfl ?_
                        refine rf_R_get pm_M254 T_40362 (pc' := 119) (v := .ref 68) (pm_q254_1 (Nat.le_of_ble_eq_true rfl)) rfl rfl rfl ?_
                        refine pm_R_lo pm_M254 (pc' := 120) (pm_q254_1 (Nat.le_of_ble_eq_true rfl)) rfl rfl ?_
                        refine pm_R_op pm_M254 (pc' := 121) (st' := [.int x2_37849, .ref 68, .int x2_37849, .ref 68]) (pm_q254_1 (Nat.le_of_ble_eq_true rfl)) rfl rfl ?_
                        obtain ⟨f40386, e40387⟩ := T_40362.2.2.2.1 68 (by decide) (by decide)
                        refine rf_R_ild pm_M254 T_40362 (pc' := 122) (pm_q254_1 (Nat.le_of_ble_eq_true rfl)) e40387 (by decide) (sf_in B37856 (by decide) (by decide)) rfl (fun z40389 ez40390 => ?_)
                        refine pm_R_lo pm_M254 (pc' := 123) (pm_q254_1 (Nat.le_of_ble_eq_true rfl)) rfl rfl ?_
                        refine pm_R_lo pm_M254 (pc' := 124) (pm_q254_1 (Nat.le_of_ble_eq_true rfl)) rfl rfl ?_
                        refine pm_R_op pm_M254 (pc' := 125) (st' := [.int 0, .int x2_37849, .ref 41, .int z40389, .int x2_37849, .ref 68]) (pm_q254_1 (Nat.le_of_ble_eq_true rfl)) rfl rfl ?_
                        refine pm_R_cv pm_M254 (pc' := 128) (a := 41) (ra := [.int 0, .int x2_37849]) (rest := [.int z40389, .int x2_37849, .ref 68]) (ls' := [.ref 41, .int x2_37849, .int 0]) (pm_q254_1 (Nat.le_of_ble_eq_true rfl)) rfl (Or.inl rfl) pm_M255 T_40362.2.1 rfl (by decide) (Nat.lt_of_lt_of_le (by decide) T_40362.1) rfl rfl (Nat.le_of_ble_eq_true rfl) rfl rfl ?_
                        refine pm_R_lo pm_M255 (pc' := 1) rfl rfl rfl ?_
                        refine rf_R_get pm_M255 T_40362 (pc' := 4) (v := .ref 49) rfl rfl rfl rfl ?_
                        refine pm_R_op pm_M255 (pc' := 7) (st' := [.int 152, .ref 49]) rfl rfl rfl ?_
                        refine pm_R_lo pm_M255 (pc' := 8) rfl rfl rfl ?_
                        have B40391 : sf_B 0 1 (m_40362 44) := T_40362.2.2.1 44
                        refine rf_R_get pm_M255 T_40362 (pc' := 11) (v := .int (m_40362 44)) rfl rfl rfl rfl ?_
                        refine sf_R_imul pm_M255 (pc' := 12) rfl rfl sf_k152 B40391 (by decide) (by decide) (by decide) (fun z40392 e40393 B40394 => ?_)
                        refine pm_R_op pm_M255 (pc' := 13) (st' := [.int 2, .int z40392, .ref 49]) rfl rfl rfl ?_
                        refine sf_R_iadd pm_M255 (pc' := 14) rfl rfl B40394 sf_k2 (by decide) (by decide) (fun z40395 e40396 B40397 => ?_)
                        refine pm_R_op pm_M255 (pc' := 15) (st' := [.int 3, .int z40395, .ref 49]) rfl rfl rfl ?_
                        refine pm_R_lo pm_M255 (pc' := 16) rfl rfl rfl ?_
                        refine sf_R_imul pm_M255 (pc' := 17) rfl rfl sf_k3 B37856 (by decide) (by decide) (by decide) (fun z40398 e40399 B40400 => ?_)
                        refine sf_R_iadd pm_M255 (pc' := 18) rfl rfl B40397 B40400 (by decide) (by decide) (fun z40401 e40402 B40403 => ?_)
                        refine pm_R_lo pm_M255 (pc' := 19) rfl rfl rfl ?_
                        refine sf_R_iadd pm_M255 (pc' := 20) rfl rfl B40403 sf_k0 (by decide) (by decide) (fun z40404 e40405 B40406 => ?_)
                        obtain ⟨f40407, e40408, b40409⟩ := T_40362.2.2.2.1 49 (by decide) (by decide)
                        refine rf_R_ild pm_M255 T_40362 (pc' := 21) rfl e40408 (by decide) (sf_in B40406 (by decide) (by decide)) rfl (fun z40410 ez40411 => ?_)
                        have e40412 : (z40404).toInt = 152 * ((m_40362 44)).toInt + 3 * (x2_37849).toInt + 2 := by
                          have q0 := e40393
                          have q1 := e40396
                          have q2 := e40399
                          have q3 := e40402
                          have q4 := e40405
                          simp only [(show (0 : Int32).toInt = 0 from rfl), (show (2 : Int32).toInt = 2 from rfl), (show (3 : Int32).toInt = 3 from rfl), (show (152 : Int32).toInt = 152 from rfl)] at q0 q1 q2 q3 q4
                          omega
                        have B40413 : sf_B 0 2 z40410 := ez40411 ▸ rf_p49s b40409 e40412 B40391 B37856 (by decide) (by decide) (by decide)
                        refine pm_R_ret pm_M255 (r := some (.int z40410)) rfl (pm_ret_i _) ?_
                        show pm_R _ 254 128 [.ref 41, .int a0, .int x2_37849, .int z37877, .int x4_40362, .int z40384] [.int z40410, .int z40389, .int x2_37849, .ref 68] _ _
                        refine pm_R_op pm_M254 (pc' := 129) (st' := [.int 2, .int z40410, .int z40389, .int x2_37849, .ref 68]) (pm_q254_1 (Nat.le_of_ble_eq_true rfl)) rfl rfl ?_
                        refine pm_R_icmp pm_M254 (t := 145) (pc' := 132) (pm_q254_1 (Nat.le_of_ble_eq_true rfl)) rfl rfl (fun c40414 => ?_) (fun c40414 => ?_)
                        · have B40415 : sf_B 0 1 z40410 := sf_neH0 c40414 sf_k2 B40413
                          refine pm_R_op pm_M254 (pc' := 146) (st' := [.int 0, .int z40389, .int x2_37849, .ref 68]) (pm_q254_1 (Nat.le_of_ble_eq_true rfl)) rfl rfl ?_
                          refine sf_R_iany pm_M254 (pc' := 147) (st := [.int x2_37849, .ref 68]) (pm_q254_1 (Nat.le_of_ble_eq_true rfl)) rfl rfl (fun z40419 => ?_)
                          refine rf_R_ist pm_M254 T_40362 (pc' := 148) (pm_q254_1 (Nat.le_of_ble_eq_true rfl)) e40387 (by decide) (by decide) (sf_in B37856 (by decide) (by decide)) ⟨_, rfl⟩ rfl (fun h40420 T40421 F40422 e40423 => ?_)
                          have F40424 := F_40362.trans F40422 (by decide)
                          refine pm_R_lo pm_M254 (pc' := 149) (pm_q254_1 (Nat.le_of_ble_eq_true rfl)) rfl rfl ?_
                          refine rf_R_get pm_M254 T40421 (pc' := 152) (v := .ref 67) (pm_q254_1 (Nat.le_of_ble_eq_true rfl)) rfl rfl rfl ?_
                          refine pm_R_op pm_M254 (pc' := 154) (st' := [.int 6, .ref 67]) (pm_q254_1 (Nat.le_of_ble_eq_true rfl)) rfl rfl ?_
                          refine pm_R_lo pm_M254 (pc' := 155) (pm_q254_1 (Nat.le_of_ble_eq_true rfl)) rfl rfl ?_
                          refine pm_R_op pm_M254 (pc' := 156) (st' := [.int 1, .int x2_37849, .int 6, .ref 67]) (pm_q254_1 (Nat.le_of_ble_eq_true rfl)) rfl rfl ?_
                          refine sf_R_iadd pm_M254 (pc' := 157) (pm_q254_1 (Nat.le_of_ble_eq_true rfl)) rfl B37856 sf_k1 (by decide) (by decide) (fun z40425 e40426 B40427 => ?_)
                          refine sf_R_imul pm_M254 (pc' := 158) (pm_q254_1 (Nat.le_of_ble_eq_true rfl)) rfl sf_k6 B40427 (by decide) (by decide) (by decide) (fun z40428 e40429 B40430 => ?_)
                          refine pm_R_lo pm_M254 (pc' := 160) (pm_q254_1 (Nat.le_of_ble_eq_true rfl)) rfl rfl ?_
                          refine sf_R_iadd pm_M254 (pc' := 161) (pm_q254_1 (Nat.le_of_ble_eq_true rfl)) rfl B40430 B40374 (by decide) (by decide) (fun z40431 e40432 B40433 => ?_)
                          refine pm_R_lo pm_M254 (pc' := 163) (pm_q254_1 (Nat.le_of_ble_eq_true rfl)) rfl rfl ?_
                          refine pm_R_lo pm_M254 (pc' := 164) (pm_q254_1 (Nat.le_of_ble_eq_true rfl)) rfl rfl ?_
                          refine pm_R_icmp pm_M254 (t := 177) (pc' := 167) (pm_q254_1 (Nat.le_of_ble_eq_true rfl)) rfl rfl (fun c40434 => ?_) (fun c40434 => ?_)
                          · skip
                            refine pm_R_lo pm_M254 (pc' := 179) (pm_q254_1 (Nat.le_of_ble_eq_true rfl)) rfl rfl ?_
                            refine pm_R_br pm_M254 (pc' := 201) (pm_q254_1 (Nat.le_of_ble_eq_true rfl)) rfl ?_
                            have e40435 := (F40422.cell (by decide) e40382)
                            refine rf_R_ist pm_M254 T40421 (pc' := 202) (pm_q254_2 (Nat.le_of_ble_eq_true rfl)) e40435 (by decide) (by decide) (sf_in B40433 (by decide) (by decide)) ⟨_, rfl⟩ rfl (fun h40436 T40437 F40438 e40439 => ?_)
                            have F40440 := F40424.trans F40438 (by decide)
                            refine sf_R_iinc pm_M254 (pc' := 205) (ls' := fun z => [.ref 41, .int a0, .int x2_37849, .int z37877, .int z, .int z40384]) (pm_q254_2 (Nat.le_of_ble_eq_true rfl)) B40374 rfl (by decide) (by decide) (by decide) (fun _ => rfl) rfl (fun z40441 e40442 B40443 => ?_)
                            show pm_R _ 254 205 [.ref 41, .int a0, .int x2_37849, .int z37877, .int z40441, .int z40384] [] _ _
                            refine pm_R_br pm_M254 (pc' := 94) (pm_q254_2 (Nat.le_of_ble_eq_true rfl)) rfl ?_
                            exact ih_40362 _ (sf_up hN_40362 e40442 B40374 (by decide) (by decide)) h40436 m_40362 w_40362 z40441 (.int z40384) T40437 F40440 W_40362 (sf_weak B40443 (by decide) (by decide)) rfl rfl
                          · refine pm_R_lo pm_M254 (pc' := 168) (pm_q254_1 (Nat.le_of_ble_eq_true rfl)) rfl rfl ?_
                            refine pm_R_lo pm_M254 (pc' := 169) (pm_q254_1 (Nat.le_of_ble_eq_true rfl)) rfl rfl ?_
                            refine pm_R_op pm_M254 (pc' := 170) (st' := [.int 0, .int x2_37849, .ref 41, .int z40431, .ref 67]) (pm_q254_1 (Nat.le_of_ble_eq_true rfl)) rfl rfl ?_
                            refine pm_R_cv pm_M254 (pc' := 173) (a := 41) (ra := [.int 0, .int x2_37849]) (rest := [.int z40431, .ref 67]) (ls' := [.ref 41, .int x2_37849, .int 0]) (pm_q254_1 (Nat.le_of_ble_eq_true rfl)) rfl (Or.inl rfl) pm_M255 T40421.2.1 rfl (by decide) (Nat.lt_of_lt_of_le (by decide) T40421.1) rfl rfl (Nat.le_of_ble_eq_true rfl) rfl rfl ?_
                            refine pm_R_lo pm_M255 (pc' := 1) rfl rfl rfl ?_
                            refine rf_R_get pm_M255 T40421 (pc' := 4) (v := .ref 49) rfl rfl rfl rfl ?_
                            refine pm_R_op pm_M255 (pc' := 7) (st' := [.int 152, .ref 49]) rfl rfl rfl ?_
                            refine pm_R_lo pm_M255 (pc' := 8) rfl rfl rfl ?_
                            refine rf_R_get pm_M255 T40421 (pc' := 11) (v := .int (m_40362 44)) rfl rfl rfl rfl ?_
                            refine sf_R_imul pm_M255 (pc' := 12) rfl rfl sf_k152 B40391 (by decide) (by decide) (by decide) (fun z40444 e40445 B40446 => ?_)
                            refine pm_R_op pm_M255 (pc' := 13) (st' := [.int 2, .int z40444, .ref 49]) rfl rfl rfl ?_
                            refine sf_R_iadd pm_M255 (pc' := 14) rfl rfl B40446 sf_k2 (by decide) (by decide) (fun z40447 e40448 B40449 => ?_)
                            refine pm_R_op pm_M255 (pc' := 15) (st' := [.int 3, .int z40447, .ref 49]) rfl rfl rfl ?_
                            refine pm_R_lo pm_M255 (pc' := 16) rfl rfl rfl ?_
                            refine sf_R_imul pm_M255 (pc' := 17) rfl rfl sf_k3 B37856 (by decide) (by decide) (by decide) (fun z40450 e40451 B40452 => ?_)
                            refine sf_R_iadd pm_M255 (pc' := 18) rfl rfl B40449 B40452 (by decide) (by decide) (fun z40453 e40454 B40455 => ?_)
                            refine pm_R_lo pm_M255 (pc' := 19) rfl rfl rfl ?_
                            refine sf_R_iadd pm_M255 (pc' := 20) rfl rfl B40455 sf_k0 (by decide) (by decide) (fun z40456 e40457 B40458 => ?_)
                            have e40459 := (F40422.cell (by decide) e40408)
                            refine rf_R_ild pm_M255 T40421 (pc' := 21) rfl e40459 (by decide) (sf_in B40458 (by decide) (by decide)) rfl (fun z40460 ez40461 => ?_)
                            have e40462 : (z40456).toInt = 152 * ((m_40362 44)).toInt + 3 * (x2_37849).toInt + 2 := by
                              have q0 := e40445
                              have q1 := e40448
                              have q2 := e40451
                              have q3 := e40454
                              have q4 := e40457
                              simp only [(show (0 : Int32).toInt = 0 from rfl), (show (2 : Int32).toInt = 2 from rfl), (show (3 : Int32).toInt = 3 from rfl), (show (152 : Int32).toInt = 152 from rfl)] at q0 q1 q2 q3 q4
                              omega
                            have B40463 : sf_B 0 2 z40460 := ez40461 ▸ rf_p49s b40409 e40462 B40391 B37856 (by decide) (by decide) (by decide)
                            refine pm_R_ret pm_M255 (r := some (.int z40460)) rfl (pm_ret_i _) ?_
                            show pm_R _ 254 173 [.ref 41, .int a0, .int x2_37849, .int z37877, .int x4_40362, .int z40384] [.int z40460, .int z40431, .ref 67] _ _
                            refine pm_R_op pm_M254 (pc' := 174) (st' := [.int 2, .int z40460, .int z40431, .ref 67]) (pm_q254_1 (Nat.le_of_ble_eq_true rfl)) rfl rfl ?_
                            refine pm_R_icmp pm_M254 (t := 182) (pc' := 177) (pm_q254_1 (Nat.le_of_ble_eq_true rfl)) rfl rfl (fun c40464 => ?_) (fun c40464 => ?_)
                            · have B40465 : sf_B 0 1 z40460 := sf_neH0 c40464 sf_k2 B40463
                              refine pm_R_lo pm_M254 (pc' := 183) (pm_q254_1 (Nat.le_of_ble_eq_true rfl)) rfl rfl ?_
                              refine pm_R_lo pm_M254 (pc' := 184) (pm_q254_1 (Nat.le_of_ble_eq_true rfl)) rfl rfl ?_
                              refine pm_R_op pm_M254 (pc' := 185) (st' := [.int 0, .int x2_37849, .ref 41, .int z40431, .ref 67]) (pm_q254_1 (Nat.le_of_ble_eq_true rfl)) rfl rfl ?_
                              refine pm_R_cv pm_M254 (pc' := 188) (a := 41) (ra := [.int 0, .int x2_37849]) (rest := [.int z40431, .ref 67]) (ls' := [.ref 41, .int x2_37849, .int 0]) (pm_q254_1 (Nat.le_of_ble_eq_true rfl)) rfl (Or.inl rfl) pm_M255 T40421.2.1 rfl (by decide) (Nat.lt_of_lt_of_le (by decide) T40421.1) rfl rfl (Nat.le_of_ble_eq_true rfl) rfl rfl ?_
                              refine pm_R_lo pm_M255 (pc' := 1) rfl rfl rfl ?_
                              refine rf_R_get pm_M255 T40421 (pc' := 4) (v := .ref 49) rfl rfl rfl rfl ?_
                              refine pm_R_op pm_M255 (pc' := 7) (st' := [.int 152, .ref 49]) rfl rfl rfl ?_
                              refine pm_R_lo pm_M255 (pc' := 8) rfl rfl rfl ?_
                              refine rf_R_get pm_M255 T40421 (pc' := 11) (v := .int (m_40362 44)) rfl rfl rfl rfl ?_
                              refine sf_R_imul pm_M255 (pc' := 12) rfl rfl sf_k152 B40391 (by decide) (by decide) (by decide) (fun z40466 e40467 B40468 => ?_)
                              refine pm_R_op pm_M255 (pc' := 13) (st' := [.int 2, .int z40466, .ref 49]) rfl rfl rfl ?_
                              refine sf_R_iadd pm_M255 (pc' := 14) rfl rfl B40468 sf_k2 (by decide) (by decide) (fun z40469 e40470 B40471 => ?_)
                              refine pm_R_op pm_M255 (pc' := 15) (st' := [.int 3, .int z40469, .ref 49]) rfl rfl rfl ?_
                              refine pm_R_lo pm_M255 (pc' := 16) rfl rfl rfl ?_
                              refine sf_R_imul pm_M255 (pc' := 17) rfl rfl sf_k3 B37856 (by decide) (by decide) (by decide) (fun z40472 e40473 B40474 => ?_)
                              refine sf_R_iadd pm_M255 (pc' := 18) rfl rfl B40471 B40474 (by decide) (by decide) (fun z40475 e40476 B40477 => ?_)
                              refine pm_R_lo pm_M255 (pc' := 19) rfl rfl rfl ?_
                              refine sf_R_iadd pm_M255 (pc' := 20) rfl rfl B40477 sf_k0 (by decide) (by decide) (fun z40478 e40479 B40480 => ?_)
                              refine rf_R_ild pm_M255 T40421 (pc' := 21) rfl e40459 (by decide) (sf_in B40480 (by decide) (by decide)) rfl (fun z40481 ez40482 => ?_)
                              have e40483 : (z40478).toInt = 152 * ((m_40362 44)).toInt + 3 * (x2_37849).toInt + 2 := by
                                have q0 := e40467
                                have q1 := e40470
                                have q2 := e40473
                                have q3 := e40476
                                have q4 := e40479
                                simp only [(show (0 : Int32).toInt = 0 from rfl), (show (2 : Int32).toInt = 2 from rfl), (show (3 : Int32).toInt = 3 from rfl), (show (152 : Int32).toInt = 152 from rfl)] at q0 q1 q2 q3 q4
                                omega
                              have B40484 : sf_B 0 2 z40481 := ez40482 ▸ rf_p49s b40409 e40483 B40391 B37856 (by decide) (by decide) (by decide)
                              refine pm_R_ret pm_M255 (r := some (.int z40481)) rfl (pm_ret_i _) ?_
                              show pm_R _ 254 188 [.ref 41, .int a0, .int x2_37849, .int z37877, .int x4_40362, .int z40384] [.int z40481, .int z40431, .ref 67] _ _
                              refine pm_R_ifc pm_M254 (t := 200) (pc' := 191) (pm_q254_1 (Nat.le_of_ble_eq_true rfl)) rfl rfl (fun c40485 => ?_) (fun c40485 => ?_)
                              · have B40486 : sf_B 1 2 z40481 := sf_neL0 c40485 sf_k0 B40484
                                refine pm_R_op pm_M254 (pc' := 201) (st' := [.int (-1), .int z40431, .ref 67]) (pm_q254_2 (Nat.le_of_ble_eq_true rfl)) rfl rfl ?_
                                have e40487 := (F40422.cell (by decide) e40382)
                                refine rf_R_ist pm_M254 T40421 (pc' := 202) (pm_q254_2 (Nat.le_of_ble_eq_true rfl)) e40487 (by decide) (by decide) (sf_in B40433 (by decide) (by decide)) ⟨_, rfl⟩ rfl (fun h40488 T40489 F40490 e40491 => ?_)
                                have F40492 := F40424.trans F40490 (by decide)
                                refine sf_R_iinc pm_M254 (pc' := 205) (ls' := fun z => [.ref 41, .int a0, .int x2_37849, .int z37877, .int z, .int z40384]) (pm_q254_2 (Nat.le_of_ble_eq_true rfl)) B40374 rfl (by decide) (by decide) (by decide) (fun _ => rfl) rfl (fun z40493 e40494 B40495 => ?_)
                                show pm_R _ 254 205 [.ref 41, .int a0, .int x2_37849, .int z37877, .int z40493, .int z40384] [] _ _
                                refine pm_R_br pm_M254 (pc' := 94) (pm_q254_2 (Nat.le_of_ble_eq_true rfl)) rfl ?_
                                exact ih_40362 _ (sf_up hN_40362 e40494 B40374 (by decide) (by decide)) h40488 m_40362 w_40362 z40493 (.int z40384) T40489 F40492 W_40362 (sf_weak B40495 (by decide) (by decide)) rfl rfl
                              · have B40496 : sf_B 0 0 z40481 := sf_eqL (Classical.not_not.mp c40485) sf_k0
                                refine pm_R_lo pm_M254 (pc' := 192) (pm_q254_1 (Nat.le_of_ble_eq_true rfl)) rfl rfl ?_
                                refine pm_R_lo pm_M254 (pc' := 193) (pm_q254_1 (Nat.le_of_ble_eq_true rfl)) rfl rfl ?_
                                refine pm_R_op pm_M254 (pc' := 194) (st' := [.int 2, .int x2_37849, .ref 41, .int z40431, .ref 67]) (pm_q254_1 (Nat.le_of_ble_eq_true rfl)) rfl rfl ?_
                                refine pm_R_cv pm_M254 (pc' := 197) (a := 41) (ra := [.int 2, .int x2_37849]) (rest := [.int z40431, .ref 67]) (ls' := [.ref 41, .int x2_37849, .int 2]) (pm_q254_1 (Nat.le_of_ble_eq_true rfl)) rfl (Or.inl rfl) pm_M255 T40421.2.1 rfl (by decide) (Nat.lt_of_lt_of_le (by decide) T40421.1) rfl rfl (Nat.le_of_ble_eq_true rfl) rfl rfl ?_
                                refine pm_R_lo pm_M255 (pc' := 1) rfl rfl rfl ?_
                                refine rf_R_get pm_M255 T40421 (pc' := 4) (v := .ref 49) rfl rfl rfl rfl ?_
                                refine pm_R_op pm_M255 (pc' := 7) (st' := [.int 152, .ref 49]) rfl rfl rfl ?_
                                refine pm_R_lo pm_M255 (pc' := 8) rfl rfl rfl ?_
                                refine rf_R_get pm_M255 T40421 (pc' := 11) (v := .int (m_40362 44)) rfl rfl rfl rfl ?_
                                refine sf_R_imul pm_M255 (pc' := 12) rfl rfl sf_k152 B40391 (by decide) (by decide) (by decide) (fun z40497 e40498 B40499 => ?_)
                                refine pm_R_op pm_M255 (pc' := 13) (st' := [.int 2, .int z40497, .ref 49]) rfl rfl rfl ?_
                                refine sf_R_iadd pm_M255 (pc' := 14) rfl rfl B40499 sf_k2 (by decide) (by decide) (fun z40500 e40501 B40502 => ?_)
                                refine pm_R_op pm_M255 (pc' := 15) (st' := [.int 3, .int z40500, .ref 49]) rfl rfl rfl ?_
                                refine pm_R_lo pm_M255 (pc' := 16) rfl rfl rfl ?_
                                refine sf_R_imul pm_M255 (pc' := 17) rfl rfl sf_k3 B37856 (by decide) (by decide) (by decide) (fun z40503 e40504 B40505 => ?_)
                                refine sf_R_iadd pm_M255 (pc' := 18) rfl rfl B40502 B40505 (by decide) (by decide) (fun z40506 e40507 B40508 => ?_)
                                refine pm_R_lo pm_M255 (pc' := 19) rfl rfl rfl ?_
                                refine sf_R_iadd pm_M255 (pc' := 20) rfl rfl B40508 sf_k2 (by decide) (by decide) (fun z40509 e40510 B40511 => ?_)
                                refine rf_R_ild pm_M255 T40421 (pc' := 21) rfl e40459 (by decide) (sf_in B40511 (by decide) (by decide)) rfl (fun z40512 ez40513 => ?_)
                                have e40514 : (z40509).toInt = 152 * ((m_40362 44)).toInt + 3 * (x2_37849).toInt + 4 := by
                                  have q0 := e40498
                                  have q1 := e40501
                                  have q2 := e40504
                                  have q3 := e40507
                                  have q4 := e40510
                                  simp only [(show (2 : Int32).toInt = 2 from rfl), (show (3 : Int32).toInt = 3 from rfl), (show (152 : Int32).toInt = 152 from rfl)] at q0 q1 q2 q3 q4
                                  omega
                                have B40515 : sf_B (-1) 9 z40512 := ez40513 ▸ rf_p49o b40409 e40514 B40391 B37856 (by decide) (by decide) (by decide)
                                refine pm_R_ret pm_M255 (r := some (.int z40512)) rfl (pm_ret_i _) ?_
                                show pm_R _ 254 197 [.ref 41, .int a0, .int x2_37849, .int z37877, .int x4_40362, .int z40384] [.int z40512, .int z40431, .ref 67] _ _
                                refine pm_R_br pm_M254 (pc' := 201) (pm_q254_2 (Nat.le_of_ble_eq_true rfl)) rfl ?_
                                have e40516 := (F40422.cell (by decide) e40382)
                                refine rf_R_ist pm_M254 T40421 (pc' := 202) (pm_q254_2 (Nat.le_of_ble_eq_true rfl)) e40516 (by decide) (by decide) (sf_in B40433 (by decide) (by decide)) ⟨_, rfl⟩ rfl (fun h40517 T40518 F40519 e40520 => ?_)
                                have F40521 := F40424.trans F40519 (by decide)
                                refine sf_R_iinc pm_M254 (pc' := 205) (ls' := fun z => [.ref 41, .int a0, .int x2_37849, .int z37877, .int z, .int z40384]) (pm_q254_2 (Nat.le_of_ble_eq_true rfl)) B40374 rfl (by decide) (by decide) (by decide) (fun _ => rfl) rfl (fun z40522 e40523 B40524 => ?_)
                                show pm_R _ 254 205 [.ref 41, .int a0, .int x2_37849, .int z37877, .int z40522, .int z40384] [] _ _
                                refine pm_R_br pm_M254 (pc' := 94) (pm_q254_2 (Nat.le_of_ble_eq_true rfl)) rfl ?_
                                exact ih_40362 _ (sf_up hN_40362 e40523 B40374 (by decide) (by decide)) h40517 m_40362 w_40362 z40522 (.int z40384) T40518 F40521 W_40362 (sf_weak B40524 (by decide) (by decide)) rfl rfl
                            · have B40525 : sf_B 2 2 z40460 := sf_eqL (Classical.not_not.mp c40464) sf_k2
                              refine pm_R_lo pm_M254 (pc' := 179) (pm_q254_1 (Nat.le_of_ble_eq_true rfl)) rfl rfl ?_
                              refine pm_R_br pm_M254 (pc' := 201) (pm_q254_1 (Nat.le_of_ble_eq_true rfl)) rfl ?_
                              have e40526 := (F40422.cell (by decide) e40382)
                              refine rf_R_ist pm_M254 T40421 (pc' := 202) (pm_q254_2 (Nat.le_of_ble_eq_true rfl)) e40526 (by decide) (by decide) (sf_in B40433 (by decide) (by decide)) ⟨_, rfl⟩ rfl (fun h40527 T40528 F40529 e40530 => ?_)
                              have F40531 := F40424.trans F40529 (by decide)
                              refine sf_R_iinc pm_M254 (pc' := 205) (ls' := fun z => [.ref 41, .int a0, .int x2_37849, .int z37877, .int z, .int z40384]) (pm_q254_2 (Nat.le_of_ble_eq_true rfl)) B40374 rfl (by decide) (by decide) (by decide) (fun _ => rfl) rfl (fun z40532 e40533 B40534 => ?_)
                              show pm_R _ 254 205 [.ref 41, .int a0, .int x2_37849, .int z37877, .int z40532, .int z40384] [] _ _
                              refine pm_R_br pm_M254 (pc' := 94) (pm_q254_2 (Nat.le_of_ble_eq_true rfl)) rfl ?_
                              exact ih_40362 _ (sf_up hN_40362 e40533 B40374 (by decide) (by decide)) h40527 m_40362 w_40362 z40532 (.int z40384) T40528 F40531 W_40362 (sf_weak B40534 (by decide) (by decide)) rfl rfl
                        · have B40535 : sf_B 2 2 z40410 := sf_eqL (Classical.not_not.mp c40414) sf_k2
                          refine pm_R_lo pm_M254 (pc' := 134) (pm_q254_1 (Nat.le_of_ble_eq_true rfl)) rfl rfl ?_
                          refine pm_R_lo pm_M254 (pc' := 135) (pm_q254_1 (Nat.le_of_ble_eq_true rfl)) rfl rfl ?_
                          refine pm_R_icmp pm_M254 (t := 145) (pc' := 138) (pm_q254_1 (Nat.le_of_ble_eq_true rfl)) rfl rfl (fun c40536 => ?_) (fun c40536 => ?_)
                          · skip
                            refine pm_R_op pm_M254 (pc' := 146) (st' := [.int 0, .int z40389, .int x2_37849, .ref 68]) (pm_q254_1 (Nat.le_of_ble_eq_true rfl)) rfl rfl ?_
                            refine sf_R_iany pm_M254 (pc' := 147) (st := [.int x2_37849, .ref 68]) (pm_q254_1 (Nat.le_of_ble_eq_true rfl)) rfl rfl (fun z40540 => ?_)
                            refine rf_R_ist pm_M254 T_40362 (pc' := 148) (pm_q254_1 (Nat.le_of_ble_eq_true rfl)) e40387 (by decide) (by decide) (sf_in B37856 (by decide) (by decide)) ⟨_, rfl⟩ rfl (fun h40541 T40542 F40543 e40544 => ?_)
                            have F40545 := F_40362.trans F40543 (by decide)
                            refine pm_R_lo pm_M254 (pc' := 149) (pm_q254_1 (Nat.le_of_ble_eq_true rfl)) rfl rfl ?_
                            refine rf_R_get pm_M254 T40542 (pc' := 152) (v := .ref 67) (pm_q254_1 (Nat.le_of_ble_eq_true rfl)) rfl rfl rfl ?_
                            refine pm_R_op pm_M254 (pc' := 154) (st' := [.int 6, .ref 67]) (pm_q254_1 (Nat.le_of_ble_eq_true rfl)) rfl rfl ?_
                            refine pm_R_lo pm_M254 (pc' := 155) (pm_q254_1 (Nat.le_of_ble_eq_true rfl)) rfl rfl ?_
                            refine pm_R_op pm_M254 (pc' := 156) (st' := [.int 1, .int x2_37849, .int 6, .ref 67]) (pm_q254_1 (Nat.le_of_ble_eq_true rfl)) rfl rfl ?_
                            refine sf_R_iadd pm_M254 (pc' := 157) (pm_q254_1 (Nat.le_of_ble_eq_true rfl)) rfl B37856 sf_k1 (by decide) (by decide) (fun z40546 e40547 B40548 => ?_)
                            refine sf_R_imul pm_M254 (pc' := 158) (pm_q254_1 (Nat.le_of_ble_eq_true rfl)) rfl sf_k6 B40548 (by decide) (by decide) (by decide) (fun z40549 e40550 B40551 => ?_)
                            refine pm_R_lo pm_M254 (pc' := 160) (pm_q254_1 (Nat.le_of_ble_eq_true rfl)) rfl rfl ?_
                            refine sf_R_iadd pm_M254 (pc' := 161) (pm_q254_1 (Nat.le_of_ble_eq_true rfl)) rfl B40551 B40374 (by decide) (by decide) (fun z40552 e40553 B40554 => ?_)
                            refine pm_R_lo pm_M254 (pc' := 163) (pm_q254_1 (Nat.le_of_ble_eq_true rfl)) rfl rfl ?_
                            refine pm_R_lo pm_M254 (pc' := 164) (pm_q254_1 (Nat.le_of_ble_eq_true rfl)) rfl rfl ?_
                            refine pm_R_icmp pm_M254 (t := 177) (pc' := 167) (pm_q254_1 (Nat.le_of_ble_eq_true rfl)) rfl rfl (fun c40555 => ?_) (fun c40555 => ?_)
                            · skip
                              refine pm_R_lo pm_M254 (pc' := 179) (pm_q254_1 (Nat.le_of_ble_eq_true rfl)) rfl rfl ?_
                              refine pm_R_br pm_M254 (pc' := 201) (pm_q254_1 (Nat.le_of_ble_eq_true rfl)) rfl ?_
                              have e40556 := (F40543.cell (by decide) e40382)
                              refine rf_R_ist pm_M254 T40542 (pc' := 202) (pm_q254_2 (Nat.le_of_ble_eq_true rfl)) e40556 (by decide) (by decide) (sf_in B40554 (by decide) (by decide)) ⟨_, rfl⟩ rfl (fun h40557 T40558 F40559 e40560 => ?_)
                              have F40561 := F40545.trans F40559 (by decide)
                              refine sf_R_iinc pm_M254 (pc' := 205) (ls' := fun z => [.ref 41, .int a0, .int x2_37849, .int z37877, .int z, .int z40384]) (pm_q254_2 (Nat.le_of_ble_eq_true rfl)) B40374 rfl (by decide) (by decide) (by decide) (fun _ => rfl) rfl (fun z40562 e40563 B40564 => ?_)
                              show pm_R _ 254 205 [.ref 41, .int a0, .int x2_37849, .int z37877, .int z40562, .int z40384] [] _ _
                              refine pm_R_br pm_M254 (pc' := 94) (pm_q254_2 (Nat.le_of_ble_eq_true rfl)) rfl ?_
                              exact ih_40362 _ (sf_up hN_40362 e40563 B40374 (by decide) (by decide)) h40557 m_40362 w_40362 z40562 (.int z40384) T40558 F40561 W_40362 (sf_weak B40564 (by decide) (by decide)) rfl rfl
                            · refine pm_R_lo pm_M254 (pc' := 168) (pm_q254_1 (Nat.le_of_ble_eq_true rfl)) rfl rfl ?_
                              refine pm_R_lo pm_M254 (pc' := 169) (pm_q254_1 (Nat.le_of_ble_eq_true rfl)) rfl rfl ?_
                              refine pm_R_op pm_M254 (pc' := 170) (st' := [.int 0, .int x2_37849, .ref 41, .int z40552, .ref 67]) (pm_q254_1 (Nat.le_of_ble_eq_true rfl)) rfl rfl ?_
                              refine pm_R_cv pm_M254 (pc' := 173) (a := 41) (ra := [.int 0, .int x2_37849]) (rest := [.int z40552, .ref 67]) (ls' := [.ref 41, .int x2_37849, .int 0]) (pm_q254_1 (Nat.le_of_ble_eq_true rfl)) rfl (Or.inl rfl) pm_M255 T40542.2.1 rfl (by decide) (Nat.lt_of_lt_of_le (by decide) T40542.1) rfl rfl (Nat.le_of_ble_eq_true rfl) rfl rfl ?_
                              refine pm_R_lo pm_M255 (pc' := 1) rfl rfl rfl ?_
                              refine rf_R_get pm_M255 T40542 (pc' := 4) (v := .ref 49) rfl rfl rfl rfl ?_
                              refine pm_R_op pm_M255 (pc' := 7) (st' := [.int 152, .ref 49]) rfl rfl rfl ?_
                              refine pm_R_lo pm_M255 (pc' := 8) rfl rfl rfl ?_
                              refine rf_R_get pm_M255 T40542 (pc' := 11) (v := .int (m_40362 44)) rfl rfl rfl rfl ?_
                              refine sf_R_imul pm_M255 (pc' := 12) rfl rfl sf_k152 B40391 (by decide) (by decide) (by decide) (fun z40565 e40566 B40567 => ?_)
                              refine pm_R_op pm_M255 (pc' := 13) (st' := [.int 2, .int z40565, .ref 49]) rfl rfl rfl ?_
                              refine sf_R_iadd pm_M255 (pc' := 14) rfl rfl B40567 sf_k2 (by decide) (by decide) (fun z40568 e40569 B40570 => ?_)
                              refine pm_R_op pm_M255 (pc' := 15) (st' := [.int 3, .int z40568, .ref 49]) rfl rfl rfl ?_
                              refine pm_R_lo pm_M255 (pc' := 16) rfl rfl rfl ?_
                              refine sf_R_imul pm_M255 (pc' := 17) rfl rfl sf_k3 B37856 (by decide) (by decide) (by decide) (fun z40571 e40572 B40573 => ?_)
                              refine sf_R_iadd pm_M255 (pc' := 18) rfl rfl B40570 B40573 (by decide) (by decide) (fun z40574 e40575 B40576 => ?_)
                              refine pm_R_lo pm_M255 (pc' := 19) rfl rfl rfl ?_
                              refine sf_R_iadd pm_M255 (pc' := 20) rfl rfl B40576 sf_k0 (by decide) (by decide) (fun z40577 e40578 B40579 => ?_)
                              have e40580 := (F40543.cell (by decide) e40408)
                              refine rf_R_ild pm_M255 T40542 (pc' := 21) rfl e40580 (by decide) (sf_in B40579 (by decide) (by decide)) rfl (fun z40581 ez40582 => ?_)
                              have e40583 : (z40577).toInt = 152 * ((m_40362 44)).toInt + 3 * (x2_37849).toInt + 2 := by
                                have q0 := e40566
                                have q1 := e40569
                                have q2 := e40572
                                have q3 := e40575
                                have q4 := e40578
                                simp only [(show (0 : Int32).toInt = 0 from rfl), (show (2 : Int32).toInt = 2 from rfl), (show (3 : Int32).toInt = 3 from rfl), (show (152 : Int32).toInt = 152 from rfl)] at q0 q1 q2 q3 q4
                                omega
                              have B40584 : sf_B 0 2 z40581 := ez40582 ▸ rf_p49s b40409 e40583 B40391 B37856 (by decide) (by decide) (by decide)
                              refine pm_R_ret pm_M255 (r := some (.int z40581)) rfl (pm_ret_i _) ?_
                              show pm_R _ 254 173 [.ref 41, .int a0, .int x2_37849, .int z37877, .int x4_40362, .int z40384] [.int z40581, .int z40552, .ref 67] _ _
                              refine pm_R_op pm_M254 (pc' := 174) (st' := [.int 2, .int z40581, .int z40552, .ref 67]) (pm_q254_1 (Nat.le_of_ble_eq_true rfl)) rfl rfl ?_
                              refine pm_R_icmp pm_M254 (t := 182) (pc' := 177) (pm_q254_1 (Nat.le_of_ble_eq_true rfl)) rfl rfl (fun c40585 => ?_) (fun c40585 => ?_)
                              · have B40586 : sf_B 0 1 z40581 := sf_neH0 c40585 sf_k2 B40584
                                refine pm_R_lo pm_M254 (pc' := 183) (pm_q254_1 (Nat.le_of_ble_eq_true rfl)) rfl rfl ?_
                                refine pm_R_lo pm_M254 (pc' := 184) (pm_q254_1 (Nat.le_of_ble_eq_true rfl)) rfl rfl ?_
                                refine pm_R_op pm_M254 (pc' := 185) (st' := [.int 0, .int x2_37849, .ref 41, .int z40552, .ref 67]) (pm_q254_1 (Nat.le_of_ble_eq_true rfl)) rfl rfl ?_
                                refine pm_R_cv pm_M254 (pc' := 188) (a := 41) (ra := [.int 0, .int x2_37849]) (rest := [.int z40552, .ref 67]) (ls' := [.ref 41, .int x2_37849, .int 0]) (pm_q254_1 (Nat.le_of_ble_eq_true rfl)) rfl (Or.inl rfl) pm_M255 T40542.2.1 rfl (by decide) (Nat.lt_of_lt_of_le (by decide) T40542.1) rfl rfl (Nat.le_of_ble_eq_true rfl) rfl rfl ?_
                                refine pm_R_lo pm_M255 (pc' := 1) rfl rfl rfl ?_
                                refine rf_R_get pm_M255 T40542 (pc' := 4) (v := .ref 49) rfl rfl rfl rfl ?_
                                refine pm_R_op pm_M255 (pc' := 7) (st' := [.int 152, .ref 49]) rfl rfl rfl ?_
                                refine pm_R_lo pm_M255 (pc' := 8) rfl rfl rfl ?_
                                refine rf_R_get pm_M255 T40542 (pc' := 11) (v := .int (m_40362 44)) rfl rfl rfl rfl ?_
                                refine sf_R_imul pm_M255 (pc' := 12) rfl rfl sf_k152 B40391 (by decide) (by decide) (by decide) (fun z40587 e40588 B40589 => ?_)
                                refine pm_R_op pm_M255 (pc' := 13) (st' := [.int 2, .int z40587, .ref 49]) rfl rfl rfl ?_
                                refine sf_R_iadd pm_M255 (pc' := 14) rfl rfl B40589 sf_k2 (by decide) (by decide) (fun z40590 e40591 B40592 => ?_)
                                refine pm_R_op pm_M255 (pc' := 15) (st' := [.int 3, .int z40590, .ref 49]) rfl rfl rfl ?_
                                refine pm_R_lo pm_M255 (pc' := 16) rfl rfl rfl ?_
                                refine sf_R_imul pm_M255 (pc' := 17) rfl rfl sf_k3 B37856 (by decide) (by decide) (by decide) (fun z40593 e40594 B40595 => ?_)
                                refine sf_R_iadd pm_M255 (pc' := 18) rfl rfl B40592 B40595 (by decide) (by decide) (fun z40596 e40597 B40598 => ?_)
                                refine pm_R_lo pm_M255 (pc' := 19) rfl rfl rfl ?_
                                refine sf_R_iadd pm_M255 (pc' := 20) rfl rfl B40598 sf_k0 (by decide) (by decide) (fun z40599 e40600 B40601 => ?_)
                                refine rf_R_ild pm_M255 T40542 (pc' := 21) rfl e40580 (by decide) (sf_in B40601 (by decide) (by decide)) rfl (fun z40602 ez40603 => ?_)
                                have e40604 : (z40599).toInt = 152 * ((m_40362 44)).toInt + 3 * (x2_37849).toInt + 2 := by
                                  have q0 := e40588
                                  have q1 := e40591
                                  have q2 := e40594
                                  have q3 := e40597
                                  have q4 := e40600
                                  simp only [(show (0 : Int32).toInt = 0 from rfl), (show (2 : Int32).toInt = 2 from rfl), (show (3 : Int32).toInt = 3 from rfl), (show (152 : Int32).toInt = 152 from rfl)] at q0 q1 q2 q3 q4
                                  omega
                                have B40605 : sf_B 0 2 z40602 := ez40603 ▸ rf_p49s b40409 e40604 B40391 B37856 (by decide) (by decide) (by decide)
                                refine pm_R_ret pm_M255 (r := some (.int z40602)) rfl (pm_ret_i _) ?_
                                show pm_R _ 254 188 [.ref 41, .int a0, .int x2_37849, .int z37877, .int x4_40362, .int z40384] [.int z40602, .int z40552, .ref 67] _ _
                                refine pm_R_ifc pm_M254 (t := 200) (pc' := 191) (pm_q254_1 (Nat.le_of_ble_eq_true rfl)) rfl rfl (fun c40606 => ?_) (fun c40606 => ?_)
                                · have B40607 : sf_B 1 2 z40602 := sf_neL0 c40606 sf_k0 B40605
                                  refine pm_R_op pm_M254 (pc' := 201) (st' := [.int (-1), .int z40552, .ref 67]) (pm_q254_2 (Nat.le_of_ble_eq_true rfl)) rfl rfl ?_
                                  have e40608 := (F40543.cell (by decide) e40382)
                                  refine rf_R_ist pm_M254 T40542 (pc' := 202) (pm_q254_2 (Nat.le_of_ble_eq_true rfl)) e40608 (by decide) (by decide) (sf_in B40554 (by decide) (by decide)) ⟨_, rfl⟩ rfl (fun h40609 T40610 F40611 e40612 => ?_)
                                  have F40613 := F40545.trans F40611 (by decide)
                                  refine sf_R_iinc pm_M254 (pc' := 205) (ls' := fun z => [.ref 41, .int a0, .int x2_37849, .int z37877, .int z, .int z40384]) (pm_q254_2 (Nat.le_of_ble_eq_true rfl)) B40374 rfl (by decide) (by decide) (by decide) (fun _ => rfl) rfl (fun z40614 e40615 B40616 => ?_)
                                  show pm_R _ 254 205 [.ref 41, .int a0, .int x2_37849, .int z37877, .int z40614, .int z40384] [] _ _
                                  refine pm_R_br pm_M254 (pc' := 94) (pm_q254_2 (Nat.le_of_ble_eq_true rfl)) rfl ?_
                                  exact ih_40362 _ (sf_up hN_40362 e40615 B40374 (by decide) (by decide)) h40609 m_40362 w_40362 z40614 (.int z40384) T40610 F40613 W_40362 (sf_weak B40616 (by decide) (by decide)) rfl rfl
                                · have B40617 : sf_B 0 0 z40602 := sf_eqL (Classical.not_not.mp c40606) sf_k0
                                  refine pm_R_lo pm_M254 (pc' := 192) (pm_q254_1 (Nat.le_of_ble_eq_true rfl)) rfl rfl ?_
                                  refine pm_R_lo pm_M254 (pc' := 193) (pm_q254_1 (Nat.le_of_ble_eq_true rfl)) rfl rfl ?_
                                  refine pm_R_op pm_M254 (pc' := 194) (st' := [.int 2, .int x2_37849, .ref 41, .int z40552, .ref 67]) (pm_q254_1 (Nat.le_of_ble_eq_true rfl)) rfl rfl ?_
                                  refine pm_R_cv pm_M254 (pc' := 197) (a := 41) (ra := [.int 2, .int x2_37849]) (rest := [.int z40552, .ref 67]) (ls' := [.ref 41, .int x2_37849, .int 2]) (pm_q254_1 (Nat.le_of_ble_eq_true rfl)) rfl (Or.inl rfl) pm_M255 T40542.2.1 rfl (by decide) (Nat.lt_of_lt_of_le (by decide) T40542.1) rfl rfl (Nat.le_of_ble_eq_true rfl) rfl rfl ?_
                                  refine pm_R_lo pm_M255 (pc' := 1) rfl rfl rfl ?_
                                  refine rf_R_get pm_M255 T40542 (pc' := 4) (v := .ref 49) rfl rfl rfl rfl ?_
                                  refine pm_R_op pm_M255 (pc' := 7) (st' := [.int 152, .ref 49]) rfl rfl rfl ?_
                                  refine pm_R_lo pm_M255 (pc' := 8) rfl rfl rfl ?_
                                  refine rf_R_get pm_M255 T40542 (pc' := 11) (v := .int (m_40362 44)) rfl rfl rfl rfl ?_
                                  refine sf_R_imul pm_M255 (pc' := 12) rfl rfl sf_k152 B40391 (by decide) (by decide) (by decide) (fun z40618 e40619 B40620 => ?_)
                                  refine pm_R_op pm_M255 (pc' := 13) (st' := [.int 2, .int z40618, .ref 49]) rfl rfl rfl ?_
                                  refine sf_R_iadd pm_M255 (pc' := 14) rfl rfl B40620 sf_k2 (by decide) (by decide) (fun z40621 e40622 B40623 => ?_)
                                  refine pm_R_op pm_M255 (pc' := 15) (st' := [.int 3, .int z40621, .ref 49]) rfl rfl rfl ?_
                                  refine pm_R_lo pm_M255 (pc' := 16) rfl rfl rfl ?_
                                  refine sf_R_imul pm_M255 (pc' := 17) rfl rfl sf_k3 B37856 (by decide) (by decide) (by decide) (fun z40624 e40625 B40626 => ?_)
                                  refine sf_R_iadd pm_M255 (pc' := 18) rfl rfl B40623 B40626 (by decide) (by decide) (fun z40627 e40628 B40629 => ?_)
                                  refine pm_R_lo pm_M255 (pc' := 19) rfl rfl rfl ?_
                                  refine sf_R_iadd pm_M255 (pc' := 20) rfl rfl B40629 sf_k2 (by decide) (by decide) (fun z40630 e40631 B40632 => ?_)
                                  refine rf_R_ild pm_M255 T40542 (pc' := 21) rfl e40580 (by decide) (sf_in B40632 (by decide) (by decide)) rfl (fun z40633 ez40634 => ?_)
                                  have e40635 : (z40630).toInt = 152 * ((m_40362 44)).toInt + 3 * (x2_37849).toInt + 4 := by
                                    have q0 := e40619
                                    have q1 := e40622
                                    have q2 := e40625
                                    have q3 := e40628
                                    have q4 := e40631
                                    simp only [(show (2 : Int32).toInt = 2 from rfl), (show (3 : Int32).toInt = 3 from rfl), (show (152 : Int32).toInt = 152 from rfl)] at q0 q1 q2 q3 q4
                                    omega
                                  have B40636 : sf_B (-1) 9 z40633 := ez40634 ▸ rf_p49o b40409 e40635 B40391 B37856 (by decide) (by decide) (by decide)
                                  refine pm_R_ret pm_M255 (r := some (.int z40633)) rfl (pm_ret_i _) ?_
                                  show pm_R _ 254 197 [.ref 41, .int a0, .int x2_37849, .int z37877, .int x4_40362, .int z40384] [.int z40633, .int z40552, .ref 67] _ _
                                  refine pm_R_br pm_M254 (pc' := 201) (pm_q254_2 (Nat.le_of_ble_eq_true rfl)) rfl ?_
                                  have e40637 := (F40543.cell (by decide) e40382)
                                  refine rf_R_ist pm_M254 T40542 (pc' := 202) (pm_q254_2 (Nat.le_of_ble_eq_true rfl)) e40637 (by decide) (by decide) (sf_in B40554 (by decide) (by decide)) ⟨_, rfl⟩ rfl (fun h40638 T40639 F40640 e40641 => ?_)
                                  have F40642 := F40545.trans F40640 (by decide)
                                  refine sf_R_iinc pm_M254 (pc' := 205) (ls' := fun z => [.ref 41, .int a0, .int x2_37849, .int z37877, .int z, .int z40384]) (pm_q254_2 (Nat.le_of_ble_eq_true rfl)) B40374 rfl (by decide) (by decide) (by decide) (fun _ => rfl) rfl (fun z40643 e40644 B40645 => ?_)
                                  show pm_R _ 254 205 [.ref 41, .int a0, .int x2_37849, .int z37877, .int z40643, .int z40384] [] _ _
                                  refine pm_R_br pm_M254 (pc' := 94) (pm_q254_2 (Nat.le_of_ble_eq_true rfl)) rfl ?_
                                  exact ih_40362 _ (sf_up hN_40362 e40644 B40374 (by decide) (by decide)) h40638 m_40362 w_40362 z40643 (.int z40384) T40639 F40642 W_40362 (sf_weak B40645 (by decide) (by decide)) rfl rfl
                              · have B40646 : sf_B 2 2 z40581 := sf_eqL (Classical.not_not.mp c40585) sf_k2
                                refine pm_R_lo pm_M254 (pc' := 179) (pm_q254_1 (Nat.le_of_ble_eq_true rfl)) rfl rfl ?_
                                refine pm_R_br pm_M254 (pc' := 201) (pm_q254_1 (Nat.le_of_ble_eq_true rfl)) rfl ?_
                                have e40647 := (F40543.cell (by decide) e40382)
                                refine rf_R_ist pm_M254 T40542 (pc' := 202) (pm_q254_2 (Nat.le_of_ble_eq_true rfl)) e40647 (by decide) (by decide) (sf_in B40554 (by decide) (by decide)) ⟨_, rfl⟩ rfl (fun h40648 T40649 F40650 e40651 => ?_)
                                have F40652 := F40545.trans F40650 (by decide)
                                refine sf_R_iinc pm_M254 (pc' := 205) (ls' := fun z => [.ref 41, .int a0, .int x2_37849, .int z37877, .int z, .int z40384]) (pm_q254_2 (Nat.le_of_ble_eq_true rfl)) B40374 rfl (by decide) (by decide) (by decide) (fun _ => rfl) rfl (fun z40653 e40654 B40655 => ?_)
                                show pm_R _ 254 205 [.ref 41, .int a0, .int x2_37849, .int z37877, .int z40653, .int z40384] [] _ _
                                refine pm_R_br pm_M254 (pc' := 94) (pm_q254_2 (Nat.le_of_ble_eq_true rfl)) rfl ?_
                                exact ih_40362 _ (sf_up hN_40362 e40654 B40374 (by decide) (by decide)) h40648 m_40362 w_40362 z40653 (.int z40384) T40649 F40652 W_40362 (sf_weak B40655 (by decide) (by decide)) rfl rfl
                          · have B40656 : sf_B 0 5 z40384 := sf_eqL (Classical.not_not.mp c40536) B37880
                            refine pm_R_op pm_M254 (pc' := 139) (st' := [.int 1, .int z40389, .int x2_37849, .ref 68]) (pm_q254_1 (Nat.le_of_ble_eq_true rfl)) rfl rfl ?_
                            refine pm_R_lo pm_M254 (pc' := 141) (pm_q254_1 (Nat.le_of_ble_eq_true rfl)) rfl rfl ?_
                            refine sf_R_iany pm_M254 (pc' := 142) (st := [.int z40389, .int x2_37849, .ref 68]) (pm_q254_1 (Nat.le_of_ble_eq_true rfl)) rfl rfl (fun z40660 => ?_)
                            refine pm_R_br pm_M254 (pc' := 146) (pm_q254_1 (Nat.le_of_ble_eq_true rfl)) rfl ?_
                            refine sf_R_iany pm_M254 (pc' := 147) (st := [.int x2_37849, .ref 68]) (pm_q254_1 (Nat.le_of_ble_eq_true rfl)) rfl rfl (fun z40664 => ?_)
                            refine rf_R_ist pm_M254 T_40362 (pc' := 148) (pm_q254_1 (Nat.le_of_ble_eq_true rfl)) e40387 (by decide) (by decide) (sf_in B37856 (by decide) (by decide)) ⟨_, rfl⟩ rfl (fun h40665 T40666 F40667 e40668 => ?_)
                            have F40669 := F_40362.trans F40667 (by decide)
                            refine pm_R_lo pm_M254 (pc' := 149) (pm_q254_1 (Nat.le_of_ble_eq_true rfl)) rfl rfl ?_
                            refine rf_R_get pm_M254 T40666 (pc' := 152) (v := .ref 67) (pm_q254_1 (Nat.le_of_ble_eq_true rfl)) rfl rfl rfl ?_
                            refine pm_R_op pm_M254 (pc' := 154) (st' := [.int 6, .ref 67]) (pm_q254_1 (Nat.le_of_ble_eq_true rfl)) rfl rfl ?_
                            refine pm_R_lo pm_M254 (pc' := 155) (pm_q254_1 (Nat.le_of_ble_eq_true rfl)) rfl rfl ?_
                            refine pm_R_op pm_M254 (pc' := 156) (st' := [.int 1, .int x2_37849, .int 6, .ref 67]) (pm_q254_1 (Nat.le_of_ble_eq_true rfl)) rfl rfl ?_
                            refine sf_R_iadd pm_M254 (pc' := 157) (pm_q254_1 (Nat.le_of_ble_eq_true rfl)) rfl B37856 sf_k1 (by decide) (by decide) (fun z40670 e40671 B40672 => ?_)
                            refine sf_R_imul pm_M254 (pc' := 158) (pm_q254_1 (Nat.le_of_ble_eq_true rfl)) rfl sf_k6 B40672 (by decide) (by decide) (by decide) (fun z40673 e40674 B40675 => ?_)
                            refine pm_R_lo pm_M254 (pc' := 160) (pm_q254_1 (Nat.le_of_ble_eq_true rfl)) rfl rfl ?_
                            refine sf_R_iadd pm_M254 (pc' := 161) (pm_q254_1 (Nat.le_of_ble_eq_true rfl)) rfl B40675 B40374 (by decide) (by decide) (fun z40676 e40677 B40678 => ?_)
                            refine pm_R_lo pm_M254 (pc' := 163) (pm_q254_1 (Nat.le_of_ble_eq_true rfl)) rfl rfl ?_
                            refine pm_R_lo pm_M254 (pc' := 164) (pm_q254_1 (Nat.le_of_ble_eq_true rfl)) rfl rfl ?_
                            refine pm_R_icmp pm_M254 (t := 177) (pc' := 167) (pm_q254_1 (Nat.le_of_ble_eq_true rfl)) rfl rfl (fun c40679 => ?_) (fun c40679 => ?_)
                            · skip
                              refine pm_R_lo pm_M254 (pc' := 179) (pm_q254_1 (Nat.le_of_ble_eq_true rfl)) rfl rfl ?_
                              refine pm_R_br pm_M254 (pc' := 201) (pm_q254_1 (Nat.le_of_ble_eq_true rfl)) rfl ?_
                              have e40680 := (F40667.cell (by decide) e40382)
                              refine rf_R_ist pm_M254 T40666 (pc' := 202) (pm_q254_2 (Nat.le_of_ble_eq_true rfl)) e40680 (by decide) (by decide) (sf_in B40678 (by decide) (by decide)) ⟨_, rfl⟩ rfl (fun h40681 T40682 F40683 e40684 => ?_)
                              have F40685 := F40669.trans F40683 (by decide)
                              refine sf_R_iinc pm_M254 (pc' := 205) (ls' := fun z => [.ref 41, .int a0, .int x2_37849, .int z37877, .int z, .int z40384]) (pm_q254_2 (Nat.le_of_ble_eq_true rfl)) B40374 rfl (by decide) (by decide) (by decide) (fun _ => rfl) rfl (fun z40686 e40687 B40688 => ?_)
                              show pm_R _ 254 205 [.ref 41, .int a0, .int x2_37849, .int z37877, .int z40686, .int z40384] [] _ _
                              refine pm_R_br pm_M254 (pc' := 94) (pm_q254_2 (Nat.le_of_ble_eq_true rfl)) rfl ?_
                              exact ih_40362 _ (sf_up hN_40362 e40687 B40374 (by decide) (by decide)) h40681 m_40362 w_40362 z40686 (.int z40384) T40682 F40685 W_40362 (sf_weak B40688 (by decide) (by decide)) rfl rfl
                            · refine pm_R_lo pm_M254 (pc' := 168) (pm_q254_1 (Nat.le_of_ble_eq_true rfl)) rfl rfl ?_
                              refine pm_R_lo pm_M254 (pc' := 169) (pm_q254_1 (Nat.le_of_ble_eq_true rfl)) rfl rfl ?_
                              refine pm_R_op pm_M254 (pc' := 170) (st' := [.int 0, .int x2_37849, .ref 41, .int z40676, .ref 67]) (pm_q254_1 (Nat.le_of_ble_eq_true rfl)) rfl rfl ?_
                              refine pm_R_cv pm_M254 (pc' := 173) (a := 41) (ra := [.int 0, .int x2_37849]) (rest := [.int z40676, .ref 67]) (ls' := [.ref 41, .int x2_37849, .int 0]) (pm_q254_1 (Nat.le_of_ble_eq_true rfl)) rfl (Or.inl rfl) pm_M255 T40666.2.1 rfl (by decide) (Nat.lt_of_lt_of_le (by decide) T40666.1) rfl rfl (Nat.le_of_ble_eq_true rfl) rfl rfl ?_
                              refine pm_R_lo pm_M255 (pc' := 1) rfl rfl rfl ?_
                              refine rf_R_get pm_M255 T40666 (pc' := 4) (v := .ref 49) rfl rfl rfl rfl ?_
                              refine pm_R_op pm_M255 (pc' := 7) (st' := [.int 152, .ref 49]) rfl rfl rfl ?_
                              refine pm_R_lo pm_M255 (pc' := 8) rfl rfl rfl ?_
                              refine rf_R_get pm_M255 T40666 (pc' := 11) (v := .int (m_40362 44)) rfl rfl rfl rfl ?_
                              refine sf_R_imul pm_M255 (pc' := 12) rfl rfl sf_k152 B40391 (by decide) (by decide) (by decide) (fun z40689 e40690 B40691 => ?_)
                              refine pm_R_op pm_M255 (pc' := 13) (st' := [.int 2, .int z40689, .ref 49]) rfl rfl rfl ?_
                              refine sf_R_iadd pm_M255 (pc' := 14) rfl rfl B40691 sf_k2 (by decide) (by decide) (fun z40692 e40693 B40694 => ?_)
                              refine pm_R_op pm_M255 (pc' := 15) (st' := [.int 3, .int z40692, .ref 49]) rfl rfl rfl ?_
                              refine pm_R_lo pm_M255 (pc' := 16) rfl rfl rfl ?_
                              refine sf_R_imul pm_M255 (pc' := 17) rfl rfl sf_k3 B37856 (by decide) (by decide) (by decide) (fun z40695 e40696 B40697 => ?_)
                              refine sf_R_iadd pm_M255 (pc' := 18) rfl rfl B40694 B40697 (by decide) (by decide) (fun z40698 e40699 B40700 => ?_)
                              refine pm_R_lo pm_M255 (pc' := 19) rfl rfl rfl ?_
                              refine sf_R_iadd pm_M255 (pc' := 20) rfl rfl B40700 sf_k0 (by decide) (by decide) (fun z40701 e40702 B40703 => ?_)
                              have e40704 := (F40667.cell (by decide) e40408)
                              refine rf_R_ild pm_M255 T40666 (pc' := 21) rfl e40704 (by decide) (sf_in B40703 (by decide) (by decide)) rfl (fun z40705 ez40706 => ?_)
                              have e40707 : (z40701).toInt = 152 * ((m_40362 44)).toInt + 3 * (x2_37849).toInt + 2 := by
                                have q0 := e40690
                                have q1 := e40693
                                have q2 := e40696
                                have q3 := e40699
                                have q4 := e40702
                                simp only [(show (0 : Int32).toInt = 0 from rfl), (show (2 : Int32).toInt = 2 from rfl), (show (3 : Int32).toInt = 3 from rfl), (show (152 : Int32).toInt = 152 from rfl)] at q0 q1 q2 q3 q4
                                omega
                              have B40708 : sf_B 0 2 z40705 := ez40706 ▸ rf_p49s b40409 e40707 B40391 B37856 (by decide) (by decide) (by decide)
                              refine pm_R_ret pm_M255 (r := some (.int z40705)) rfl (pm_ret_i _) ?_
                              show pm_R _ 254 173 [.ref 41, .int a0, .int x2_37849, .int z37877, .int x4_40362, .int z40384] [.int z40705, .int z40676, .ref 67] _ _
                              refine pm_R_op pm_M254 (pc' := 174) (st' := [.int 2, .int z40705, .int z40676, .ref 67]) (pm_q254_1 (Nat.le_of_ble_eq_true rfl)) rfl rfl ?_
                              refine pm_R_icmp pm_M254 (t := 182) (pc' := 177) (pm_q254_1 (Nat.le_of_ble_eq_true rfl)) rfl rfl (fun c40709 => ?_) (fun c40709 => ?_)
                              · have B40710 : sf_B 0 1 z40705 := sf_neH0 c40709 sf_k2 B40708
                                refine pm_R_lo pm_M254 (pc' := 183) (pm_q254_1 (Nat.le_of_ble_eq_true rfl)) rfl rfl ?_
                                refine pm_R_lo pm_M254 (pc' := 184) (pm_q254_1 (Nat.le_of_ble_eq_true rfl)) rfl rfl ?_
                                refine pm_R_op pm_M254 (pc' := 185) (st' := [.int 0, .int x2_37849, .ref 41, .int z40676, .ref 67]) (pm_q254_1 (Nat.le_of_ble_eq_true rfl)) rfl rfl ?_
                                refine pm_R_cv pm_M254 (pc' := 188) (a := 41) (ra := [.int 0, .int x2_37849]) (rest := [.int z40676, .ref 67]) (ls' := [.ref 41, .int x2_37849, .int 0]) (pm_q254_1 (Nat.le_of_ble_eq_true rfl)) rfl (Or.inl rfl) pm_M255 T40666.2.1 rfl (by decide) (Nat.lt_of_lt_of_le (by decide) T40666.1) rfl rfl (Nat.le_of_ble_eq_true rfl) rfl rfl ?_
                                refine pm_R_lo pm_M255 (pc' := 1) rfl rfl rfl ?_
                                refine rf_R_get pm_M255 T40666 (pc' := 4) (v := .ref 49) rfl rfl rfl rfl ?_
                                refine pm_R_op pm_M255 (pc' := 7) (st' := [.int 152, .ref 49]) rfl rfl rfl ?_
                                refine pm_R_lo pm_M255 (pc' := 8) rfl rfl rfl ?_
                                refine rf_R_get pm_M255 T40666 (pc' := 11) (v := .int (m_40362 44)) rfl rfl rfl rfl ?_
                                refine sf_R_imul pm_M255 (pc' := 12) rfl rfl sf_k152 B40391 (by decide) (by decide) (by decide) (fun z40711 e40712 B40713 => ?_)
                                refine pm_R_op pm_M255 (pc' := 13) (st' := [.int 2, .int z40711, .ref 49]) rfl rfl rfl ?_
                                refine sf_R_iadd pm_M255 (pc' := 14) rfl rfl B40713 sf_k2 (by decide) (by decide) (fun z40714 e40715 B40716 => ?_)
                                refine pm_R_op pm_M255 (pc' := 15) (st' := [.int 3, .int z40714, .ref 49]) rfl rfl rfl ?_
                                refine pm_R_lo pm_M255 (pc' := 16) rfl rfl rfl ?_
                                refine sf_R_imul pm_M255 (pc' := 17) rfl rfl sf_k3 B37856 (by decide) (by decide) (by decide) (fun z40717 e40718 B40719 => ?_)
                                refine sf_R_iadd pm_M255 (pc' := 18) rfl rfl B40716 B40719 (by decide) (by decide) (fun z40720 e40721 B40722 => ?_)
                                refine pm_R_lo pm_M255 (pc' := 19) rfl rfl rfl ?_
                                refine sf_R_iadd pm_M255 (pc' := 20) rfl rfl B40722 sf_k0 (by decide) (by decide) (fun z40723 e40724 B40725 => ?_)
                                refine rf_R_ild pm_M255 T40666 (pc' := 21) rfl e40704 (by decide) (sf_in B40725 (by decide) (by decide)) rfl (fun z40726 ez40727 => ?_)
                                have e40728 : (z40723).toInt = 152 * ((m_40362 44)).toInt + 3 * (x2_37849).toInt + 2 := by
                                  have q0 := e40712
                                  have q1 := e40715
                                  have q2 := e40718
                                  have q3 := e40721
                                  have q4 := e40724
                                  simp only [(show (0 : Int32).toInt = 0 from rfl), (show (2 : Int32).toInt = 2 from rfl), (show (3 : Int32).toInt = 3 from rfl), (show (152 : Int32).toInt = 152 from rfl)] at q0 q1 q2 q3 q4
                                  omega
                                have B40729 : sf_B 0 2 z40726 := ez40727 ▸ rf_p49s b40409 e40728 B40391 B37856 (by decide) (by decide) (by decide)
                                refine pm_R_ret pm_M255 (r := some (.int z40726)) rfl (pm_ret_i _) ?_
                                show pm_R _ 254 188 [.ref 41, .int a0, .int x2_37849, .int z37877, .int x4_40362, .int z40384] [.int z40726, .int z40676, .ref 67] _ _
                                refine pm_R_ifc pm_M254 (t := 200) (pc' := 191) (pm_q254_1 (Nat.le_of_ble_eq_true rfl)) rfl rfl (fun c40730 => ?_) (fun c40730 => ?_)
                                · have B40731 : sf_B 1 2 z40726 := sf_neL0 c40730 sf_k0 B40729
                                  refine pm_R_op pm_M254 (pc' := 201) (st' := [.int (-1), .int z40676, .ref 67]) (pm_q254_2 (Nat.le_of_ble_eq_true rfl)) rfl rfl ?_
                                  have e40732 := (F40667.cell (by decide) e40382)
                                  refine rf_R_ist pm_M254 T40666 (pc' := 202) (pm_q254_2 (Nat.le_of_ble_eq_true rfl)) e40732 (by decide) (by decide) (sf_in B40678 (by decide) (by decide)) ⟨_, rfl⟩ rfl (fun h40733 T40734 F40735 e40736 => ?_)
                                  have F40737 := F40669.trans F40735 (by decide)
                                  refine sf_R_iinc pm_M254 (pc' := 205) (ls' := fun z => [.ref 41, .int a0, .int x2_37849, .int z37877, .int z, .int z40384]) (pm_q254_2 (Nat.le_of_ble_eq_true rfl)) B40374 rfl (by decide) (by decide) (by decide) (fun _ => rfl) rfl (fun z40738 e40739 B40740 => ?_)
                                  show pm_R _ 254 205 [.ref 41, .int a0, .int x2_37849, .int z37877, .int z40738, .int z40384] [] _ _
                                  refine pm_R_br pm_M254 (pc' := 94) (pm_q254_2 (Nat.le_of_ble_eq_true rfl)) rfl ?_
                                  exact ih_40362 _ (sf_up hN_40362 e40739 B40374 (by decide) (by decide)) h40733 m_40362 w_40362 z40738 (.int z40384) T40734 F40737 W_40362 (sf_weak B40740 (by decide) (by decide)) rfl rfl
                                · have B40741 : sf_B 0 0 z40726 := sf_eqL (Classical.not_not.mp c40730) sf_k0
                                  refine pm_R_lo pm_M254 (pc' := 192) (pm_q254_1 (Nat.le_of_ble_eq_true rfl)) rfl rfl ?_
                                  refine pm_R_lo pm_M254 (pc' := 193) (pm_q254_1 (Nat.le_of_ble_eq_true rfl)) rfl rfl ?_
                                  refine pm_R_op pm_M254 (pc' := 194) (st' := [.int 2, .int x2_37849, .ref 41, .int z40676, .ref 67]) (pm_q254_1 (Nat.le_of_ble_eq_true rfl)) rfl rfl ?_
                                  refine pm_R_cv pm_M254 (pc' := 197) (a := 41) (ra := [.int 2, .int x2_37849]) (rest := [.int z40676, .ref 67]) (ls' := [.ref 41, .int x2_37849, .int 2]) (pm_q254_1 (Nat.le_of_ble_eq_true rfl)) rfl (Or.inl rfl) pm_M255 T40666.2.1 rfl (by decide) (Nat.lt_of_lt_of_le (by decide) T40666.1) rfl rfl (Nat.le_of_ble_eq_true rfl) rfl rfl ?_
                                  refine pm_R_lo pm_M255 (pc' := 1) rfl rfl rfl ?_
                                  refine rf_R_get pm_M255 T40666 (pc' := 4) (v := .ref 49) rfl rfl rfl rfl ?_
                                  refine pm_R_op pm_M255 (pc' := 7) (st' := [.int 152, .ref 49]) rfl rfl rfl ?_
                                  refine pm_R_lo pm_M255 (pc' := 8) rfl rfl rfl ?_
                                  refine rf_R_get pm_M255 T40666 (pc' := 11) (v := .int (m_40362 44)) rfl rfl rfl rfl ?_
                                  refine sf_R_imul pm_M255 (pc' := 12) rfl rfl sf_k152 B40391 (by decide) (by decide) (by decide) (fun z40742 e40743 B40744 => ?_)
                                  refine pm_R_op pm_M255 (pc' := 13) (st' := [.int 2, .int z40742, .ref 49]) rfl rfl rfl ?_
                                  refine sf_R_iadd pm_M255 (pc' := 14) rfl rfl B40744 sf_k2 (by decide) (by decide) (fun z40745 e40746 B40747 => ?_)
                                  refine pm_R_op pm_M255 (pc' := 15) (st' := [.int 3, .int z40745, .ref 49]) rfl rfl rfl ?_
                                  refine pm_R_lo pm_M255 (pc' := 16) rfl rfl rfl ?_
                                  refine sf_R_imul pm_M255 (pc' := 17) rfl rfl sf_k3 B37856 (by decide) (by decide) (by decide) (fun z40748 e40749 B40750 => ?_)
                                  refine sf_R_iadd pm_M255 (pc' := 18) rfl rfl B40747 B40750 (by decide) (by decide) (fun z40751 e40752 B40753 => ?_)
                                  refine pm_R_lo pm_M255 (pc' := 19) rfl rfl rfl ?_
                                  refine sf_R_iadd pm_M255 (pc' := 20) rfl rfl B40753 sf_k2 (by decide) (by decide) (fun z40754 e40755 B40756 => ?_)
                                  refine rf_R_ild pm_M255 T40666 (pc' := 21) rfl e40704 (by decide) (sf_in B40756 (by decide) (by decide)) rfl (fun z40757 ez40758 => ?_)
                                  have e40759 : (z40754).toInt = 152 * ((m_40362 44)).toInt + 3 * (x2_37849).toInt + 4 := by
                                    have q0 := e40743
                                    have q1 := e40746
                                    have q2 := e40749
                                    have q3 := e40752
                                    have q4 := e40755
                                    simp only [(show (2 : Int32).toInt = 2 from rfl), (show (3 : Int32).toInt = 3 from rfl), (show (152 : Int32).toInt = 152 from rfl)] at q0 q1 q2 q3 q4
                                    omega
                                  have B40760 : sf_B (-1) 9 z40757 := ez40758 ▸ rf_p49o b40409 e40759 B40391 B37856 (by decide) (by decide) (by decide)
                                  refine pm_R_ret pm_M255 (r := some (.int z40757)) rfl (pm_ret_i _) ?_
                                  show pm_R _ 254 197 [.ref 41, .int a0, .int x2_37849, .int z37877, .int x4_40362, .int z40384] [.int z40757, .int z40676, .ref 67] _ _
                                  refine pm_R_br pm_M254 (pc' := 201) (pm_q254_2 (Nat.le_of_ble_eq_true rfl)) rfl ?_
                                  have e40761 := (F40667.cell (by decide) e40382)
                                  refine rf_R_ist pm_M254 T40666 (pc' := 202) (pm_q254_2 (Nat.le_of_ble_eq_true rfl)) e40761 (by decide) (by decide) (sf_in B40678 (by decide) (by decide)) ⟨_, rfl⟩ rfl (fun h40762 T40763 F40764 e40765 => ?_)
                                  have F40766 := F40669.trans F40764 (by decide)
                                  refine sf_R_iinc pm_M254 (pc' := 205) (ls' := fun z => [.ref 41, .int a0, .int x2_37849, .int z37877, .int z, .int z40384]) (pm_q254_2 (Nat.le_of_ble_eq_true rfl)) B40374 rfl (by decide) (by decide) (by decide) (fun _ => rfl) rfl (fun z40767 e40768 B40769 => ?_)
                                  show pm_R _ 254 205 [.ref 41, .int a0, .int x2_37849, .int z37877, .int z40767, .int z40384] [] _ _
                                  refine pm_R_br pm_M254 (pc' := 94) (pm_q254_2 (Nat.le_of_ble_eq_true rfl)) rfl ?_
                                  exact ih_40362 _ (sf_up hN_40362 e40768 B40374 (by decide) (by decide)) h40762 m_40362 w_40362 z40767 (.int z40384) T40763 F40766 W_40362 (sf_weak B40769 (by decide) (by decide)) rfl rfl
                              · have B40770 : sf_B 2 2 z40705 := sf_eqL (Classical.not_not.mp c40709) sf_k2
                                refine pm_R_lo pm_M254 (pc' := 179) (pm_q254_1 (Nat.le_of_ble_eq_true rfl)) rfl rfl ?_
                                refine pm_R_br pm_M254 (pc' := 201) (pm_q254_1 (Nat.le_of_ble_eq_true rfl)) rfl ?_
                                have e40771 := (F40667.cell (by decide) e40382)
                                refine rf_R_ist pm_M254 T40666 (pc' := 202) (pm_q254_2 (Nat.le_of_ble_eq_true rfl)) e40771 (by decide) (by decide) (sf_in B40678 (by decide) (by decide)) ⟨_, rfl⟩ rfl (fun h40772 T40773 F40774 e40775 => ?_)
                                have F40776 := F40669.trans F40774 (by decide)
                                refine sf_R_iinc pm_M254 (pc' := 205) (ls' := fun z => [.ref 41, .int a0, .int x2_37849, .int z37877, .int z, .int z40384]) (pm_q254_2 (Nat.le_of_ble_eq_true rfl)) B40374 rfl (by decide) (by decide) (by decide) (fun _ => rfl) rfl (fun z40777 e40778 B40779 => ?_)
                                show pm_R _ 254 205 [.ref 41, .int a0, .int x2_37849, .int z37877, .int z40777, .int z40384] [] _ _
                                refine pm_R_br pm_M254 (pc' := 94) (pm_q254_2 (Nat.le_of_ble_eq_true rfl)) rfl ?_
                                exact ih_40362 _ (sf_up hN_40362 e40778 B40374 (by decide) (by decide)) h40772 m_40362 w_40362 z40777 (.int z40384) T40773 F40776 W_40362 (sf_weak B40779 (by decide) (by decide)) rfl rfl
                  exact L_40362 _ h37884 m_37849 w_37849 0 (g5_37849) T37885 F37888 (rf_W.refl _ _) (sf_weak sf_k0 (by decide) (by decide)) Cg5_37849 rfl
            exact L_37849 _ h_25273 m_25273 w_25273 0 (pm_no) (pm_no) (pm_no) T_25273 F_25273 (rf_W.refl _ _) (sf_weak sf_k0 (by decide) (by decide)) rfl rfl rfl rfl
          · have B40780 : sf_B 0 5 x2_25273 := sf_ltL (Int32.not_le.mp c25277) Bx2_25273 sf_k6
            refine pm_R_lo pm_M254 (pc' := 55) rfl rfl rfl ?_
            refine rf_R_get pm_M254 T_25273 (pc' := 58) (v := .ref 67) rfl rfl rfl rfl ?_
            refine pm_R_lo pm_M254 (pc' := 59) rfl rfl rfl ?_
            refine pm_R_op pm_M254 (pc' := 60) (st' := [.int (-1), .int x2_25273, .ref 67]) rfl rfl rfl ?_
            obtain ⟨f40781, e40782⟩ := T_25273.2.2.2.1 67 (by decide) (by decide)
            refine rf_R_ist pm_M254 T_25273 (pc' := 61) rfl e40782 (by decide) (by decide) (sf_in B40780 (by decide) (by decide)) ⟨_, rfl⟩ rfl (fun h40784 T40785 F40786 e40787 => ?_)
            have F40788 := F_25273.trans F40786 (by decide)
            refine sf_R_iinc pm_M254 (pc' := 64) (ls' := fun z => [.ref 41, .int a0, .int z, pm_no, pm_no, pm_no]) rfl B40780 rfl (by decide) (by decide) (by decide) (fun _ => rfl) rfl (fun z40789 e40790 B40791 => ?_)
            show pm_R _ 254 64 [.ref 41, .int a0, .int z40789, pm_no, pm_no, pm_no] [] _ _
            refine pm_R_br pm_M254 (pc' := 48) rfl rfl ?_
            exact ih_25273 _ (sf_up hN_25273 e40790 B40780 (by decide) (by decide)) h40784 m_25273 w_25273 z40789 T40785 F40788 W_25273 (sf_weak B40791 (by decide) (by decide)) rfl
      exact L_25273 _ h55 m58 w 0 T56 F60 (rf_W.refl _ _) (sf_weak sf_k0 (by decide) (by decide)) rfl

set_option maxRecDepth 100000 in
set_option maxHeartbeats 4000000 in
/-- SilentTableModel.looked -/
theorem rf_c267 {d : Nat} {m : Nat → Int32} {w : Int64} {h : pm_H} {Q : Option Value → pm_H → Prop} {a0 : Int32} {a1 : Int32} (T : rf_T m w h) (Ba0 : sf_B 0 5 a0) (K : ∀ (r : Int32), sf_B 0 1 r → Q (some (.int r)) h) : pm_R (d + 0) 267 0 [.ref 41, .int a0, .int a1, pm_no] [] h Q := by
  refine pm_R_op pm_M267 (pc' := 1) (st' := [.int 1]) rfl rfl rfl ?_
  refine pm_R_lo pm_M267 (pc' := 2) (ls' := [.ref 41, .int a0, .int a1, .int 1]) (st' := []) rfl rfl rfl ?_
  have L_121 : ∀ (N : Nat) (x3_121 : Int32), sf_B 1 51 x3_121 → (51 - x3_121.toInt).toNat = N → pm_R (d + 0) 267 2 [.ref 41, .int a0, .int a1, .int x3_121] [] h Q := by
    intro N
    induction N using Nat.strongRecOn with
    | ind N ih_121 =>
      intro x3_121 Bx3_121 hN_121
      refine pm_R_lo pm_M267 (pc' := 3) rfl rfl rfl ?_
      refine pm_R_lo pm_M267 (pc' := 4) rfl rfl rfl ?_
      have B122 : sf_B 0 50 (m 43) := T.2.2.1 43
      refine rf_R_get pm_M267 T (pc' := 7) (v := .int (m 43)) rfl rfl rfl rfl ?_
      refine pm_R_icmp pm_M267 (t := 33) (pc' := 10) rfl rfl rfl (fun c123 => ?_) (fun c123 => ?_)
      · skip
        refine pm_R_op pm_M267 (pc' := 34) (st' := [.int 0]) rfl rfl rfl ?_
        exact pm_R_ret pm_M267 (r := some (.int 0)) rfl rfl (K 0 (sf_weak sf_k0 (by decide) (by decide)))
      · have B124 : sf_B 1 50 x3_121 := sf_leL (Int32.not_lt.mp c123) Bx3_121 B122
        have B125 : sf_B 1 50 (m 43) := sf_leR (Int32.not_lt.mp c123) Bx3_121 B122
        refine pm_R_lo pm_M267 (pc' := 11) rfl rfl rfl ?_
        refine rf_R_get pm_M267 T (pc' := 14) (v := .ref 67) rfl rfl rfl rfl ?_
        refine pm_R_op pm_M267 (pc' := 16) (st' := [.int 6, .ref 67]) rfl rfl rfl ?_
        refine pm_R_lo pm_M267 (pc' := 17) rfl rfl rfl ?_
        refine sf_R_imul pm_M267 (pc' := 18) rfl rfl sf_k6 B124 (by decide) (by decide) (by decide) (fun z126 e127 B128 => ?_)
        refine pm_R_lo pm_M267 (pc' := 19) rfl rfl rfl ?_
        refine sf_R_iadd pm_M267 (pc' := 20) rfl rfl B128 Ba0 (by decide) (by decide) (fun z129 e130 B131 => ?_)
        obtain ⟨f132, e133⟩ := T.2.2.2.1 67 (by decide) (by decide)
        refine rf_R_ild pm_M267 T (pc' := 21) rfl e133 (by decide) (sf_in B131 (by decide) (by decide)) rfl (fun z135 ez136 => ?_)
        refine pm_R_lo pm_M267 (pc' := 22) rfl rfl rfl ?_
        refine pm_R_icmp pm_M267 (t := 27) (pc' := 25) rfl rfl rfl (fun c137 => ?_) (fun c137 => ?_)
        · skip
          refine sf_R_iinc pm_M267 (pc' := 30) (ls' := fun z => [.ref 41, .int a0, .int a1, .int z]) rfl B124 rfl (by decide) (by decide) (by decide) (fun _ => rfl) rfl (fun z138 e139 B140 => ?_)
          show pm_R _ 267 30 [.ref 41, .int a0, .int a1, .int z138] [] _ _
          refine pm_R_br pm_M267 (pc' := 2) rfl rfl ?_
          exact ih_121 _ (sf_up hN_121 e139 B124 (by decide) (by decide)) z138 (sf_weak B140 (by decide) (by decide)) rfl
        · refine pm_R_op pm_M267 (pc' := 26) (st' := [.int 1]) rfl rfl rfl ?_
          exact pm_R_ret pm_M267 (r := some (.int 1)) rfl rfl (K 1 (sf_weak sf_k1 (by decide) (by decide)))
  exact L_121 _ 1 (sf_weak sf_k1 (by decide) (by decide)) rfl

set_option maxRecDepth 100000 in
set_option maxHeartbeats 4000000 in
/-- SilentTableModel.hands -/
theorem rf_c266 {d : Nat} {m : Nat → Int32} {w : Int64} {h : pm_H} {Q : Option Value → pm_H → Prop} {a0 : Int32} {a1 : Int32} {a2 : Int32} (T : rf_T m w h)  (K : ∀ (r : Int32) (m' : Nat → Int32) (w' : Int64) (h' : pm_H), rf_T m' w' h' → rf_G [41, 67, 68] h h' → rf_W [42, 43, 44] m m' → sf_B (-1) 5 r → Q (some (.int r)) h') : pm_R (d + 3) 266 0 [.ref 41, .int a0, .int a1, .int a2, pm_no, pm_no, pm_no, pm_no, pm_no] [] h Q := by
  refine pm_R_lo pm_M266 (pc' := 1) rfl rfl rfl ?_
  refine pm_R_lo pm_M266 (pc' := 2) rfl rfl rfl ?_
  refine pm_R_cv pm_M266 (pc' := 5) (a := 41) (ra := [.int a0]) (rest := []) (ls' := [.ref 41, .int a0, pm_no, pm_no, pm_no, pm_no]) rfl rfl (Or.inl rfl) pm_M254 T.2.1 rfl (by decide) (Nat.lt_of_lt_of_le (by decide) T.1) rfl rfl (Nat.le_of_ble_eq_true rfl) rfl rfl ?_
  refine rf_c254 (d := d + 0) T  (fun r1 m3 w4 h5 T6 F7 W8 B2 => ?_)
  have F9 := (rf_G.refl [41, 67, 68] h).trans F7 (by decide)
  have W10 : rf_W [42, 43, 44] m m3 := (rf_W.refl [42, 43, 44] m).trans W8 (by decide)
  show pm_R _ 266 5 [.ref 41, .int a0, .int a1, .int a2, pm_no, pm_no, pm_no, pm_no, pm_no] [.int r1] _ _
  refine pm_R_ifc pm_M266 (t := 29) (pc' := 8) rfl rfl rfl (fun c11 => ?_) (fun c11 => ?_)
  · have B12 : sf_B 0 0 r1 := sf_eqL c11 sf_k0
    refine pm_R_op pm_M266 (pc' := 30) (st' := [.int (-1)]) rfl rfl rfl ?_
    exact pm_R_ret pm_M266 (r := some (.int (-1))) rfl rfl (K (-1) m3 w4 h5 T6 F9 W10 (sf_weak sf_kn1 (by decide) (by decide)))
  · have B13 : sf_B 1 1 r1 := sf_neL0 c11 sf_k0 B2
    refine pm_R_lo pm_M266 (pc' := 9) rfl rfl rfl ?_
    refine pm_R_lo pm_M266 (pc' := 10) rfl rfl rfl ?_
    refine pm_R_cv pm_M266 (pc' := 13) (a := 41) (ra := [.int a1]) (rest := []) (ls' := [.ref 41, .int a1]) rfl rfl (Or.inl rfl) pm_M259 T6.2.1 rfl (by decide) (Nat.lt_of_lt_of_le (by decide) T6.1) rfl rfl (Nat.le_of_ble_eq_true rfl) rfl rfl ?_
    refine pm_R_lo pm_M259 (pc' := 1) rfl rfl rfl ?_
    refine pm_R_op pm_M259 (pc' := 2) (st' := [.int 0, .int a1]) rfl rfl rfl ?_
    refine pm_R_lo pm_M259 (pc' := 3) rfl rfl rfl ?_
    have B14 : sf_B 0 6 (m3 42) := T6.2.2.1 42
    refine rf_R_get pm_M259 T6 (pc' := 6) (v := .int (m3 42)) rfl rfl rfl rfl ?_
    refine pm_R_op pm_M259 (pc' := 7) (st' := [.int 1, .int (m3 42), .int 0, .int a1]) rfl rfl rfl ?_
    refine sf_R_isub pm_M259 (pc' := 8) rfl rfl B14 sf_k1 (by decide) (by decide) (fun z15 e16 B17 => ?_)
    refine pm_R_cs pm_M259 (pc' := 11) (ra := [.int z15, .int 0, .int a1]) (rest := []) (ls' := [.int a1, .int 0, .int z15]) rfl rfl (Or.inl rfl) pm_M174 rfl rfl (Nat.le_of_ble_eq_true rfl) rfl rfl ?_
    refine pm_R_lo pm_M174 (pc' := 1) rfl rfl rfl ?_
    refine pm_R_lo pm_M174 (pc' := 2) rfl rfl rfl ?_
    refine pm_R_icmp pm_M174 (t := 14) (pc' := 5) rfl rfl rfl (fun c18 => ?_) (fun c18 => ?_)
    · have B19 : sf_B (-2147483648) (-1) a1 := sf_ltL c18 (sf_any a1) sf_k0
      refine pm_R_op pm_M174 (pc' := 15) (st' := [.int 0]) rfl rfl rfl ?_
      refine pm_R_ret pm_M174 (r := some (.int 0)) rfl rfl ?_
      show pm_R _ 259 11 [.ref 41, .int a1] [.int 0] _ _
      refine pm_R_ret pm_M259 (r := some (.int 0)) rfl rfl ?_
      show pm_R _ 266 13 [.ref 41, .int a0, .int a1, .int a2, pm_no, pm_no, pm_no, pm_no, pm_no] [.int 0] _ _
      refine pm_R_br pm_M266 (pc' := 29) (st' := []) rfl rfl ?_
      refine pm_R_op pm_M266 (pc' := 30) (st' := [.int (-1)]) rfl rfl rfl ?_
      exact pm_R_ret pm_M266 (r := some (.int (-1))) rfl rfl (K (-1) m3 w4 h5 T6 F9 W10 (sf_weak sf_kn1 (by decide) (by decide)))
    · have B20 : sf_B 0 2147483647 a1 := sf_leR (Int32.not_lt.mp c18) sf_k0 (sf_any a1)
      refine pm_R_lo pm_M174 (pc' := 6) rfl rfl rfl ?_
      refine pm_R_lo pm_M174 (pc' := 7) rfl rfl rfl ?_
      refine pm_R_icmp pm_M174 (t := 14) (pc' := 10) rfl rfl rfl (fun c21 => ?_) (fun c21 => ?_)
      · skip
        refine pm_R_op pm_M174 (pc' := 15) (st' := [.int 0]) rfl rfl rfl ?_
        refine pm_R_ret pm_M174 (r := some (.int 0)) rfl rfl ?_
        show pm_R _ 259 11 [.ref 41, .int a1] [.int 0] _ _
        refine pm_R_ret pm_M259 (r := some (.int 0)) rfl rfl ?_
        show pm_R _ 266 13 [.ref 41, .int a0, .int a1, .int a2, pm_no, pm_no, pm_no, pm_no, pm_no] [.int 0] _ _
        refine pm_R_br pm_M266 (pc' := 29) (st' := []) rfl rfl ?_
        refine pm_R_op pm_M266 (pc' := 30) (st' := [.int (-1)]) rfl rfl rfl ?_
        exact pm_R_ret pm_M266 (r := some (.int (-1))) rfl rfl (K (-1) m3 w4 h5 T6 F9 W10 (sf_weak sf_kn1 (by decide) (by decide)))
      · have B22 : sf_B 0 5 a1 := sf_leL (Int32.not_lt.mp c21) B20 B17
        have B23 : sf_B 0 5 z15 := sf_leR (Int32.not_lt.mp c21) B20 B17
        refine pm_R_op pm_M174 (pc' := 11) (st' := [.int 1]) rfl rfl rfl ?_
        refine pm_R_br pm_M174 (pc' := 15) rfl rfl ?_
        refine pm_R_ret pm_M174 (r := some (.int 1)) rfl rfl ?_
        show pm_R _ 259 11 [.ref 41, .int a1] [.int 1] _ _
        refine pm_R_ret pm_M259 (r := some (.int 1)) rfl rfl ?_
        show pm_R _ 266 13 [.ref 41, .int a0, .int a1, .int a2, pm_no, pm_no, pm_no, pm_no, pm_no] [.int 1] _ _
        refine pm_R_br pm_M266 (pc' := 16) (st' := []) rfl rfl ?_
        refine pm_R_lo pm_M266 (pc' := 17) rfl rfl rfl ?_
        refine pm_R_lo pm_M266 (pc' := 18) rfl rfl rfl ?_
        refine pm_R_cv pm_M266 (pc' := 21) (a := 41) (ra := [.int a2]) (rest := []) (ls' := [.ref 41, .int a2]) rfl rfl (Or.inl rfl) pm_M259 T6.2.1 rfl (by decide) (Nat.lt_of_lt_of_le (by decide) T6.1) rfl rfl (Nat.le_of_ble_eq_true rfl) rfl rfl ?_
        refine pm_R_lo pm_M259 (pc' := 1) rfl rfl rfl ?_
        refine pm_R_op pm_M259 (pc' := 2) (st' := [.int 0, .int a2]) rfl rfl rfl ?_
        refine pm_R_lo pm_M259 (pc' := 3) rfl rfl rfl ?_
        refine rf_R_get pm_M259 T6 (pc' := 6) (v := .int (m3 42)) rfl rfl rfl rfl ?_
        refine pm_R_op pm_M259 (pc' := 7) (st' := [.int 1, .int (m3 42), .int 0, .int a2]) rfl rfl rfl ?_
        refine sf_R_isub pm_M259 (pc' := 8) rfl rfl B14 sf_k1 (by decide) (by decide) (fun z24 e25 B26 => ?_)
        refine pm_R_cs pm_M259 (pc' := 11) (ra := [.int z24, .int 0, .int a2]) (rest := []) (ls' := [.int a2, .int 0, .int z24]) rfl rfl (Or.inl rfl) pm_M174 rfl rfl (Nat.le_of_ble_eq_true rfl) rfl rfl ?_
        refine pm_R_lo pm_M174 (pc' := 1) rfl rfl rfl ?_
        refine pm_R_lo pm_M174 (pc' := 2) rfl rfl rfl ?_
        refine pm_R_icmp pm_M174 (t := 14) (pc' := 5) rfl rfl rfl (fun c27 => ?_) (fun c27 => ?_)
        · have B28 : sf_B (-2147483648) (-1) a2 := sf_ltL c27 (sf_any a2) sf_k0
          refine pm_R_op pm_M174 (pc' := 15) (st' := [.int 0]) rfl rfl rfl ?_
          refine pm_R_ret pm_M174 (r := some (.int 0)) rfl rfl ?_
          show pm_R _ 259 11 [.ref 41, .int a2] [.int 0] _ _
          refine pm_R_ret pm_M259 (r := some (.int 0)) rfl rfl ?_
          show pm_R _ 266 21 [.ref 41, .int a0, .int a1, .int a2, pm_no, pm_no, pm_no, pm_no, pm_no] [.int 0] _ _
          refine pm_R_br pm_M266 (pc' := 29) (st' := []) rfl rfl ?_
          refine pm_R_op pm_M266 (pc' := 30) (st' := [.int (-1)]) rfl rfl rfl ?_
          exact pm_R_ret pm_M266 (r := some (.int (-1))) rfl rfl (K (-1) m3 w4 h5 T6 F9 W10 (sf_weak sf_kn1 (by decide) (by decide)))
        · have B29 : sf_B 0 2147483647 a2 := sf_leR (Int32.not_lt.mp c27) sf_k0 (sf_any a2)
          refine pm_R_lo pm_M174 (pc' := 6) rfl rfl rfl ?_
          refine pm_R_lo pm_M174 (pc' := 7) rfl rfl rfl ?_
          refine pm_R_icmp pm_M174 (t := 14) (pc' := 10) rfl rfl rfl (fun c30 => ?_) (fun c30 => ?_)
          · skip
            refine pm_R_op pm_M174 (pc' := 15) (st' := [.int 0]) rfl rfl rfl ?_
            refine pm_R_ret pm_M174 (r := some (.int 0)) rfl rfl ?_
            show pm_R _ 259 11 [.ref 41, .int a2] [.int 0] _ _
            refine pm_R_ret pm_M259 (r := some (.int 0)) rfl rfl ?_
            show pm_R _ 266 21 [.ref 41, .int a0, .int a1, .int a2, pm_no, pm_no, pm_no, pm_no, pm_no] [.int 0] _ _
            refine pm_R_br pm_M266 (pc' := 29) (st' := []) rfl rfl ?_
            refine pm_R_op pm_M266 (pc' := 30) (st' := [.int (-1)]) rfl rfl rfl ?_
            exact pm_R_ret pm_M266 (r := some (.int (-1))) rfl rfl (K (-1) m3 w4 h5 T6 F9 W10 (sf_weak sf_kn1 (by decide) (by decide)))
          · have B31 : sf_B 0 5 a2 := sf_leL (Int32.not_lt.mp c30) B29 B26
            have B32 : sf_B 0 5 z24 := sf_leR (Int32.not_lt.mp c30) B29 B26
            refine pm_R_op pm_M174 (pc' := 11) (st' := [.int 1]) rfl rfl rfl ?_
            refine pm_R_br pm_M174 (pc' := 15) rfl rfl ?_
            refine pm_R_ret pm_M174 (r := some (.int 1)) rfl rfl ?_
            show pm_R _ 259 11 [.ref 41, .int a2] [.int 1] _ _
            refine pm_R_ret pm_M259 (r := some (.int 1)) rfl rfl ?_
            show pm_R _ 266 21 [.ref 41, .int a0, .int a1, .int a2, pm_no, pm_no, pm_no, pm_no, pm_no] [.int 1] _ _
            refine pm_R_br pm_M266 (pc' := 24) (st' := []) rfl rfl ?_
            refine pm_R_lo pm_M266 (pc' := 25) rfl rfl rfl ?_
            refine pm_R_lo pm_M266 (pc' := 26) rfl rfl rfl ?_
            refine pm_R_icmp pm_M266 (t := 31) (pc' := 29) rfl rfl rfl (fun c33 => ?_) (fun c33 => ?_)
            · skip
              refine pm_R_op pm_M266 (pc' := 32) (st' := [.int 1]) rfl rfl rfl ?_
              refine pm_R_lo pm_M266 (pc' := 33) rfl rfl rfl ?_
              refine sf_R_iany pm_M266 (pc' := 34) (st := []) rfl rfl rfl (fun z37 => ?_)
              refine pm_R_lo pm_M266 (pc' := 36) (ls' := [.ref 41, .int a0, .int a1, .int a2, .int z37, pm_no, pm_no, pm_no, pm_no]) (st' := []) rfl rfl rfl ?_
              refine pm_R_op pm_M266 (pc' := 37) (st' := [.int 1]) rfl rfl rfl ?_
              refine pm_R_lo pm_M266 (pc' := 39) (ls' := [.ref 41, .int a0, .int a1, .int a2, .int z37, .int 1, pm_no, pm_no, pm_no]) (st' := []) rfl rfl rfl ?_
              have L_8172 : ∀ (N : Nat) (x4_8172 : Int32) (x5_8172 : Int32) (g6_8172 : Value) (g7_8172 : Value) (g8_8172 : Value), sf_B (-2147483648) 2147483647 x4_8172 → sf_B 1 6 x5_8172 → g6_8172.category = 1 → g7_8172.category = 1 → g8_8172.category = 1 → (6 - x5_8172.toInt).toNat = N → pm_R (d + 3) 266 39 [.ref 41, .int a0, .int a1, .int a2, .int x4_8172, .int x5_8172, g6_8172, g7_8172, g8_8172] [] h5 Q := by
                intro N
                induction N using Nat.strongRecOn with
                | ind N ih_8172 =>
                  intro x4_8172 x5_8172 g6_8172 g7_8172 g8_8172 Bx4_8172 Bx5_8172 Cg6_8172 Cg7_8172 Cg8_8172 hN_8172
                  refine pm_R_lo pm_M266 (pc' := 41) rfl rfl rfl ?_
                  refine pm_R_op pm_M266 (pc' := 43) (st' := [.int 6, .int x5_8172]) rfl rfl rfl ?_
                  refine pm_R_icmp pm_M266 (t := 144) (pc' := 46) rfl rfl rfl (fun c8173 => ?_) (fun c8173 => ?_)
                  · have B8174 : sf_B 6 6 x5_8172 := sf_leR c8173 sf_k6 Bx5_8172
                    refine pm_R_op pm_M266 (pc' := 145) (st' := [.int (-1)]) (pm_q266_1 (Nat.le_of_ble_eq_true rfl)) rfl rfl ?_
                    exact pm_R_ret pm_M266 (r := some (.int (-1))) (pm_q266_1 (Nat.le_of_ble_eq_true rfl)) rfl (K (-1) m3 w4 h5 T6 F9 W10 (sf_weak sf_kn1 (by decide) (by decide)))
                  · have B8175 : sf_B 1 5 x5_8172 := sf_ltL (Int32.not_le.mp c8173) Bx5_8172 sf_k6
                    refine pm_R_lo pm_M266 (pc' := 48) rfl rfl rfl ?_
                    refine pm_R_lo pm_M266 (pc' := 50) (ls' := [.ref 41, .int a0, .int a1, .int a2, .int x4_8172, .int x5_8172, .int x4_8172, g7_8172, g8_8172]) (st' := []) rfl rfl rfl ?_
                    refine pm_R_op pm_M266 (pc' := 51) (st' := [.int 0]) rfl rfl rfl ?_
                    refine pm_R_lo pm_M266 (pc' := 53) (ls' := [.ref 41, .int a0, .int a1, .int a2, .int x4_8172, .int x5_8172, .int x4_8172, .int 0, g8_8172]) (st' := []) rfl rfl rfl ?_
                    have L_9796 : ∀ (N : Nat) (x6_9796 : Int32) (x7_9796 : Int32) (g8_9796 : Value), sf_B (-2147483648) 2147483647 x6_9796 → sf_B 0 6 x7_9796 → g8_9796.category = 1 → (6 - x7_9796.toInt).toNat = N → pm_R (d + 3) 266 53 [.ref 41, .int a0, .int a1, .int a2, .int x4_8172, .int x5_8172, .int x6_9796, .int x7_9796, g8_9796] [] h5 Q := by
                      intro N
                      induction N using Nat.strongRecOn with
                      | ind N ih_9796 =>
                        intro x6_9796 x7_9796 g8_9796 Bx6_9796 Bx7_9796 Cg8_9796 hN_9796
                        refine pm_R_lo pm_M266 (pc' := 55) rfl rfl rfl ?_
                        refine pm_R_lo pm_M266 (pc' := 56) rfl rfl rfl ?_
                        refine rf_R_get pm_M266 T6 (pc' := 59) (v := .int (m3 42)) rfl rfl rfl rfl ?_
                        refine pm_R_icmp pm_M266 (t := 121) (pc' := 62) rfl rfl rfl (fun c9797 => ?_) (fun c9797 => ?_)
                        · skip
                          refine pm_R_lo pm_M266 (pc' := 123) (pm_q266_1 (Nat.le_of_ble_eq_true rfl)) rfl rfl ?_
                          refine pm_R_lo pm_M266 (pc' := 125) (ls' := [.ref 41, .int a0, .int a1, .int a2, .int x6_9796, .int x5_8172, .int x6_9796, .int x7_9796, g8_9796]) (st' := []) (pm_q266_1 (Nat.le_of_ble_eq_true rfl)) rfl rfl ?_
                          refine pm_R_lo pm_M266 (pc' := 127) (pm_q266_1 (Nat.le_of_ble_eq_true rfl)) rfl rfl ?_
                          refine sf_R_lany pm_M266 (pc' := 128) (st := []) (pm_q266_1 (Nat.le_of_ble_eq_true rfl)) rfl rfl (fun z9798 => ?_)
                          refine pm_R_lo pm_M266 (pc' := 129) (pm_q266_1 (Nat.le_of_ble_eq_true rfl)) rfl rfl ?_
                          refine pm_R_cs pm_M266 (pc' := 132) (ra := [.int a2, .long z9798]) (rest := []) (ls' := [.long z9798, pm_no, .int a2]) (pm_q266_1 (Nat.le_of_ble_eq_true rfl)) rfl (Or.inl rfl) pm_M206 rfl rfl (Nat.le_of_ble_eq_true rfl) rfl rfl ?_
                          refine pm_R_lo pm_M206 (pc' := 1) rfl rfl rfl ?_
                          refine pm_R_lo pm_M206 (pc' := 2) rfl rfl rfl ?_
                          refine sf_R_lany pm_M206 (pc' := 3) (st := []) rfl rfl rfl (fun z9799 => ?_)
                          refine pm_R_op pm_M206 (pc' := 4) (st' := [.long 1, .long z9799]) rfl rfl rfl ?_
                          refine sf_R_lany pm_M206 (pc' := 5) (st := []) rfl rfl rfl (fun z9800 => ?_)
                          refine pm_R_op pm_M206 (pc' := 6) (st' := [.long 1, .long z9800]) rfl rfl rfl ?_
                          refine sf_R_lcmp pm_M206 (pc' := 7) rfl rfl (fun z9801 e9802 => ?_)
                          refine pm_R_ifc pm_M206 (t := 14) (pc' := 10) rfl rfl rfl (fun c9803 => ?_) (fun c9803 => ?_)
                          · have k9804 := sf_lneC e9802 c9803
                            refine pm_R_op pm_M206 (pc' := 15) (st' := [.int 0]) rfl rfl rfl ?_
                            refine pm_R_ret pm_M206 (r := some (.int 0)) rfl rfl ?_
                            show pm_R _ 266 132 [.ref 41, .int a0, .int a1, .int a2, .int x6_9796, .int x5_8172, .int x6_9796, .int x7_9796, g8_9796] [.int 0] _ _
                            refine pm_R_br pm_M266 (pc' := 138) (st' := []) (pm_q266_1 (Nat.le_of_ble_eq_true rfl)) rfl ?_
                            refine sf_R_iinc pm_M266 (pc' := 141) (ls' := fun z => [.ref 41, .int a0, .int a1, .int a2, .int x6_9796, .int z, .int x6_9796, .int x7_9796, g8_9796]) (pm_q266_1 (Nat.le_of_ble_eq_true rfl)) B8175 rfl (by decide) (by decide) (by decide) (fun _ => rfl) rfl (fun z9805 e9806 B9807 => ?_)
                            show pm_R _ 266 141 [.ref 41, .int a0, .int a1, .int a2, .int x6_9796, .int z9805, .int x6_9796, .int x7_9796, g8_9796] [] _ _
                            refine pm_R_br pm_M266 (pc' := 39) (pm_q266_1 (Nat.le_of_ble_eq_true rfl)) rfl ?_
                            exact ih_8172 _ (sf_up hN_8172 e9806 B8175 (by decide) (by decide)) x6_9796 z9805 (.int x6_9796) (.int x7_9796) (g8_9796) Bx6_9796 (sf_weak B9807 (by decide) (by decide)) rfl rfl Cg8_9796 rfl
                          · have B9808 : sf_B 0 0 z9801 := sf_eqL (Classical.not_not.mp c9803) sf_k0
                            refine pm_R_op pm_M206 (pc' := 11) (st' := [.int 1]) rfl rfl rfl ?_
                            refine pm_R_br pm_M206 (pc' := 15) rfl rfl ?_
                            refine pm_R_ret pm_M206 (r := some (.int 1)) rfl rfl ?_
                            show pm_R _ 266 132 [.ref 41, .int a0, .int a1, .int a2, .int x6_9796, .int x5_8172, .int x6_9796, .int x7_9796, g8_9796] [.int 1] _ _
                            refine pm_R_br pm_M266 (pc' := 135) (st' := []) (pm_q266_1 (Nat.le_of_ble_eq_true rfl)) rfl ?_
                            refine pm_R_lo pm_M266 (pc' := 137) (pm_q266_1 (Nat.le_of_ble_eq_true rfl)) rfl rfl ?_
                            exact pm_R_ret pm_M266 (r := some (.int x5_8172)) (pm_q266_1 (Nat.le_of_ble_eq_true rfl)) (pm_ret_i _) (K x5_8172 m3 w4 h5 T6 F9 W10 (sf_weak B8175 (by decide) (by decide)))
                        · have B9809 : sf_B 0 5 x7_9796 := sf_ltL (Int32.not_le.mp c9797) Bx7_9796 B14
                          have B9810 : sf_B 1 6 (m3 42) := sf_ltR (Int32.not_le.mp c9797) Bx7_9796 B14
                          refine pm_R_op pm_M266 (pc' := 63) (st' := [.int 0]) rfl rfl rfl ?_
                          refine pm_R_lo pm_M266 (pc' := 65) (ls' := [.ref 41, .int a0, .int a1, .int a2, .int x4_8172, .int x5_8172, .int x6_9796, .int x7_9796, .int 0]) (st' := []) rfl rfl rfl ?_
                          have L_10118 : ∀ (N : Nat) (x6_10118 : Int32) (x8_10118 : Int32), sf_B (-2147483648) 2147483647 x6_10118 → sf_B 0 6 x8_10118 → (6 - x8_10118.toInt).toNat = N → pm_R (d + 3) 266 65 [.ref 41, .int a0, .int a1, .int a2, .int x4_8172, .int x5_8172, .int x6_10118, .int x7_9796, .int x8_10118] [] h5 Q := by
                            intro N
                            induction N using Nat.strongRecOn with
                            | ind N ih_10118 =>
                              intro x6_10118 x8_10118 Bx6_10118 Bx8_10118 hN_10118
                              refine pm_R_lo pm_M266 (pc' := 67) rfl rfl rfl ?_
                              refine pm_R_lo pm_M266 (pc' := 68) rfl rfl rfl ?_
                              refine rf_R_get pm_M266 T6 (pc' := 71) (v := .int (m3 42)) rfl rfl rfl rfl ?_
                              refine pm_R_icmp pm_M266 (t := 115) (pc' := 74) rfl rfl rfl (fun c10119 => ?_) (fun c10119 => ?_)
                              · have B10120 : sf_B 1 6 x8_10118 := sf_leR c10119 B9810 Bx8_10118
                                refine sf_R_iinc pm_M266 (pc' := 118) (ls' := fun z => [.ref 41, .int a0, .int a1, .int a2, .int x4_8172, .int x5_8172, .int x6_10118, .int z, .int x8_10118]) (pm_q266_1 (Nat.le_of_ble_eq_true rfl)) B9809 rfl (by decide) (by decide) (by decide) (fun _ => rfl) rfl (fun z10121 e10122 B10123 => ?_)
                                show pm_R _ 266 118 [.ref 41, .int a0, .int a1, .int a2, .int x4_8172, .int x5_8172, .int x6_10118, .int z10121, .int x8_10118] [] _ _
                                refine pm_R_br pm_M266 (pc' := 53) (pm_q266_1 (Nat.le_of_ble_eq_true rfl)) rfl ?_
                                exact ih_9796 _ (sf_up hN_9796 e10122 B9809 (by decide) (by decide)) x6_10118 z10121 (.int x8_10118) Bx6_10118 (sf_weak B10123 (by decide) (by decide)) rfl rfl
                              · have B10124 : sf_B 0 5 x8_10118 := sf_ltL (Int32.not_le.mp c10119) Bx8_10118 B9810
                                refine pm_R_lo pm_M266 (pc' := 76) rfl rfl rfl ?_
                                refine pm_R_lo pm_M266 (pc' := 78) rfl rfl rfl ?_
                                refine sf_R_lany pm_M266 (pc' := 79) (st := [.int x6_10118]) rfl rfl rfl (fun z10125 => ?_)
                                refine pm_R_lo pm_M266 (pc' := 81) rfl rfl rfl ?_
                                refine pm_R_cs pm_M266 (pc' := 84) (ra := [.int x8_10118, .long z10125]) (rest := [.int x6_10118]) (ls' := [.long z10125, pm_no, .int x8_10118]) rfl rfl (Or.inl rfl) pm_M206 rfl rfl (Nat.le_of_ble_eq_true rfl) rfl rfl ?_
                                refine pm_R_lo pm_M206 (pc' := 1) rfl rfl rfl ?_
                                refine pm_R_lo pm_M206 (pc' := 2) rfl rfl rfl ?_
                                refine sf_R_lany pm_M206 (pc' := 3) (st := []) rfl rfl rfl (fun z10126 => ?_)
                                refine pm_R_op pm_M206 (pc' := 4) (st' := [.long 1, .long z10126]) rfl rfl rfl ?_
                                refine sf_R_lany pm_M206 (pc' := 5) (st := []) rfl rfl rfl (fun z10127 => ?_)
                                refine pm_R_op pm_M206 (pc' := 6) (st' := [.long 1, .long z10127]) rfl rfl rfl ?_
                                refine sf_R_lcmp pm_M206 (pc' := 7) rfl rfl (fun z10128 e10129 => ?_)
                                refine pm_R_ifc pm_M206 (t := 14) (pc' := 10) rfl rfl rfl (fun c10130 => ?_) (fun c10130 => ?_)
                                · have k10131 := sf_lneC e10129 c10130
                                  refine pm_R_op pm_M206 (pc' := 15) (st' := [.int 0]) rfl rfl rfl ?_
                                  refine pm_R_ret pm_M206 (r := some (.int 0)) rfl rfl ?_
                                  show pm_R _ 266 84 [.ref 41, .int a0, .int a1, .int a2, .int x4_8172, .int x5_8172, .int x6_10118, .int x7_9796, .int x8_10118] [.int 0, .int x6_10118] _ _
                                  refine pm_R_br pm_M266 (pc' := 105) (st' := [.int x6_10118]) rfl rfl ?_
                                  refine pm_R_op pm_M266 (pc' := 106) (st' := [.int 0, .int x6_10118]) rfl rfl rfl ?_
                                  refine sf_R_iany pm_M266 (pc' := 107) (st := []) rfl rfl rfl (fun z10135 => ?_)
                                  refine pm_R_lo pm_M266 (pc' := 109) (ls' := [.ref 41, .int a0, .int a1, .int a2, .int x4_8172, .int x5_8172, .int z10135, .int x7_9796, .int x8_10118]) (st' := []) rfl rfl rfl ?_
                                  refine sf_R_iinc pm_M266 (pc' := 112) (ls' := fun z => [.ref 41, .int a0, .int a1, .int a2, .int x4_8172, .int x5_8172, .int z10135, .int x7_9796, .int z]) rfl B10124 rfl (by decide) (by decide) (by decide) (fun _ => rfl) rfl (fun z10136 e10137 B10138 => ?_)
                                  show pm_R _ 266 112 [.ref 41, .int a0, .int a1, .int a2, .int x4_8172, .int x5_8172, .int z10135, .int x7_9796, .int z10136] [] _ _
                                  refine pm_R_br pm_M266 (pc' := 65) rfl rfl ?_
                                  exact ih_10118 _ (sf_up hN_10118 e10137 B10124 (by decide) (by decide)) z10135 z10136 (sf_any z10135) (sf_weak B10138 (by decide) (by decide)) rfl
                                · have B10139 : sf_B 0 0 z10128 := sf_eqL (Classical.not_not.mp c10130) sf_k0
                                  refine pm_R_op pm_M206 (pc' := 11) (st' := [.int 1]) rfl rfl rfl ?_
                                  refine pm_R_br pm_M206 (pc' := 15) rfl rfl ?_
                                  refine pm_R_ret pm_M206 (r := some (.int 1)) rfl rfl ?_
                                  show pm_R _ 266 84 [.ref 41, .int a0, .int a1, .int a2, .int x4_8172, .int x5_8172, .int x6_10118, .int x7_9796, .int x8_10118] [.int 1, .int x6_10118] _ _
                                  refine pm_R_br pm_M266 (pc' := 87) (st' := [.int x6_10118]) rfl rfl ?_
                                  refine pm_R_lo pm_M266 (pc' := 88) rfl rfl rfl ?_
                                  refine pm_R_lo pm_M266 (pc' := 90) rfl rfl rfl ?_
                                  refine pm_R_lo pm_M266 (pc' := 92) rfl rfl rfl ?_
                                  refine pm_R_cv pm_M266 (pc' := 95) (a := 41) (ra := [.int x8_10118, .int x7_9796]) (rest := [.int x6_10118]) (ls' := [.ref 41, .int x7_9796, .int x8_10118, pm_no]) rfl rfl (Or.inl rfl) pm_M267 T6.2.1 rfl (by decide) (Nat.lt_of_lt_of_le (by decide) T6.1) rfl rfl (Nat.le_of_ble_eq_true rfl) rfl rfl ?_
                                  refine rf_c267 (d := d + 2) T6 B9809 (fun r10140 B10141 => ?_)
                                  show pm_R _ 266 95 [.ref 41, .int a0, .int a1, .int a2, .int x4_8172, .int x5_8172, .int x6_10118, .int x7_9796, .int x8_10118] [.int r10140, .int x6_10118] _ _
                                  refine pm_R_ifc pm_M266 (t := 105) (pc' := 98) rfl rfl rfl (fun c10148 => ?_) (fun c10148 => ?_)
                                  · have B10149 : sf_B 0 0 r10140 := sf_eqL c10148 sf_k0
                                    refine pm_R_op pm_M266 (pc' := 106) (st' := [.int 0, .int x6_10118]) rfl rfl rfl ?_
                                    refine sf_R_iany pm_M266 (pc' := 107) (st := []) rfl rfl rfl (fun z10153 => ?_)
                                    refine pm_R_lo pm_M266 (pc' := 109) (ls' := [.ref 41, .int a0, .int a1, .int a2, .int x4_8172, .int x5_8172, .int z10153, .int x7_9796, .int x8_10118]) (st' := []) rfl rfl rfl ?_
                                    refine sf_R_iinc pm_M266 (pc' := 112) (ls' := fun z => [.ref 41, .int a0, .int a1, .int a2, .int x4_8172, .int x5_8172, .int z10153, .int x7_9796, .int z]) rfl B10124 rfl (by decide) (by decide) (by decide) (fun _ => rfl) rfl (fun z10154 e10155 B10156 => ?_)
                                    show pm_R _ 266 112 [.ref 41, .int a0, .int a1, .int a2, .int x4_8172, .int x5_8172, .int z10153, .int x7_9796, .int z10154] [] _ _
                                    refine pm_R_br pm_M266 (pc' := 65) rfl rfl ?_
                                    exact ih_10118 _ (sf_up hN_10118 e10155 B10124 (by decide) (by decide)) z10153 z10154 (sf_any z10153) (sf_weak B10156 (by decide) (by decide)) rfl
                                  · have B10157 : sf_B 1 1 r10140 := sf_neL0 c10148 sf_k0 B10141
                                    refine pm_R_op pm_M266 (pc' := 99) (st' := [.int 1, .int x6_10118]) rfl rfl rfl ?_
                                    refine pm_R_lo pm_M266 (pc' := 101) rfl rfl rfl ?_
                                    refine sf_R_iany pm_M266 (pc' := 102) (st := [.int x6_10118]) rfl rfl rfl (fun z10161 => ?_)
                                    refine pm_R_br pm_M266 (pc' := 106) rfl rfl ?_
                                    refine sf_R_iany pm_M266 (pc' := 107) (st := []) rfl rfl rfl (fun z10165 => ?_)
                                    refine pm_R_lo pm_M266 (pc' := 109) (ls' := [.ref 41, .int a0, .int a1, .int a2, .int x4_8172, .int x5_8172, .int z10165, .int x7_9796, .int x8_10118]) (st' := []) rfl rfl rfl ?_
                                    refine sf_R_iinc pm_M266 (pc' := 112) (ls' := fun z => [.ref 41, .int a0, .int a1, .int a2, .int x4_8172, .int x5_8172, .int z10165, .int x7_9796, .int z]) rfl B10124 rfl (by decide) (by decide) (by decide) (fun _ => rfl) rfl (fun z10166 e10167 B10168 => ?_)
                                    show pm_R _ 266 112 [.ref 41, .int a0, .int a1, .int a2, .int x4_8172, .int x5_8172, .int z10165, .int x7_9796, .int z10166] [] _ _
                                    refine pm_R_br pm_M266 (pc' := 65) rfl rfl ?_
                                    exact ih_10118 _ (sf_up hN_10118 e10167 B10124 (by decide) (by decide)) z10165 z10166 (sf_any z10165) (sf_weak B10168 (by decide) (by decide)) rfl
                          exact L_10118 _ x6_9796 0 Bx6_9796 (sf_weak sf_k0 (by decide) (by decide)) rfl
                    exact L_9796 _ x4_8172 0 (g8_8172) Bx4_8172 (sf_weak sf_k0 (by decide) (by decide)) Cg8_8172 rfl
              exact L_8172 _ z37 1 (pm_no) (pm_no) (pm_no) (sf_any z37) (sf_weak sf_k1 (by decide) (by decide)) rfl rfl rfl rfl
            · refine pm_R_op pm_M266 (pc' := 30) (st' := [.int (-1)]) rfl rfl rfl ?_
              exact pm_R_ret pm_M266 (r := some (.int (-1))) rfl rfl (K (-1) m3 w4 h5 T6 F9 W10 (sf_weak sf_kn1 (by decide) (by decide)))
