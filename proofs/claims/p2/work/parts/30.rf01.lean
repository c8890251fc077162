set_option maxRecDepth 100000 in
set_option maxHeartbeats 4000000 in
/-- SilentTableModel.addByValue -/
theorem rf_c226 {d : Nat} {m : Nat → Int32} {w : Int64} {h : pm_H} {Q : Option Value → pm_H → Prop} {a0 : Int32} {a1 : Int32} {a2 : Int32} {a3 : Int32} (T : rf_T m w h) (Ba0 : sf_B 0 9 a0) (Ba1 : sf_B 0 11 a1) (Ba2 : sf_B 0 10 a2) (Ba3 : sf_B 0 11 a3) (K : ∀ (m' : Nat → Int32) (w' : Int64) (h' : pm_H), rf_T m' w' h' → rf_F h h' → rf_W [] m m' → Q none h') : pm_R (d + 2) 226 0 [.ref 41, .int a0, .int a1, .int a2, .int a3, pm_no, pm_no, pm_no, pm_no, pm_no, pm_no, pm_no] [] h Q := by
  refine pm_R_op pm_M226 (pc' := 1) (st' := [.int 0]) rfl rfl rfl ?_
  refine pm_R_lo pm_M226 (pc' := 3) (ls' := [.ref 41, .int a0, .int a1, .int a2, .int a3, .int 0, pm_no, pm_no, pm_no, pm_no, pm_no, pm_no]) (st' := []) rfl rfl rfl ?_
  have L_25480 : ∀ (N : Nat) (h_25480 : pm_H) (m_25480 : Nat → Int32) (w_25480 : Int64) (x5_25480 : Int32) (g6_25480 : Value) (g7_25480 : Value) (g8_25480 : Value) (g9_25480 : Value) (g10_25480 : Value) (g11_25480 : Value), rf_T m_25480 w_25480 h_25480 → rf_F h h_25480 → rf_W [] m m_25480 → sf_B 0 50 x5_25480 → g7_25480.category = 1 → g8_25480.category = 1 → g10_25480.category = 1 → g11_25480.category = 1 → (50 - x5_25480.toInt).toNat = N → pm_R (d + 2) 226 3 [.ref 41, .int a0, .int a1, .int a2, .int a3, .int x5_25480, g6_25480, g7_25480, g8_25480, g9_25480, g10_25480, g11_25480] [] h_25480 Q := by
    intro N
    induction N using Nat.strongRecOn with
    | ind N ih_25480 =>
      intro h_25480 m_25480 w_25480 x5_25480 g6_25480 g7_25480 g8_25480 g9_25480 g10_25480 g11_25480 T_25480 F_25480 W_25480 Bx5_25480 Cg7_25480 Cg8_25480 Cg10_25480 Cg11_25480 hN_25480
      have W25482 : rf_W [] m m_25480 := (rf_W.refl [] m).trans W_25480 (by decide)
      refine pm_R_lo pm_M226 (pc' := 5) rfl rfl rfl ?_
      refine pm_R_op pm_M226 (pc' := 7) (st' := [.int 50, .int x5_25480]) rfl rfl rfl ?_
      refine pm_R_icmp pm_M226 (t := 150) (pc' := 10) rfl rfl rfl (fun c25483 => ?_) (fun c25483 => ?_)
      · have B25484 : sf_B 50 50 x5_25480 := sf_leR c25483 sf_k50 Bx5_25480
        exact pm_R_ret pm_M226 (r := none) (pm_q226_1 (Nat.le_of_ble_eq_true rfl)) rfl (K m_25480 w_25480 h_25480 T_25480 F_25480 W25482)
      · have B25485 : sf_B 0 49 x5_25480 := sf_ltL (Int32.not_le.mp c25483) Bx5_25480 sf_k50
        refine pm_R_lo pm_M226 (pc' := 11) rfl rfl rfl ?_
        refine rf_R_get pm_M226 T_25480 (pc' := 14) (v := .ref 56) rfl rfl rfl rfl ?_
        refine pm_R_lo pm_M226 (pc' := 15) rfl rfl rfl ?_
        refine pm_R_lo pm_M226 (pc' := 16) rfl rfl rfl ?_
        refine pm_R_op pm_M226 (pc' := 17) (st' := [.int 1, .int a0, .ref 41, .ref 56]) rfl rfl rfl ?_
        refine pm_R_cv pm_M226 (pc' := 20) (a := 41) (ra := [.int 1, .int a0]) (rest := [.ref 56]) (ls' := [.ref 41, .int a0, .int 1]) rfl rfl (Or.inl rfl) pm_M210 T_25480.2.1 rfl (by decide) (Nat.lt_of_lt_of_le (by decide) T_25480.1) rfl rfl (Nat.le_of_ble_eq_true rfl) rfl rfl ?_
        refine pm_R_lo pm_M210 (pc' := 1) rfl rfl rfl ?_
        refine rf_R_get pm_M210 T_25480 (pc' := 4) (v := .ref 47) rfl rfl rfl rfl ?_
        refine pm_R_op pm_M210 (pc' := 6) (st' := [.int 100, .ref 47]) rfl rfl rfl ?_
        refine pm_R_lo pm_M210 (pc' := 7) rfl rfl rfl ?_
        have B25486 : sf_B 0 1 (m_25480 23) := T_25480.2.2.1 23
        refine rf_R_get pm_M210 T_25480 (pc' := 10) (v := .int (m_25480 23)) rfl rfl rfl rfl ?_
        refine sf_R_imul pm_M210 (pc' := 11) rfl rfl sf_k100 B25486 (by decide) (by decide) (by decide) (fun z25487 e25488 B25489 => ?_)
        refine pm_R_op pm_M210 (pc' := 12) (st' := [.int 2, .int z25487, .ref 47]) rfl rfl rfl ?_
        refine sf_R_iadd pm_M210 (pc' := 13) rfl rfl B25489 sf_k2 (by decide) (by decide) (fun z25490 e25491 B25492 => ?_)
        refine pm_R_op pm_M210 (pc' := 14) (st' := [.int 4, .int z25490, .ref 47]) rfl rfl rfl ?_
        refine pm_R_lo pm_M210 (pc' := 15) rfl rfl rfl ?_
        refine sf_R_imul pm_M210 (pc' := 16) rfl rfl sf_k4 Ba0 (by decide) (by decide) (by decide) (fun z25493 e25494 B25495 => ?_)
        refine sf_R_iadd pm_M210 (pc' := 17) rfl rfl B25492 B25495 (by decide) (by decide) (fun z25496 e25497 B25498 => ?_)
        refine pm_R_lo pm_M210 (pc' := 18) rfl rfl rfl ?_
        refine sf_R_iadd pm_M210 (pc' := 19) rfl rfl B25498 sf_k1 (by decide) (by decide) (fun z25499 e25500 B25501 => ?_)
        obtain ⟨f25502, e25503, b25504⟩ := T_25480.2.2.2.1 47 (by decide) (by decide)
        refine rf_R_ild pm_M210 T_25480 (pc' := 20) rfl e25503 (by decide) (sf_in B25501 (by decide) (by decide)) rfl (fun z25505 ez25506 => ?_)
        have e25507 : (z25499).toInt = 100 * ((m_25480 23)).toInt + 4 * (a0).toInt + 3 := by
          have q0 := e25488
          have q1 := e25491
          have q2 := e25494
          have q3 := e25497
          have q4 := e25500
          simp only [(show (1 : Int32).toInt = 1 from rfl), (show (2 : Int32).toInt = 2 from rfl), (show (4 : Int32).toInt = 4 from rfl), (show (100 : Int32).toInt = 100 from rfl)] at q0 q1 q2 q3 q4
          omega
        have B25508 : sf_B 0 5 z25505 := ez25506 ▸ rf_p47r b25504 e25507 B25486 Ba0 (by decide) (by decide) (by decide)
        refine pm_R_ret pm_M210 (r := some (.int z25505)) rfl (pm_ret_i _) ?_
        show pm_R _ 226 20 [.ref 41, .int a0, .int a1, .int a2, .int a3, .int x5_25480, g6_25480, g7_25480, g8_25480, g9_25480, g10_25480, g11_25480] [.int z25505, .ref 56] _ _
        refine pm_R_lo pm_M226 (pc' := 21) rfl rfl rfl ?_
        refine pm_R_lo pm_M226 (pc' := 22) rfl rfl rfl ?_
        refine pm_R_lo pm_M226 (pc' := 24) rfl rfl rfl ?_
        refine pm_R_cs pm_M226 (pc' := 27) (ra := [.int x5_25480, .int a2, .int a1, .int z25505]) (rest := [.ref 56]) (ls' := [.int z25505, .int a1, .int a2, .int x5_25480]) rfl rfl (Or.inl rfl) pm_M225 rfl rfl (Nat.le_of_ble_eq_true rfl) rfl rfl ?_
        refine pm_R_op pm_M225 (pc' := 2) (st' := [.int 50]) rfl rfl rfl ?_
        refine pm_R_lo pm_M225 (pc' := 3) rfl rfl rfl ?_
        refine pm_R_lo pm_M225 (pc' := 4) rfl rfl rfl ?_
        refine pm_R_lo pm_M225 (pc' := 5) rfl rfl rfl ?_
        refine pm_R_cs pm_M225 (pc' := 8) (ra := [.int a2, .int a1, .int z25505]) (rest := [.int 50]) (ls' := [.int z25505, .int a1, .int a2]) rfl rfl (Or.inl rfl) pm_M207 rfl rfl (Nat.le_of_ble_eq_true rfl) rfl rfl ?_
        refine pm_R_op pm_M207 (pc' := 3) (st' := [.int 144]) rfl rfl rfl ?_
        refine pm_R_lo pm_M207 (pc' := 4) rfl rfl rfl ?_
        refine sf_R_imul pm_M207 (pc' := 5) rfl rfl sf_k144 B25508 (by decide) (by decide) (by decide) (fun z25509 e25510 B25511 => ?_)
        refine pm_R_op pm_M207 (pc' := 7) (st' := [.int 12, .int z25509]) rfl rfl rfl ?_
        refine pm_R_lo pm_M207 (pc' := 8) rfl rfl rfl ?_
        refine sf_R_imul pm_M207 (pc' := 9) rfl rfl sf_k12 Ba1 (by decide) (by decide) (by decide) (fun z25512 e25513 B25514 => ?_)
        refine sf_R_iadd pm_M207 (pc' := 10) rfl rfl B25511 B25514 (by decide) (by decide) (fun z25515 e25516 B25517 => ?_)
        refine pm_R_lo pm_M207 (pc' := 11) rfl rfl rfl ?_
        refine sf_R_iadd pm_M207 (pc' := 12) rfl rfl B25517 Ba2 (by decide) (by decide) (fun z25518 e25519 B25520 => ?_)
        refine pm_R_ret pm_M207 (r := some (.int z25518)) rfl (pm_ret_i _) ?_
        show pm_R _ 225 8 [.int z25505, .int a1, .int a2, .int x5_25480] [.int z25518, .int 50] _ _
        refine sf_R_imul pm_M225 (pc' := 9) rfl rfl sf_k50 B25520 (by decide) (by decide) (by decide) (fun z25521 e25522 B25523 => ?_)
        refine pm_R_lo pm_M225 (pc' := 10) rfl rfl rfl ?_
        refine sf_R_iadd pm_M225 (pc' := 11) rfl rfl B25523 B25485 (by decide) (by decide) (fun z25524 e25525 B25526 => ?_)
        refine pm_R_ret pm_M225 (r := some (.int z25524)) rfl (pm_ret_i _) ?_
        show pm_R _ 226 27 [.ref 41, .int a0, .int a1, .int a2, .int a3, .int x5_25480, g6_25480, g7_25480, g8_25480, g9_25480, g10_25480, g11_25480] [.int z25524, .ref 56] _ _
        obtain ⟨f25527, e25528⟩ := T_25480.2.2.2.1 56 (by decide) (by decide)
        refine rf_R_lld pm_M226 T_25480 (pc' := 28) rfl e25528 (by decide) (by decide) (sf_in B25526 (by decide) (by decide)) rfl (fun z25530 ez25531 => ?_)
        refine pm_R_lo pm_M226 (pc' := 30) (ls' := [.ref 41, .int a0, .int a1, .int a2, .int a3, .int x5_25480, .long z25530, pm_no, g8_25480, g9_25480, g10_25480, g11_25480]) (st' := []) rfl rfl rfl ?_
        refine pm_R_op pm_M226 (pc' := 31) (st' := [.int 0]) rfl rfl rfl ?_
        refine pm_R_lo pm_M226 (pc' := 33) (ls' := [.ref 41, .int a0, .int a1, .int a2, .int a3, .int x5_25480, .long z25530, pm_no, .int 0, g9_25480, g10_25480, g11_25480]) (st' := []) rfl rfl rfl ?_
        have L_30572 : ∀ (N : Nat) (h_30572 : pm_H) (m_30572 : Nat → Int32) (w_30572 : Int64) (x8_30572 : Int32) (g9_30572 : Value) (g10_30572 : Value) (g11_30572 : Value), rf_T m_30572 w_30572 h_30572 → rf_F h h_30572 → rf_W [] m_25480 m_30572 → sf_B 0 50 x8_30572 → g10_30572.category = 1 → g11_30572.category = 1 → (50 - x8_30572.toInt).toNat = N → pm_R (d + 2) 226 33 [.ref 41, .int a0, .int a1, .int a2, .int a3, .int x5_25480, .long z25530, pm_no, .int x8_30572, g9_30572, g10_30572, g11_30572] [] h_30572 Q := by
          intro N
          induction N using Nat.strongRecOn with
          | ind N ih_30572 =>
            intro h_30572 m_30572 w_30572 x8_30572 g9_30572 g10_30572 g11_30572 T_30572 F_30572 W_30572 Bx8_30572 Cg10_30572 Cg11_30572 hN_30572
            have W30574 : rf_W [] m m_30572 := W25482.trans W_30572 (by decide)
            have W30575 : rf_W [] m m_30572 := W_25480.trans W_30572 (by decide)
            refine pm_R_lo pm_M226 (pc' := 35) rfl rfl rfl ?_
            refine pm_R_op pm_M226 (pc' := 37) (st' := [.int 50, .int x8_30572]) rfl rfl rfl ?_
            refine pm_R_icmp pm_M226 (t := 144) (pc' := 40) rfl rfl rfl (fun c30576 => ?_) (fun c30576 => ?_)
            · have B30577 : sf_B 50 50 x8_30572 := sf_leR c30576 sf_k50 Bx8_30572
              refine sf_R_iinc pm_M226 (pc' := 147) (ls' := fun z => [.ref 41, .int a0, .int a1, .int a2, .int a3, .int z, .long z25530, pm_no, .int x8_30572, g9_30572, g10_30572, g11_30572]) (pm_q226_1 (Nat.le_of_ble_eq_true rfl)) B25485 rfl (by decide) (by decide) (by decide) (fun _ => rfl) rfl (fun z30578 e30579 B30580 => ?_)
              show pm_R _ 226 147 [.ref 41, .int a0, .int a1, .int a2, .int a3, .int z30578, .long z25530, pm_no, .int x8_30572, g9_30572, g10_30572, g11_30572] [] _ _
              refine pm_R_br pm_M226 (pc' := 3) (pm_q226_1 (Nat.le_of_ble_eq_true rfl)) rfl ?_
              exact ih_25480 _ (sf_up hN_25480 e30579 B25485 (by decide) (by decide)) h_30572 m_30572 w_30572 z30578 (.long z25530) (pm_no) (.int x8_30572) (g9_30572) (g10_30572) (g11_30572) T_30572 F_30572 W30575 (sf_weak B30580 (by decide) (by decide)) rfl rfl Cg10_30572 Cg11_30572 rfl
            · have B30581 : sf_B 0 49 x8_30572 := sf_ltL (Int32.not_le.mp c30576) Bx8_30572 sf_k50
              refine pm_R_lo pm_M226 (pc' := 42) rfl rfl rfl ?_
              refine pm_R_op pm_M226 (pc' := 43) (st' := [.long 0, .long z25530]) rfl rfl rfl ?_
              refine sf_R_lcmp pm_M226 (pc' := 44) rfl rfl (fun z30582 e30583 => ?_)
              refine pm_R_ifc pm_M226 (t := 144) (pc' := 47) rfl rfl rfl (fun c30584 => ?_) (fun c30584 => ?_)
              · have B30585 : sf_B (-2147483648) 0 z30582 := sf_leL c30584 (sf_any z30582) sf_k0
                refine sf_R_iinc pm_M226 (pc' := 147) (ls' := fun z => [.ref 41, .int a0, .int a1, .int a2, .int a3, .int z, .long z25530, pm_no, .int x8_30572, g9_30572, g10_30572, g11_30572]) (pm_q226_1 (Nat.le_of_ble_eq_true rfl)) B25485 rfl (by decide) (by decide) (by decide) (fun _ => rfl) rfl (fun z30586 e30587 B30588 => ?_)
                show pm_R _ 226 147 [.ref 41, .int a0, .int a1, .int a2, .int a3, .int z30586, .long z25530, pm_no, .int x8_30572, g9_30572, g10_30572, g11_30572] [] _ _
                refine pm_R_br pm_M226 (pc' := 3) (pm_q226_1 (Nat.le_of_ble_eq_true rfl)) rfl ?_
                exact ih_25480 _ (sf_up hN_25480 e30587 B25485 (by decide) (by decide)) h_30572 m_30572 w_30572 z30586 (.long z25530) (pm_no) (.int x8_30572) (g9_30572) (g10_30572) (g11_30572) T_30572 F_30572 W30575 (sf_weak B30588 (by decide) (by decide)) rfl rfl Cg10_30572 Cg11_30572 rfl
              · have B30589 : sf_B 1 2147483647 z30582 := sf_ltR (Int32.not_le.mp c30584) sf_k0 (sf_any z30582)
                have k30590 := sf_lneA e30583 B30589 (by decide)
                refine pm_R_lo pm_M226 (pc' := 48) rfl rfl rfl ?_
                refine rf_R_get pm_M226 T_30572 (pc' := 51) (v := .ref 56) rfl rfl rfl rfl ?_
                refine pm_R_lo pm_M226 (pc' := 52) rfl rfl rfl ?_
                refine pm_R_lo pm_M226 (pc' := 53) rfl rfl rfl ?_
                refine pm_R_op pm_M226 (pc' := 54) (st' := [.int 2, .int a0, .ref 41, .ref 56]) rfl rfl rfl ?_
                refine pm_R_cv pm_M226 (pc' := 57) (a := 41) (ra := [.int 2, .int a0]) (rest := [.ref 56]) (ls' := [.ref 41, .int a0, .int 2]) rfl rfl (Or.inl rfl) pm_M210 T_30572.2.1 rfl (by decide) (Nat.lt_of_lt_of_le (by decide) T_30572.1) rfl rfl (Nat.le_of_ble_eq_true rfl) rfl rfl ?_
                refine pm_R_lo pm_M210 (pc' := 1) rfl rfl rfl ?_
                refine rf_R_get pm_M210 T_30572 (pc' := 4) (v := .ref 47) rfl rfl rfl rfl ?_
                refine pm_R_op pm_M210 (pc' := 6) (st' := [.int 100, .ref 47]) rfl rfl rfl ?_
                refine pm_R_lo pm_M210 (pc' := 7) rfl rfl rfl ?_
                have B30591 : sf_B 0 1 (m_30572 23) := T_30572.2.2.1 23
                refine rf_R_get pm_M210 T_30572 (pc' := 10) (v := .int (m_30572 23)) rfl rfl rfl rfl ?_
                refine sf_R_imul pm_M210 (pc' := 11) rfl rfl sf_k100 B30591 (by decide) (by decide) (by decide) (fun z30592 e30593 B30594 => ?_)
                refine pm_R_op pm_M210 (pc' := 12) (st' := [.int 2, .int z30592, .ref 47]) rfl rfl rfl ?_
                refine sf_R_iadd pm_M210 (pc' := 13) rfl rfl B30594 sf_k2 (by decide) (by decide) (fun z30595 e30596 B30597 => ?_)
                refine pm_R_op pm_M210 (pc' := 14) (st' := [.int 4, .int z30595, .ref 47]) rfl rfl rfl ?_
                refine pm_R_lo pm_M210 (pc' := 15) rfl rfl rfl ?_
                refine sf_R_imul pm_M210 (pc' := 16) rfl rfl sf_k4 Ba0 (by decide) (by decide) (by decide) (fun z30598 e30599 B30600 => ?_)
                refine sf_R_iadd pm_M210 (pc' := 17) rfl rfl B30597 B30600 (by decide) (by decide) (fun z30601 e30602 B30603 => ?_)
                refine pm_R_lo pm_M210 (pc' := 18) rfl rfl rfl ?_
                refine sf_R_iadd pm_M210 (pc' := 19) rfl rfl B30603 sf_k2 (by decide) (by decide) (fun z30604 e30605 B30606 => ?_)
                obtain ⟨f30607, e30608, b30609⟩ := T_30572.2.2.2.1 47 (by decide) (by decide)
                refine rf_R_ild pm_M210 T_30572 (pc' := 20) rfl e30608 (by decide) (sf_in B30606 (by decide) (by decide)) rfl (fun z30610 ez30611 => ?_)
                have e30612 : (z30604).toInt = 100 * ((m_30572 23)).toInt + 4 * (a0).toInt + 4 := by
                  have q0 := e30593
                  have q1 := e30596
                  have q2 := e30599
                  have q3 := e30602
                  have q4 := e30605
                  simp only [(show (2 : Int32).toInt = 2 from rfl), (show (4 : Int32).toInt = 4 from rfl), (show (100 : Int32).toInt = 100 from rfl)] at q0 q1 q2 q3 q4
                  omega
                have B30613 : sf_B 0 5 z30610 := ez30611 ▸ rf_p47r b30609 e30612 B30591 Ba0 (by decide) (by decide) (by decide)
                refine pm_R_ret pm_M210 (r := some (.int z30610)) rfl (pm_ret_i _) ?_
                show pm_R _ 226 57 [.ref 41, .int a0, .int a1, .int a2, .int a3, .int x5_25480, .long z25530, pm_no, .int x8_30572, g9_30572, g10_30572, g11_30572] [.int z30610, .ref 56] _ _
                refine pm_R_lo pm_M226 (pc' := 58) rfl rfl rfl ?_
                refine pm_R_op pm_M226 (pc' := 59) (st' := [.int 1, .int a2, .int z30610, .ref 56]) rfl rfl rfl ?_
                refine sf_R_iadd pm_M226 (pc' := 60) rfl rfl Ba2 sf_k1 (by decide) (by decide) (fun z30614 e30615 B30616 => ?_)
                refine pm_R_lo pm_M226 (pc' := 62) rfl rfl rfl ?_
                refine pm_R_lo pm_M226 (pc' := 64) rfl rfl rfl ?_
                refine pm_R_cs pm_M226 (pc' := 67) (ra := [.int x8_30572, .int a3, .int z30614, .int z30610]) (rest := [.ref 56]) (ls' := [.int z30610, .int z30614, .int a3, .int x8_30572]) rfl rfl (Or.inl rfl) pm_M225 rfl rfl (Nat.le_of_ble_eq_true rfl) rfl rfl ?_
                refine pm_R_op pm_M225 (pc' := 2) (st' := [.int 50]) rfl rfl rfl ?_
                refine pm_R_lo pm_M225 (pc' := 3) rfl rfl rfl ?_
                refine pm_R_lo pm_M225 (pc' := 4) rfl rfl rfl ?_
                refine pm_R_lo pm_M225 (pc' := 5) rfl rfl rfl ?_
                refine pm_R_cs pm_M225 (pc' := 8) (ra := [.int a3, .int z30614, .int z30610]) (rest := [.int 50]) (ls' := [.int z30610, .int z30614, .int a3]) rfl rfl (Or.inl rfl) pm_M207 rfl rfl (Nat.le_of_ble_eq_true rfl) rfl rfl ?_
                refine pm_R_op pm_M207 (pc' := 3) (st' := [.int 144]) rfl rfl rfl ?_
                refine pm_R_lo pm_M207 (pc' := 4) rfl rfl rfl ?_
                refine sf_R_imul pm_M207 (pc' := 5) rfl rfl sf_k144 B30613 (by decide) (by decide) (by decide) (fun z30617 e30618 B30619 => ?_)
                refine pm_R_op pm_M207 (pc' := 7) (st' := [.int 12, .int z30617]) rfl rfl rfl ?_
                refine pm_R_lo pm_M207 (pc' := 8) rfl rfl rfl ?_
                refine sf_R_imul pm_M207 (pc' := 9) rfl rfl sf_k12 B30616 (by decide) (by decide) (by decide) (fun z30620 e30621 B30622 => ?_)
                refine sf_R_iadd pm_M207 (pc' := 10) rfl rfl B30619 B30622 (by decide) (by decide) (fun z30623 e30624 B30625 => ?_)
                refine pm_R_lo pm_M207 (pc' := 11) rfl rfl rfl ?_
                refine sf_R_iadd pm_M207 (pc' := 12) rfl rfl B30625 Ba3 (by decide) (by decide) (fun z30626 e30627 B30628 => ?_)
                refine pm_R_ret pm_M207 (r := some (.int z30626)) rfl (pm_ret_i _) ?_
                show pm_R _ 225 8 [.int z30610, .int z30614, .int a3, .int x8_30572] [.int z30626, .int 50] _ _
                refine sf_R_imul pm_M225 (pc' := 9) rfl rfl sf_k50 B30628 (by decide) (by decide) (by decide) (fun z30629 e30630 B30631 => ?_)
                refine pm_R_lo pm_M225 (pc' := 10) rfl rfl rfl ?_
                refine sf_R_iadd pm_M225 (pc' := 11) rfl rfl B30631 B30581 (by decide) (by decide) (fun z30632 e30633 B30634 => ?_)
                refine pm_R_ret pm_M225 (r := some (.int z30632)) rfl (pm_ret_i _) ?_
                show pm_R _ 226 67 [.ref 41, .int a0, .int a1, .int a2, .int a3, .int x5_25480, .long z25530, pm_no, .int x8_30572, g9_30572, g10_30572, g11_30572] [.int z30632, .ref 56] _ _
                obtain ⟨f30635, e30636⟩ := T_30572.2.2.2.1 56 (by decide) (by decide)
                refine rf_R_lld pm_M226 T_30572 (pc' := 68) rfl e30636 (by decide) (by decide) (sf_in B30634 (by decide) (by decide)) rfl (fun z30638 ez30639 => ?_)
                refine pm_R_lo pm_M226 (pc' := 70) (ls' := [.ref 41, .int a0, .int a1, .int a2, .int a3, .int x5_25480, .long z25530, pm_no, .int x8_30572, .long z30638, pm_no, g11_30572]) (st' := []) rfl rfl rfl ?_
                refine pm_R_lo pm_M226 (pc' := 71) rfl rfl rfl ?_
                refine pm_R_lo pm_M226 (pc' := 72) rfl rfl rfl ?_
                refine pm_R_op pm_M226 (pc' := 73) (st' := [.int 0, .int a0, .ref 41]) rfl rfl rfl ?_
                refine pm_R_cv pm_M226 (pc' := 76) (a := 41) (ra := [.int 0, .int a0]) (rest := []) (ls' := [.ref 41, .int a0, .int 0]) rfl rfl (Or.inl rfl) pm_M210 T_30572.2.1 rfl (by decide) (Nat.lt_of_lt_of_le (by decide) T_30572.1) rfl rfl (Nat.le_of_ble_eq_true rfl) rfl rfl ?_
                refine pm_R_lo pm_M210 (pc' := 1) rfl rfl rfl ?_
                refine rf_R_get pm_M210 T_30572 (pc' := 4) (v := .ref 47) rfl rfl rfl rfl ?_
                refine pm_R_op pm_M210 (pc' := 6) (st' := [.int 100, .ref 47]) rfl rfl rfl ?_
                refine pm_R_lo pm_M210 (pc' := 7) rfl rfl rfl ?_
                refine rf_R_get pm_M210 T_30572 (pc' := 10) (v := .int (m_30572 23)) rfl rfl rfl rfl ?_
                refine sf_R_imul pm_M210 (pc' := 11) rfl rfl sf_k100 B30591 (by decide) (by decide) (by decide) (fun z30640 e30641 B30642 => ?_)
                refine pm_R_op pm_M210 (pc' := 12) (st' := [.int 2, .int z30640, .ref 47]) rfl rfl rfl ?_
                refine sf_R_iadd pm_M210 (pc' := 13) rfl rfl B30642 sf_k2 (by decide) (by decide) (fun z30643 e30644 B30645 => ?_)
                refine pm_R_op pm_M210 (pc' := 14) (st' := [.int 4, .int z30643, .ref 47]) rfl rfl rfl ?_
                refine pm_R_lo pm_M210 (pc' := 15) rfl rfl rfl ?_
                refine sf_R_imul pm_M210 (pc' := 16) rfl rfl sf_k4 Ba0 (by decide) (by decide) (by decide) (fun z30646 e30647 B30648 => ?_)
                refine sf_R_iadd pm_M210 (pc' := 17) rfl rfl B30645 B30648 (by decide) (by decide) (fun z30649 e30650 B30651 => ?_)
                refine pm_R_lo pm_M210 (pc' := 18) rfl rfl rfl ?_
                refine sf_R_iadd pm_M210 (pc' := 19) rfl rfl B30651 sf_k0 (by decide) (by decide) (fun z30652 e30653 B30654 => ?_)
                refine rf_R_ild pm_M210 T_30572 (pc' := 20) rfl e30608 (by decide) (sf_in B30654 (by decide) (by decide)) rfl (fun z30655 ez30656 => ?_)
                have e30657 : (z30652).toInt = 100 * ((m_30572 23)).toInt + 4 * (a0).toInt + 2 := by
                  have q0 := e30641
                  have q1 := e30644
                  have q2 := e30647
                  have q3 := e30650
                  have q4 := e30653
                  simp only [(show (0 : Int32).toInt = 0 from rfl), (show (2 : Int32).toInt = 2 from rfl), (show (4 : Int32).toInt = 4 from rfl), (show (100 : Int32).toInt = 100 from rfl)] at q0 q1 q2 q3 q4
                  omega
                have B30658 : sf_B 0 5 z30655 := ez30656 ▸ rf_p47r b30609 e30657 B30591 Ba0 (by decide) (by decide) (by decide)
                refine pm_R_ret pm_M210 (r := some (.int z30655)) rfl (pm_ret_i _) ?_
                show pm_R _ 226 76 [.ref 41, .int a0, .int a1, .int a2, .int a3, .int x5_25480, .long z25530, pm_no, .int x8_30572, .long z30638, pm_no, g11_30572] [.int z30655] _ _
                refine pm_R_lo pm_M226 (pc' := 77) rfl rfl rfl ?_
                refine pm_R_lo pm_M226 (pc' := 79) rfl rfl rfl ?_
                refine pm_R_lo pm_M226 (pc' := 80) rfl rfl rfl ?_
                refine pm_R_lo pm_M226 (pc' := 81) rfl rfl rfl ?_
                refine pm_R_op pm_M226 (pc' := 82) (st' := [.int 3, .int a0, .ref 41, .int a3, .int a1, .int z30655]) rfl rfl rfl ?_
                refine pm_R_cv pm_M226 (pc' := 85) (a := 41) (ra := [.int 3, .int a0]) (rest := [.int a3, .int a1, .int z30655]) (ls' := [.ref 41, .int a0, .int 3]) rfl rfl (Or.inl rfl) pm_M210 T_30572.2.1 rfl (by decide) (Nat.lt_of_lt_of_le (by decide) T_30572.1) rfl rfl (Nat.le_of_ble_eq_true rfl) rfl rfl ?_
                refine pm_R_lo pm_M210 (pc' := 1) rfl rfl rfl ?_
                refine rf_R_get pm_M210 T_30572 (pc' := 4) (v := .ref 47) rfl rfl rfl rfl ?_
                refine pm_R_op pm_M210 (pc' := 6) (st' := [.int 100, .ref 47]) rfl rfl rfl ?_
                refine pm_R_lo pm_M210 (pc' := 7) rfl rfl rfl ?_
                refine rf_R_get pm_M210 T_30572 (pc' := 10) (v := .int (m_30572 23)) rfl rfl rfl rfl ?_
                refine sf_R_imul pm_M210 (pc' := 11) rfl rfl sf_k100 B30591 (by decide) (by decide) (by decide) (fun z30659 e30660 B30661 => ?_)
                refine pm_R_op pm_M210 (pc' := 12) (st' := [.int 2, .int z30659, .ref 47]) rfl rfl rfl ?_
                refine sf_R_iadd pm_M210 (pc' := 13) rfl rfl B30661 sf_k2 (by decide) (by decide) (fun z30662 e30663 B30664 => ?_)
                refine pm_R_op pm_M210 (pc' := 14) (st' := [.int 4, .int z30662, .ref 47]) rfl rfl rfl ?_
                refine pm_R_lo pm_M210 (pc' := 15) rfl rfl rfl ?_
                refine sf_R_imul pm_M210 (pc' := 16) rfl rfl sf_k4 Ba0 (by decide) (by decide) (by decide) (fun z30665 e30666 B30667 => ?_)
                refine sf_R_iadd pm_M210 (pc' := 17) rfl rfl B30664 B30667 (by decide) (by decide) (fun z30668 e30669 B30670 => ?_)
                refine pm_R_lo pm_M210 (pc' := 18) rfl rfl rfl ?_
                refine sf_R_iadd pm_M210 (pc' := 19) rfl rfl B30670 sf_k3 (by decide) (by decide) (fun z30671 e30672 B30673 => ?_)
                refine rf_R_ild pm_M210 T_30572 (pc' := 20) rfl e30608 (by decide) (sf_in B30673 (by decide) (by decide)) rfl (fun z30674 ez30675 => ?_)
                have e30676 : (z30671).toInt = 100 * ((m_30572 23)).toInt + 4 * (a0).toInt + 5 := by
                  have q0 := e30660
                  have q1 := e30663
                  have q2 := e30666
                  have q3 := e30669
                  have q4 := e30672
                  simp only [(show (2 : Int32).toInt = 2 from rfl), (show (3 : Int32).toInt = 3 from rfl), (show (4 : Int32).toInt = 4 from rfl), (show (100 : Int32).toInt = 100 from rfl)] at q0 q1 q2 q3 q4
                  omega
                have B30677 : sf_B 0 4 z30674 := ez30675 ▸ rf_p47t b30609 e30676 B30591 Ba0 (by decide) (by decide) (by decide)
                refine pm_R_ret pm_M210 (r := some (.int z30674)) rfl (pm_ret_i _) ?_
                show pm_R _ 226 85 [.ref 41, .int a0, .int a1, .int a2, .int a3, .int x5_25480, .long z25530, pm_no, .int x8_30572, .long z30638, pm_no, g11_30572] [.int z30674, .int a3, .int a1, .int z30655] _ _
                refine pm_R_lo pm_M226 (pc' := 87) rfl rfl rfl ?_
                refine pm_R_lo pm_M226 (pc' := 89) rfl rfl rfl ?_
                refine pm_R_cs pm_M226 (pc' := 92) (ra := [.int x8_30572, .int x5_25480, .int z30674]) (rest := [.int a3, .int a1, .int z30655]) (ls' := [.int z30674, .int x5_25480, .int x8_30572]) rfl rfl (Or.inl rfl) pm_M227 rfl rfl (Nat.le_of_ble_eq_true rfl) rfl rfl ?_
                refine pm_R_lo pm_M227 (pc' := 1) rfl rfl rfl ?_
                refine pm_R_ifc pm_M227 (t := 8) (pc' := 4) rfl rfl rfl (fun c30678 => ?_) (fun c30678 => ?_)
                · have B30679 : sf_B 1 4 z30674 := sf_neL0 c30678 sf_k0 B30677
                  refine pm_R_lo pm_M227 (pc' := 9) rfl rfl rfl ?_
                  refine pm_R_op pm_M227 (pc' := 10) (st' := [.int 1, .int z30674]) rfl rfl rfl ?_
                  refine pm_R_icmp pm_M227 (t := 17) (pc' := 13) rfl rfl rfl (fun c30680 => ?_) (fun c30680 => ?_)
                  · have B30681 : sf_B 2 4 z30674 := sf_neL0 c30680 sf_k1 B30679
                    refine pm_R_lo pm_M227 (pc' := 18) rfl rfl rfl ?_
                    refine pm_R_op pm_M227 (pc' := 19) (st' := [.int 2, .int z30674]) rfl rfl rfl ?_
                    refine pm_R_icmp pm_M227 (t := 31) (pc' := 22) rfl rfl rfl (fun c30682 => ?_) (fun c30682 => ?_)
                    · have B30683 : sf_B 3 4 z30674 := sf_neL0 c30682 sf_k2 B30681
                      refine pm_R_lo pm_M227 (pc' := 32) rfl rfl rfl ?_
                      refine pm_R_op pm_M227 (pc' := 33) (st' := [.int 3, .int z30674]) rfl rfl rfl ?_
                      refine pm_R_icmp pm_M227 (t := 48) (pc' := 36) rfl rfl rfl (fun c30684 => ?_) (fun c30684 => ?_)
                      · have B30685 : sf_B 4 4 z30674 := sf_neL0 c30684 sf_k3 B30683
                        refine pm_R_op pm_M227 (pc' := 50) (st' := [.int 49]) rfl rfl rfl ?_
                        refine pm_R_lo pm_M227 (pc' := 51) rfl rfl rfl ?_
                        refine sf_R_isub pm_M227 (pc' := 52) rfl rfl sf_k49 B30581 (by decide) (by decide) (fun z30686 e30687 B30688 => ?_)
                        refine pm_R_ret pm_M227 (r := some (.int z30686)) rfl (pm_ret_i _) ?_
                        show pm_R _ 226 92 [.ref 41, .int a0, .int a1, .int a2, .int a3, .int x5_25480, .long z25530, pm_no, .int x8_30572, .long z30638, pm_no, g11_30572] [.int z30686, .int a3, .int a1, .int z30655] _ _
                        refine pm_R_cs pm_M226 (pc' := 95) (ra := [.int z30686, .int a3, .int a1, .int z30655]) (rest := []) (ls' := [.int z30655, .int a1, .int a3, .int z30686]) rfl rfl (Or.inl rfl) pm_M225 rfl rfl (Nat.le_of_ble_eq_true rfl) rfl rfl ?_
                        refine pm_R_op pm_M225 (pc' := 2) (st' := [.int 50]) rfl rfl rfl ?_
                        refine pm_R_lo pm_M225 (pc' := 3) rfl rfl rfl ?_
                        refine pm_R_lo pm_M225 (pc' := 4) rfl rfl rfl ?_
                        refine pm_R_lo pm_M225 (pc' := 5) rfl rfl rfl ?_
                        refine pm_R_cs pm_M225 (pc' := 8) (ra := [.int a3, .int a1, .int z30655]) (rest := [.int 50]) (ls' := [.int z30655, .int a1, .int a3]) rfl rfl (Or.inl rfl) pm_M207 rfl rfl (Nat.le_of_ble_eq_true rfl) rfl rfl ?_
                        refine pm_R_op pm_M207 (pc' := 3) (st' := [.int 144]) rfl rfl rfl ?_
                        refine pm_R_lo pm_M207 (pc' := 4) rfl rfl rfl ?_
                        refine sf_R_imul pm_M207 (pc' := 5) rfl rfl sf_k144 B30658 (by decide) (by decide) (by decide) (fun z30689 e30690 B30691 => ?_)
                        refine pm_R_op pm_M207 (pc' := 7) (st' := [.int 12, .int z30689]) rfl rfl rfl ?_
                        refine pm_R_lo pm_M207 (pc' := 8) rfl rfl rfl ?_
                        refine sf_R_imul pm_M207 (pc' := 9) rfl rfl sf_k12 Ba1 (by decide) (by decide) (by decide) (fun z30692 e30693 B30694 => ?_)
                        refine sf_R_iadd pm_M207 (pc' := 10) rfl rfl B30691 B30694 (by decide) (by decide) (fun z30695 e30696 B30697 => ?_)
                        refine pm_R_lo pm_M207 (pc' := 11) rfl rfl rfl ?_
                        refine sf_R_iadd pm_M207 (pc' := 12) rfl rfl B30697 Ba3 (by decide) (by decide) (fun z30698 e30699 B30700 => ?_)
                        refine pm_R_ret pm_M207 (r := some (.int z30698)) rfl (pm_ret_i _) ?_
                        show pm_R _ 225 8 [.int z30655, .int a1, .int a3, .int z30686] [.int z30698, .int 50] _ _
                        refine sf_R_imul pm_M225 (pc' := 9) rfl rfl sf_k50 B30700 (by decide) (by decide) (by decide) (fun z30701 e30702 B30703 => ?_)
                        refine pm_R_lo pm_M225 (pc' := 10) rfl rfl rfl ?_
                        refine sf_R_iadd pm_M225 (pc' := 11) rfl rfl B30703 B30688 (by decide) (by decide) (fun z30704 e30705 B30706 => ?_)
                        refine pm_R_ret pm_M225 (r := some (.int z30704)) rfl (pm_ret_i _) ?_
                        show pm_R _ 226 95 [.ref 41, .int a0, .int a1, .int a2, .int a3, .int x5_25480, .long z25530, pm_no, .int x8_30572, .long z30638, pm_no, g11_30572] [.int z30704] _ _
                        refine pm_R_lo pm_M226 (pc' := 97) (ls' := [.ref 41, .int a0, .int a1, .int a2, .int a3, .int x5_25480, .long z25530, pm_no, .int x8_30572, .long z30638, pm_no, .int z30704]) (st' := []) rfl rfl rfl ?_
                        refine pm_R_lo pm_M226 (pc' := 98) rfl rfl rfl ?_
                        refine rf_R_get pm_M226 T_30572 (pc' := 101) (v := .ref 56) rfl rfl rfl rfl ?_
                        refine pm_R_lo pm_M226 (pc' := 103) rfl rfl rfl ?_
                        refine pm_R_lo pm_M226 (pc' := 105) rfl rfl rfl ?_
                        refine pm_R_op pm_M226 (pc' := 106) (st' := [.long 0, .long z30638, .int z30704, .ref 56]) rfl rfl rfl ?_
                        refine sf_R_lcmp pm_M226 (pc' := 107) (pm_q226_1 (Nat.le_of_ble_eq_true rfl)) rfl (fun z30707 e30708 => ?_)
                        refine pm_R_ifc pm_M226 (t := 120) (pc' := 110) (pm_q226_1 (Nat.le_of_ble_eq_true rfl)) rfl rfl (fun c30709 => ?_) (fun c30709 => ?_)
                        · have k30710 := sf_lneC e30708 c30709
                          refine pm_R_lo pm_M226 (pc' := 121) (pm_q226_1 (Nat.le_of_ble_eq_true rfl)) rfl rfl ?_
                          refine rf_R_get pm_M226 T_30572 (pc' := 124) (v := .ref 56) (pm_q226_1 (Nat.le_of_ble_eq_true rfl)) rfl rfl rfl ?_
                          refine pm_R_lo pm_M226 (pc' := 126) (pm_q226_1 (Nat.le_of_ble_eq_true rfl)) rfl rfl ?_
                          refine rf_R_lld pm_M226 T_30572 (pc' := 127) (pm_q226_1 (Nat.le_of_ble_eq_true rfl)) e30636 (by decide) (by decide) (sf_in B30706 (by decide) (by decide)) rfl (fun z30711 ez30712 => ?_)
                          refine pm_R_lo pm_M226 (pc' := 129) (pm_q226_1 (Nat.le_of_ble_eq_true rfl)) rfl rfl ?_
                          refine pm_R_lo pm_M226 (pc' := 131) (pm_q226_1 (Nat.le_of_ble_eq_true rfl)) rfl rfl ?_
                          refine pm_R_cs pm_M226 (pc' := 134) (ra := [.long z30638, .long z25530]) (rest := [.long z30711, .int z30704, .ref 56]) (ls' := [.long z25530, pm_no, .long z30638, pm_no]) (pm_q226_1 (Nat.le_of_ble_eq_true rfl)) rfl (Or.inl rfl) pm_M212 rfl rfl (Nat.le_of_ble_eq_true rfl) rfl rfl ?_
                          refine pm_R_lo pm_M212 (pc' := 1) rfl rfl rfl ?_
                          refine pm_R_op pm_M212 (pc' := 2) (st' := [.long 0, .long z30638]) rfl rfl rfl ?_
                          refine sf_R_lcmp pm_M212 (pc' := 3) rfl rfl (fun z30713 e30714 => ?_)
                          refine pm_R_ifc pm_M212 (t := 22) (pc' := 6) rfl rfl rfl (fun c30715 => ?_) (fun c30715 => ?_)
                          · have B30716 : sf_B (-2147483648) 0 z30713 := sf_leL c30715 (sf_any z30713) sf_k0
                            refine pm_R_lo pm_M212 (pc' := 23) rfl rfl rfl ?_
                            refine pm_R_lo pm_M212 (pc' := 24) rfl rfl rfl ?_
                            refine sf_R_lany pm_M212 (pc' := 25) (st := []) rfl rfl rfl (fun z30717 => ?_)
                            refine pm_R_op pm_M212 (pc' := 26) (st' := [.long 0, .long z30717]) rfl rfl rfl ?_
                            refine pm_R_cs pm_M212 (pc' := 29) (ra := [.long 0, .long z30717]) (rest := []) (ls' := [.long z30717, pm_no, .long 0, pm_no]) rfl rfl (Or.inl rfl) pm_M213 rfl rfl (Nat.le_of_ble_eq_true rfl) rfl rfl ?_
                            refine pm_R_lo pm_M213 (pc' := 1) rfl rfl rfl ?_
                            refine pm_R_lo pm_M213 (pc' := 2) rfl rfl rfl ?_
                            refine sf_R_lany pm_M213 (pc' := 3) (st := []) rfl rfl rfl (fun z30718 => ?_)
                            refine pm_R_ldc2 pm_M213 (pc' := 6) rfl rfl rfl ?_
                            refine sf_R_lcmp pm_M213 (pc' := 7) rfl rfl (fun z30719 e30720 => ?_)
                            refine pm_R_ifc pm_M213 (t := 16) (pc' := 10) rfl rfl rfl (fun c30721 => ?_) (fun c30721 => ?_)
                            · have B30722 : sf_B 0 2147483647 z30719 := sf_leR c30721 sf_k0 (sf_any z30719)
                              refine pm_R_ldc2 pm_M213 (pc' := 19) rfl rfl rfl ?_
                              refine pm_R_ret pm_M213 (r := some (.long 1000000000000)) rfl rfl ?_
                              show pm_R _ 212 29 [.long z25530, pm_no, .long z30638, pm_no] [.long 1000000000000] _ _
                              refine pm_R_ret pm_M212 (r := some (.long 1000000000000)) rfl rfl ?_
                              show pm_R _ 226 134 [.ref 41, .int a0, .int a1, .int a2, .int a3, .int x5_25480, .long z25530, pm_no, .int x8_30572, .long z30638, pm_no, .int z30704] [.long 1000000000000, .long z30711, .int z30704, .ref 56] _ _
                              refine pm_R_cs pm_M226 (pc' := 137) (ra := [.long 1000000000000, .long z30711]) (rest := [.int z30704, .ref 56]) (ls' := [.long z30711, pm_no, .long 1000000000000, pm_no]) (pm_q226_1 (Nat.le_of_ble_eq_true rfl)) rfl (Or.inl rfl) pm_M213 rfl rfl (Nat.le_of_ble_eq_true rfl) rfl rfl ?_
                              refine pm_R_lo pm_M213 (pc' := 1) rfl rfl rfl ?_
                              refine pm_R_lo pm_M213 (pc' := 2) rfl rfl rfl ?_
                              refine sf_R_lany pm_M213 (pc' := 3) (st := []) rfl rfl rfl (fun z30723 => ?_)
                              refine pm_R_ldc2 pm_M213 (pc' := 6) rfl rfl rfl ?_
                              refine sf_R_lcmp pm_M213 (pc' := 7) rfl rfl (fun z30724 e30725 => ?_)
                              refine pm_R_ifc pm_M213 (t := 16) (pc' := 10) rfl rfl rfl (fun c30726 => ?_) (fun c30726 => ?_)
                              · have B30727 : sf_B 0 2147483647 z30724 := sf_leR c30726 sf_k0 (sf_any z30724)
                                refine pm_R_ldc2 pm_M213 (pc' := 19) rfl rfl rfl ?_
                                refine pm_R_ret pm_M213 (r := some (.long 1000000000000)) rfl rfl ?_
                                show pm_R _ 226 137 [.ref 41, .int a0, .int a1, .int a2, .int a3, .int x5_25480, .long z25530, pm_no, .int x8_30572, .long z30638, pm_no, .int z30704] [.long 1000000000000, .int z30704, .ref 56] _ _
                                refine rf_R_lst pm_M226 T_30572 (pc' := 138) (pm_q226_1 (Nat.le_of_ble_eq_true rfl)) e30636 (by decide) (by decide) (sf_in B30706 (by decide) (by decide)) ⟨_, rfl⟩ rfl (fun h30728 T30729 F30730 => ?_)
                                have F30731 := F_30572.trans F30730
                                refine sf_R_iinc pm_M226 (pc' := 141) (ls' := fun z => [.ref 41, .int a0, .int a1, .int a2, .int a3, .int x5_25480, .long z25530, pm_no, .int z, .long z30638, pm_no, .int z30704]) (pm_q226_1 (Nat.le_of_ble_eq_true rfl)) B30581 rfl (by decide) (by decide) (by decide) (fun _ => rfl) rfl (fun z30732 e30733 B30734 => ?_)
                                show pm_R _ 226 141 [.ref 41, .int a0, .int a1, .int a2, .int a3, .int x5_25480, .long z25530, pm_no, .int z30732, .long z30638, pm_no, .int z30704] [] _ _
                                refine pm_R_br pm_M226 (pc' := 33) (pm_q226_1 (Nat.le_of_ble_eq_true rfl)) rfl ?_
                                exact ih_30572 _ (sf_up hN_30572 e30733 B30581 (by decide) (by decide)) h30728 m_30572 w_30572 z30732 (.long z30638) (pm_no) (.int z30704) T30729 F30731 W_30572 (sf_weak B30734 (by decide) (by decide)) rfl rfl rfl
                              · have B30735 : sf_B (-2147483648) (-1) z30724 := sf_ltL (Int32.not_le.mp c30726) (sf_any z30724) sf_k0
                                have k30736 := sf_lneB e30725 B30735 (by decide)
                                refine pm_R_lo pm_M213 (pc' := 11) rfl rfl rfl ?_
                                refine pm_R_lo pm_M213 (pc' := 12) rfl rfl rfl ?_
                                refine sf_R_lany pm_M213 (pc' := 13) (st := []) rfl rfl rfl (fun z30737 => ?_)
                                refine pm_R_br pm_M213 (pc' := 19) rfl rfl ?_
                                refine pm_R_ret pm_M213 (r := some (.long z30737)) rfl rfl ?_
                                show pm_R _ 226 137 [.ref 41, .int a0, .int a1, .int a2, .int a3, .int x5_25480, .long z25530, pm_no, .int x8_30572, .long z30638, pm_no, .int z30704] [.long z30737, .int z30704, .ref 56] _ _
                                refine rf_R_lst pm_M226 T_30572 (pc' := 138) (pm_q226_1 (Nat.le_of_ble_eq_true rfl)) e30636 (by decide) (by decide) (sf_in B30706 (by decide) (by decide)) ⟨_, rfl⟩ rfl (fun h30738 T30739 F30740 => ?_)
                                have F30741 := F_30572.trans F30740
                                refine sf_R_iinc pm_M226 (pc' := 141) (ls' := fun z => [.ref 41, .int a0, .int a1, .int a2, .int a3, .int x5_25480, .long z25530, pm_no, .int z, .long z30638, pm_no, .int z30704]) (pm_q226_1 (Nat.le_of_ble_eq_true rfl)) B30581 rfl (by decide) (by decide) (by decide) (fun _ => rfl) rfl (fun z30742 e30743 B30744 => ?_)
                                show pm_R _ 226 141 [.ref 41, .int a0, .int a1, .int a2, .int a3, .int x5_25480, .long z25530, pm_no, .int z30742, .long z30638, pm_no, .int z30704] [] _ _
                                refine pm_R_br pm_M226 (pc' := 33) (pm_q226_1 (Nat.le_of_ble_eq_true rfl)) rfl ?_
                                exact ih_30572 _ (sf_up hN_30572 e30743 B30581 (by decide) (by decide)) h30738 m_30572 w_30572 z30742 (.long z30638) (pm_no) (.int z30704) T30739 F30741 W_30572 (sf_weak B30744 (by decide) (by decide)) rfl rfl rfl
                            · have B30745 : sf_B (-2147483648) (-1) z30719 := sf_ltL (Int32.not_le.mp c30721) (sf_any z30719) sf_k0
                              have k30746 := sf_lneB e30720 B30745 (by decide)
                              refine pm_R_lo pm_M213 (pc' := 11) rfl rfl rfl ?_
                              refine pm_R_lo pm_M213 (pc' := 12) rfl rfl rfl ?_
                              refine sf_R_lany pm_M213 (pc' := 13) (st := []) rfl rfl rfl (fun z30747 => ?_)
                              refine pm_R_br pm_M213 (pc' := 19) rfl rfl ?_
                              refine pm_R_ret pm_M213 (r := some (.long z30747)) rfl rfl ?_
                              show pm_R _ 212 29 [.long z25530, pm_no, .long z30638, pm_no] [.long z30747] _ _
                              refine pm_R_ret pm_M212 (r := some (.long z30747)) rfl rfl ?_
                              show pm_R _ 226 134 [.ref 41, .int a0, .int a1, .int a2, .int a3, .int x5_25480, .long z25530, pm_no, .int x8_30572, .long z30638, pm_no, .int z30704] [.long z30747, .long z30711, .int z30704, .ref 56] _ _
                              refine pm_R_cs pm_M226 (pc' := 137) (ra := [.long z30747, .long z30711]) (rest := [.int z30704, .ref 56]) (ls' := [.long z30711, pm_no, .long z30747, pm_no]) (pm_q226_1 (Nat.le_of_ble_eq_true rfl)) rfl (Or.inl rfl) pm_M213 rfl rfl (Nat.le_of_ble_eq_true rfl) rfl rfl ?_
                              refine pm_R_lo pm_M213 (pc' := 1) rfl rfl rfl ?_
                              refine pm_R_lo pm_M213 (pc' := 2) rfl rfl rfl ?_
                              refine sf_R_lany pm_M213 (pc' := 3) (st := []) rfl rfl rfl (fun z30748 => ?_)
                              refine pm_R_ldc2 pm_M213 (pc' := 6) rfl rfl rfl ?_
                              refine sf_R_lcmp pm_M213 (pc' := 7) rfl rfl (fun z30749 e30750 => ?_)
                              refine pm_R_ifc pm_M213 (t := 16) (pc' := 10) rfl rfl rfl (fun c30751 => ?_) (fun c30751 => ?_)
                              · have B30752 : sf_B 0 2147483647 z30749 := sf_leR c30751 sf_k0 (sf_any z30749)
                                refine pm_R_ldc2 pm_M213 (pc' := 19) rfl rfl rfl ?_
                                refine pm_R_ret pm_M213 (r := some (.long 1000000000000)) rfl rfl ?_
                                show pm_R _ 226 137 [.ref 41, .int a0, .int a1, .int a2, .int a3, .int x5_25480, .long z25530, pm_no, .int x8_30572, .long z30638, pm_no, .int z30704] [.long 1000000000000, .int z30704, .ref 56] _ _
                                refine rf_R_lst pm_M226 T_30572 (pc' := 138) (pm_q226_1 (Nat.le_of_ble_eq_true rfl)) e30636 (by decide) (by decide) (sf_in B30706 (by decide) (by decide)) ⟨_, rfl⟩ rfl (fun h30753 T30754 F30755 => ?_)
                                have F30756 := F_30572.trans F30755
                                refine sf_R_iinc pm_M226 (pc' := 141) (ls' := fun z => [.ref 41, .int a0, .int a1, .int a2, .int a3, .int x5_25480, .long z25530, pm_no, .int z, .long z30638, pm_no, .int z30704]) (pm_q226_1 (Nat.le_of_ble_eq_true rfl)) B30581 rfl (by decide) (by decide) (by decide) (fun _ => rfl) rfl (fun z30757 e30758 B30759 => ?_)
                                show pm_R _ 226 141 [.ref 41, .int a0, .int a1, .int a2, .int a3, .int x5_25480, .long z25530, pm_no, .int z30757, .long z30638, pm_no, .int z30704] [] _ _
                                refine pm_R_br pm_M226 (pc' := 33) (pm_q226_1 (Nat.le_of_ble_eq_true rfl)) rfl ?_
                                exact ih_30572 _ (sf_up hN_30572 e30758 B30581 (by decide) (by decide)) h30753 m_30572 w_30572 z30757 (.long z30638) (pm_no) (.int z30704) T30754 F30756 W_30572 (sf_weak B30759 (by decide) (by decide)) rfl rfl rfl
                              · have B30760 : sf_B (-2147483648) (-1) z30749 := sf_ltL (Int32.not_le.mp c30751) (sf_any z30749) sf_k0
                                have k30761 := sf_lneB e30750 B30760 (by decide)
                                refine pm_R_lo pm_M213 (pc' := 11) rfl rfl rfl ?_
                                refine pm_R_lo pm_M213 (pc' := 12) rfl rfl rfl ?_
                                refine sf_R_lany pm_M213 (pc' := 13) (st := []) rfl rfl rfl (fun z30762 => ?_)
                                refine pm_R_br pm_M213 (pc' := 19) rfl rfl ?_
                                refine pm_R_ret pm_M213 (r := some (.long z30762)) rfl rfl ?_
                                show pm_R _ 226 137 [.ref 41, .int a0, .int a1, .int a2, .int a3, .int x5_25480, .long z25530, pm_no, .int x8_30572, .long z30638, pm_no, .int z30704] [.long z30762, .int z30704, .ref 56] _ _
                                refine rf_R_lst pm_M226 T_30572 (pc' := 138) (pm_q226_1 (Nat.le_of_ble_eq_true rfl)) e30636 (by decide) (by decide) (sf_in B30706 (by decide) (by decide)) ⟨_, rfl⟩ rfl (fun h30763 T30764 F30765 => ?_)
                                have F30766 := F_30572.trans F30765
                                refine sf_R_iinc pm_M226 (pc' := 141) (ls' := fun z => [.ref 41, .int a0, .int a1, .int a2, .int a3, .int x5_25480, .long z25530, pm_no, .int z, .long z30638, pm_no, .int z30704]) (pm_q226_1 (Nat.le_of_ble_eq_true rfl)) B30581 rfl (by decide) (by decide) (by decide) (fun _ => rfl) rfl (fun z30767 e30768 B30769 => ?_)
                                show pm_R _ 226 141 [.ref 41, .int a0, .int a1, .int a2, .int a3, .int x5_25480, .long z25530, pm_no, .int z30767, .long z30638, pm_no, .int z30704] [] _ _
                                refine pm_R_br pm_M226 (pc' := 33) (pm_q226_1 (Nat.le_of_ble_eq_true rfl)) rfl ?_
                                exact ih_30572 _ (sf_up hN_30572 e30768 B30581 (by decide) (by decide)) h30763 m_30572 w_30572 z30767 (.long z30638) (pm_no) (.int z30704) T30764 F30766 W_30572 (sf_weak B30769 (by decide) (by decide)) rfl rfl rfl
                          · have B30770 : sf_B 1 2147483647 z30713 := sf_ltR (Int32.not_le.mp c30715) sf_k0 (sf_any z30713)
                            have k30771 := sf_lneA e30714 B30770 (by decide)
                            refine pm_R_lo pm_M212 (pc' := 7) rfl rfl rfl ?_
                            refine pm_R_ldc2 pm_M212 (pc' := 10) rfl rfl rfl ?_
                            refine pm_R_lo pm_M212 (pc' := 11) rfl rfl rfl ?_
                            refine sf_R_ldivA pm_M212 (pc' := 12) rfl rfl k30771 (fun z30772 => ?_)
                            refine sf_R_lcmp pm_M212 (pc' := 13) rfl rfl (fun z30773 e30774 => ?_)
                            refine pm_R_ifc pm_M212 (t := 22) (pc' := 16) rfl rfl rfl (fun c30775 => ?_) (fun c30775 => ?_)
                            · have B30776 : sf_B (-2147483648) 0 z30773 := sf_leL c30775 (sf_any z30773) sf_k0
                              refine pm_R_lo pm_M212 (pc' := 23) rfl rfl rfl ?_
                              refine pm_R_lo pm_M212 (pc' := 24) rfl rfl rfl ?_
                              refine sf_R_lany pm_M212 (pc' := 25) (st := []) rfl rfl rfl (fun z30777 => ?_)
                              refine pm_R_op pm_M212 (pc' := 26) (st' := [.long 0, .long z30777]) rfl rfl rfl ?_
                              refine pm_R_cs pm_M212 (pc' := 29) (ra := [.long 0, .long z30777]) (rest := []) (ls' := [.long z30777, pm_no, .long 0, pm_no]) rfl rfl (Or.inl rfl) pm_M213 rfl rfl (Nat.le_of_ble_eq_true rfl) rfl rfl ?_
                              refine pm_R_lo pm_M213 (pc' := 1) rfl rfl rfl ?_
                              refine pm_R_lo pm_M213 (pc' := 2) rfl rfl rfl ?_
                              refine sf_R_lany pm_M213 (pc' := 3) (st := []) rfl rfl rfl (fun z30778 => ?_)
                              refine pm_R_ldc2 pm_M213 (pc' := 6) rfl rfl rfl ?_
                              refine sf_R_lcmp pm_M213 (pc' := 7) rfl rfl (fun z30779 e30780 => ?_)
                              refine pm_R_ifc pm_M213 (t := 16) (pc' := 10) rfl rfl rfl (fun c30781 => ?_) (fun c30781 => ?_)
                              · have B30782 : sf_B 0 2147483647 z30779 := sf_leR c30781 sf_k0 (sf_any z30779)
                                refine pm_R_ldc2 pm_M213 (pc' := 19) rfl rfl rfl ?_
                                refine pm_R_ret pm_M213 (r := some (.long 1000000000000)) rfl rfl ?_
                                show pm_R _ 212 29 [.long z25530, pm_no, .long z30638, pm_no] [.long 1000000000000] _ _
                                refine pm_R_ret pm_M212 (r := some (.long 1000000000000)) rfl rfl ?_
                                show pm_R _ 226 134 [.ref 41, .int a0, .int a1, .int a2, .int a3, .int x5_25480, .long z25530, pm_no, .int x8_30572, .long z30638, pm_no, .int z30704] [.long 1000000000000, .long z30711, .int z30704, .ref 56] _ _
                                refine pm_R_cs pm_M226 (pc' := 137) (ra := [.long 1000000000000, .long z30711]) (rest := [.int z30704, .ref 56]) (ls' := [.long z30711, pm_no, .long 1000000000000, pm_no]) (pm_q226_1 (Nat.le_of_ble_eq_true rfl)) rfl (Or.inl rfl) pm_M213 rfl rfl (Nat.le_of_ble_eq_true rfl) rfl rfl ?_
                                refine pm_R_lo pm_M213 (pc' := 1) rfl rfl rfl ?_
                                refine pm_R_lo pm_M213 (pc' := 2) rfl rfl rfl ?_
                                refine sf_R_lany pm_M213 (pc' := 3) (st := []) rfl rfl rfl (fun z30783 => ?_)
                                refine pm_R_ldc2 pm_M213 (pc' := 6) rfl rfl rfl ?_
                                refine sf_R_lcmp pm_M213 (pc' := 7) rfl rfl (fun z30784 e30785 => ?_)
                                refine pm_R_ifc pm_M213 (t := 16) (pc' := 10) rfl rfl rfl (fun c30786 => ?_) (fun c30786 => ?_)
                                · have B30787 : sf_B 0 2147483647 z30784 := sf_leR c30786 sf_k0 (sf_any z30784)
                                  refine pm_R_ldc2 pm_M213 (pc' := 19) rfl rfl rfl ?_
                                  refine pm_R_ret pm_M213 (r := some (.long 1000000000000)) rfl rfl ?_
                                  show pm_R _ 226 137 [.ref 41, .int a0, .int a1, .int a2, .int a3, .int x5_25480, .long z25530, pm_no, .int x8_30572, .long z30638, pm_no, .int z30704] [.long 1000000000000, .int z30704, .ref 56] _ _
                                  refine rf_R_lst pm_M226 T_30572 (pc' := 138) (pm_q226_1 (Nat.le_of_ble_eq_true rfl)) e30636 (by decide) (by decide) (sf_in B30706 (by decide) (by decide)) ⟨_, rfl⟩ rfl (fun h30788 T30789 F30790 => ?_)
                                  have F30791 := F_30572.trans F30790
                                  refine sf_R_iinc pm_M226 (pc' := 141) (ls' := fun z => [.ref 41, .int a0, .int a1, .int a2, .int a3, .int x5_25480, .long z25530, pm_no, .int z, .long z30638, pm_no, .int z30704]) (pm_q226_1 (Nat.le_of_ble_eq_true rfl)) B30581 rfl (by decide) (by decide) (by decide) (fun _ => rfl) rfl (fun z30792 e30793 B30794 => ?_)
                                  show pm_R _ 226 141 [.ref 41, .int a0, .int a1, .int a2, .int a3, .int x5_25480, .long z25530, pm_no, .int z30792, .long z30638, pm_no, .int z30704] [] _ _
                                  refine pm_R_br pm_M226 (pc' := 33) (pm_q226_1 (Nat.le_of_ble_eq_true rfl)) rfl ?_
                                  exact ih_30572 _ (sf_up hN_30572 e30793 B30581 (by decide) (by decide)) h30788 m_30572 w_30572 z30792 (.long z30638) (pm_no) (.int z30704) T30789 F30791 W_30572 (sf_weak B30794 (by decide) (by decide)) rfl rfl rfl
                                · have B30795 : sf_B (-2147483648) (-1) z30784 := sf_ltL (Int32.not_le.mp c30786) (sf_any z30784) sf_k0
                                  have k30796 := sf_lneB e30785 B30795 (by decide)
                                  refine pm_R_lo pm_M213 (pc' := 11) rfl rfl rfl ?_
                                  refine pm_R_lo pm_M213 (pc' := 12) rfl rfl rfl ?_
                                  refine sf_R_lany pm_M213 (pc' := 13) (st := []) rfl rfl rfl (fun z30797 => ?_)
                                  refine pm_R_br pm_M213 (pc' := 19) rfl rfl ?_
                                  refine pm_R_ret pm_M213 (r := some (.long z30797)) rfl rfl ?_
                                  show pm_R _ 226 137 [.ref 41, .int a0, .int a1, .int a2, .int a3, .int x5_25480, .long z25530, pm_no, .int x8_30572, .long z30638, pm_no, .int z30704] [.long z30797, .int z30704, .ref 56] _ _
                                  refine rf_R_lst pm_M226 T_30572 (pc' := 138) (pm_q226_1 (Nat.le_of_ble_eq_true rfl)) e30636 (by decide) (by decide) (sf_in B30706 (by decide) (by decide)) ⟨_, rfl⟩ rfl (fun h30798 T30799 F30800 => ?_)
                                  have F30801 := F_30572.trans F30800
                                  refine sf_R_iinc pm_M226 (pc' := 141) (ls' := fun z => [.ref 41, .int a0, .int a1, .int a2, .int a3, .int x5_25480, .long z25530, pm_no, .int z, .long z30638, pm_no, .int z30704]) (pm_q226_1 (Nat.le_of_ble_eq_true rfl)) B30581 rfl (by decide) (by decide) (by decide) (fun _ => rfl) rfl (fun z30802 e30803 B30804 => ?_)
                                  show pm_R _ 226 141 [.ref 41, .int a0, .int a1, .int a2, .int a3, .int x5_25480, .long z25530, pm_no, .int z30802, .long z30638, pm_no, .int z30704] [] _ _
                                  refine pm_R_br pm_M226 (pc' := 33) (pm_q226_1 (Nat.le_of_ble_eq_true rfl)) rfl ?_
                                  exact ih_30572 _ (sf_up hN_30572 e30803 B30581 (by decide) (by decide)) h30798 m_30572 w_30572 z30802 (.long z30638) (pm_no) (.int z30704) T30799 F30801 W_30572 (sf_weak B30804 (by decide) (by decide)) rfl rfl rfl
                              · have B30805 : sf_B (-2147483648) (-1) z30779 := sf_ltL (Int32.not_le.mp c30781) (sf_any z30779) sf_k0
                                have k30806 := sf_lneB e30780 B30805 (by decide)
                                refine pm_R_lo pm_M213 (pc' := 11) rfl rfl rfl ?_
                                refine pm_R_lo pm_M213 (pc' := 12) rfl rfl rfl ?_
                                refine sf_R_lany pm_M213 (pc' := 13) (st := []) rfl rfl rfl (fun z30807 => ?_)
                                refine pm_R_br pm_M213 (pc' := 19) rfl rfl ?_
                                refine pm_R_ret pm_M213 (r := some (.long z30807)) rfl rfl ?_
                                show pm_R _ 212 29 [.long z25530, pm_no, .long z30638, pm_no] [.long z30807] _ _
                                refine pm_R_ret pm_M212 (r := some (.long z30807)) rfl rfl ?_
                                show pm_R _ 226 134 [.ref 41, .int a0, .int a1, .int a2, .int a3, .int x5_25480, .long z25530, pm_no, .int x8_30572, .long z30638, pm_no, .int z30704] [.long z30807, .long z30711, .int z30704, .ref 56] _ _
                                refine pm_R_cs pm_M226 (pc' := 137) (ra := [.long z30807, .long z30711]) (rest := [.int z30704, .ref 56]) (ls' := [.long z30711, pm_no, .long z30807, pm_no]) (pm_q226_1 (Nat.le_of_ble_eq_true rfl)) rfl (Or.inl rfl) pm_M213 rfl rfl (Nat.le_of_ble_eq_true rfl) rfl rfl ?_
                                refine pm_R_lo pm_M213 (pc' := 1) rfl rfl rfl ?_
                                refine pm_R_lo pm_M213 (pc' := 2) rfl rfl rfl ?_
                                refine sf_R_lany pm_M213 (pc' := 3) (st := []) rfl rfl rfl (fun z30808 => ?_)
                                refine pm_R_ldc2 pm_M213 (pc' := 6) rfl rfl rfl ?_
                                refine sf_R_lcmp pm_M213 (pc' := 7) rfl rfl (fun z30809 e30810 => ?_)
                                refine pm_R_ifc pm_M213 (t := 16) (pc' := 10) rfl rfl rfl (fun c30811 => ?_) (fun c30811 => ?_)
                                · have B30812 : sf_B 0 2147483647 z30809 := sf_leR c30811 sf_k0 (sf_any z30809)
                                  refine pm_R_ldc2 pm_M213 (pc' := 19) rfl rfl rfl ?_
                                  refine pm_R_ret pm_M213 (r := some (.long 1000000000000)) rfl rfl ?_
                                  show pm_R _ 226 137 [.ref 41, .int a0, .int a1, .int a2, .int a3, .int x5_25480, .long z25530, pm_no, .int x8_30572, .long z30638, pm_no, .int z30704] [.long 1000000000000, .int z30704, .ref 56] _ _
                                  refine rf_R_lst pm_M226 T_30572 (pc' := 138) (pm_q226_1 (Nat.le_of_ble_eq_true rfl)) e30636 (by decide) (by decide) (sf_in B30706 (by decide) (by decide)) ⟨_, rfl⟩ rfl (fun h30813 T30814 F30815 => ?_)
                                  have F30816 := F_30572.trans F30815
                                  refine sf_R_iinc pm_M226 (pc' := 141) (ls' := fun z => [.ref 41, .int a0, .int a1, .int a2, .int a3, .int x5_25480, .long z25530, pm_no, .int z, .long z30638, pm_no, .int z30704]) (pm_q226_1 (Nat.le_of_ble_eq_true rfl)) B30581 rfl (by decide) (by decide) (by decide) (fun _ => rfl) rfl (fun z30817 e30818 B30819 => ?_)
                                  show pm_R _ 226 141 [.ref 41, .int a0, .int a1, .int a2, .int a3, .int x5_25480, .long z25530, pm_no, .int z30817, .long z30638, pm_no, .int z30704] [] _ _
                                  refine pm_R_br pm_M226 (pc' := 33) (pm_q226_1 (Nat.le_of_ble_eq_true rfl)) rfl ?_
                                  exact ih_30572 _ (sf_up hN_30572 e30818 B30581 (by decide) (by decide)) h30813 m_30572 w_30572 z30817 (.long z30638) (pm_no) (.int z30704) T30814 F30816 W_30572 (sf_weak B30819 (by decide) (by decide)) rfl rfl rfl
                                · have B30820 : sf_B (-2147483648) (-1) z30809 := sf_ltL (Int32.not_le.mp c30811) (sf_any z30809) sf_k0
                                  have k30821 := sf_lneB e30810 B30820 (by decide)
                                  refine pm_R_lo pm_M213 (pc' := 11) rfl rfl rfl ?_
                                  refine pm_R_lo pm_M213 (pc' := 12) rfl rfl rfl ?_
                                  refine sf_R_lany pm_M213 (pc' := 13) (st := []) rfl rfl rfl (fun z30822 => ?_)
                                  refine pm_R_br pm_M213 (pc' := 19) rfl rfl ?_
                                  refine pm_R_ret pm_M213 (r := some (.long z30822)) rfl rfl ?_
                                  show pm_R _ 226 137 [.ref 41, .int a0, .int a1, .int a2, .int a3, .int x5_25480, .long z25530, pm_no, .int x8_30572, .long z30638, pm_no, .int z30704] [.long z30822, .int z30704, .ref 56] _ _
                                  refine rf_R_lst pm_M226 T_30572 (pc' := 138) (pm_q226_1 (Nat.le_of_ble_eq_true rfl)) e30636 (by decide) (by decide) (sf_in B30706 (by decide) (by decide)) ⟨_, rfl⟩ rfl (fun h30823 T30824 F30825 => ?_)
                                  have F30826 := F_30572.trans F30825
                                  refine sf_R_iinc pm_M226 (pc' := 141) (ls' := fun z => [.ref 41, .int a0, .int a1, .int a2, .int a3, .int x5_25480, .long z25530, pm_no, .int z, .long z30638, pm_no, .int z30704]) (pm_q226_1 (Nat.le_of_ble_eq_true rfl)) B30581 rfl (by decide) (by decide) (by decide) (fun _ => rfl) rfl (fun z30827 e30828 B30829 => ?_)
                                  show pm_R _ 226 141 [.ref 41, .int a0, .int a1, .int a2, .int a3, .int x5_25480, .long z25530, pm_no, .int z30827, .long z30638, pm_no, .int z30704] [] _ _
                                  refine pm_R_br pm_M226 (pc' := 33) (pm_q226_1 (Nat.le_of_ble_eq_true rfl)) rfl ?_
                                  exact ih_30572 _ (sf_up hN_30572 e30828 B30581 (by decide) (by decide)) h30823 m_30572 w_30572 z30827 (.long z30638) (pm_no) (.int z30704) T30824 F30826 W_30572 (sf_weak B30829 (by decide) (by decide)) rfl rfl rfl
                            · have B30830 : sf_B 1 2147483647 z30773 := sf_ltR (Int32.not_le.mp c30775) sf_k0 (sf_any z30773)
                              have k30831 := sf_lneA e30774 B30830 (by decide)
                              refine pm_R_ldc2 pm_M212 (pc' := 19) rfl rfl rfl ?_
                              refine pm_R_br pm_M212 (pc' := 29) rfl rfl ?_
                              refine pm_R_ret pm_M212 (r := some (.long 1000000000000)) rfl rfl ?_
                              show pm_R _ 226 134 [.ref 41, .int a0, .int a1, .int a2, .int a3, .int x5_25480, .long z25530, pm_no, .int x8_30572, .long z30638, pm_no, .int z30704] [.long 1000000000000, .long z30711, .int z30704, .ref 56] _ _
                              refine pm_R_cs pm_M226 (pc' := 137) (ra := [.long 1000000000000, .long z30711]) (rest := [.int z30704, .ref 56]) (ls' := [.long z30711, pm_no, .long 1000000000000, pm_no]) (pm_q226_1 (Nat.le_of_ble_eq_true rfl)) rfl (Or.inl rfl) pm_M213 rfl rfl (Nat.le_of_ble_eq_true rfl) rfl rfl ?_
                              refine pm_R_lo pm_M213 (pc' := 1) rfl rfl rfl ?_
                              refine pm_R_lo pm_M213 (pc' := 2) rfl rfl rfl ?_
                              refine sf_R_lany pm_M213 (pc' := 3) (st := []) rfl rfl rfl (fun z30832 => ?_)
                              refine pm_R_ldc2 pm_M213 (pc' := 6) rfl rfl rfl ?_
                              refine sf_R_lcmp pm_M213 (pc' := 7) rfl rfl (fun z30833 e30834 => ?_)
                              refine pm_R_ifc pm_M213 (t := 16) (pc' := 10) rfl rfl rfl (fun c30835 => ?_) (fun c30835 => ?_)
                              · have B30836 : sf_B 0 2147483647 z30833 := sf_leR c30835 sf_k0 (sf_any z30833)
                                refine pm_R_ldc2 pm_M213 (pc' := 19) rfl rfl rfl ?_
                                refine pm_R_ret pm_M213 (r := some (.long 1000000000000)) rfl rfl ?_
                                show pm_R _ 226 137 [.ref 41, .int a0, .int a1, .int a2, .int a3, .int x5_25480, .long z25530, pm_no, .int x8_30572, .long z30638, pm_no, .int z30704] [.long 1000000000000, .int z30704, .ref 56] _ _
                                refine rf_R_lst pm_M226 T_30572 (pc' := 138) (pm_q226_1 (Nat.le_of_ble_eq_true rfl)) e30636 (by decide) (by decide) (sf_in B30706 (by decide) (by decide)) ⟨_, rfl⟩ rfl (fun h30837 T30838 F30839 => ?_)
                                have F30840 := F_30572.trans F30839
                                refine sf_R_iinc pm_M226 (pc' := 141) (ls' := fun z => [.ref 41, .int a0, .int a1, .int a2, .int a3, .int x5_25480, .long z25530, pm_no, .int z, .long z30638, pm_no, .int z30704]) (pm_q226_1 (Nat.le_of_ble_eq_true rfl)) B30581 rfl (by decide) (by decide) (by decide) (fun _ => rfl) rfl (fun z30841 e30842 B30843 => ?_)
                                show pm_R _ 226 141 [.ref 41, .int a0, .int a1, .int a2, .int a3, .int x5_25480, .long z25530, pm_no, .int z30841, .long z30638, pm_no, .int z30704] [] _ _
                                refine pm_R_br pm_M226 (pc' := 33) (pm_q226_1 (Nat.le_of_ble_eq_true rfl)) rfl ?_
                                exact ih_30572 _ (sf_up hN_30572 e30842 B30581 (by decide) (by decide)) h30837 m_30572 w_30572 z30841 (.long z30638) (pm_no) (.int z30704) T30838 F30840 W_30572 (sf_weak B30843 (by decide) (by decide)) rfl rfl rfl
                              · have B30844 : sf_B (-2147483648) (-1) z30833 := sf_ltL (Int32.not_le.mp c30835) (sf_any z30833) sf_k0
                                have k30845 := sf_lneB e30834 B30844 (by decide)
                                refine pm_R_lo pm_M213 (pc' := 11) rfl rfl rfl ?_
                                refine pm_R_lo pm_M213 (pc' := 12) rfl rfl rfl ?_
                                refine sf_R_lany pm_M213 (pc' := 13) (st := []) rfl rfl rfl (fun z30846 => ?_)
                                refine pm_R_br pm_M213 (pc' := 19) rfl rfl ?_
                                refine pm_R_ret pm_M213 (r := some (.long z30846)) rfl rfl ?_
                                show pm_R _ 226 137 [.ref 41, .int a0, .int a1, .int a2, .int a3, .int x5_25480, .long z25530, pm_no, .int x8_30572, .long z30638, pm_no, .int z30704] [.long z30846, .int z30704, .ref 56] _ _
                                refine rf_R_lst pm_M226 T_30572 (pc' := 138) (pm_q226_1 (Nat.le_of_ble_eq_true rfl)) e30636 (by decide) (by decide) (sf_in B30706 (by decide) (by decide)) ⟨_, rfl⟩ rfl (fun h30847 T30848 F30849 => ?_)
                                have F30850 := F_30572.trans F30849
                                refine sf_R_iinc pm_M226 (pc' := 141) (ls' := fun z => [.ref 41, .int a0, .int a1, .int a2, .int a3, .int x5_25480, .long z25530, pm_no, .int z, .long z30638, pm_no, .int z30704]) (pm_q226_1 (Nat.le_of_ble_eq_true rfl)) B30581 rfl (by decide) (by decide) (by decide) (fun _ => rfl) rfl (fun z30851 e30852 B30853 => ?_)
                                show pm_R _ 226 141 [.ref 41, .int a0, .int a1, .int a2, .int a3, .int x5_25480, .long z25530, pm_no, .int z30851, .long z30638, pm_no, .int z30704] [] _ _
                                refine pm_R_br pm_M226 (pc' := 33) (pm_q226_1 (Nat.le_of_ble_eq_true rfl)) rfl ?_
                                exact ih_30572 _ (sf_up hN_30572 e30852 B30581 (by decide) (by decide)) h30847 m_30572 w_30572 z30851 (.long z30638) (pm_no) (.int z30704) T30848 F30850 W_30572 (sf_weak B30853 (by decide) (by decide)) rfl rfl rfl
                        · have B30854 : sf_B 0 0 z30707 := sf_eqL (Classical.not_not.mp c30709) sf_k0
                          refine pm_R_lo pm_M226 (pc' := 111) (pm_q226_1 (Nat.le_of_ble_eq_true rfl)) rfl rfl ?_
                          refine rf_R_get pm_M226 T_30572 (pc' := 114) (v := .ref 56) (pm_q226_1 (Nat.le_of_ble_eq_true rfl)) rfl rfl rfl ?_
                          refine pm_R_lo pm_M226 (pc' := 116) (pm_q226_1 (Nat.le_of_ble_eq_true rfl)) rfl rfl ?_
                          refine rf_R_lld pm_M226 T_30572 (pc' := 117) (pm_q226_1 (Nat.le_of_ble_eq_true rfl)) e30636 (by decide) (by decide) (sf_in B30706 (by decide) (by decide)) rfl (fun z30855 ez30856 => ?_)
                          refine pm_R_br pm_M226 (pc' := 137) (pm_q226_1 (Nat.le_of_ble_eq_true rfl)) rfl ?_
                          refine rf_R_lst pm_M226 T_30572 (pc' := 138) (pm_q226_1 (Nat.le_of_ble_eq_true rfl)) e30636 (by decide) (by decide) (sf_in B30706 (by decide) (by decide)) ⟨_, rfl⟩ rfl (fun h30857 T30858 F30859 => ?_)
                          have F30860 := F_30572.trans F30859
                          refine sf_R_iinc pm_M226 (pc' := 141) (ls' := fun z => [.ref 41, .int a0, .int a1, .int a2, .int a3, .int x5_25480, .long z25530, pm_no, .int z, .long z30638, pm_no, .int z30704]) (pm_q226_1 (Nat.le_of_ble_eq_true rfl)) B30581 rfl (by decide) (by decide) (by decide) (fun _ => rfl) rfl (fun z30861 e30862 B30863 => ?_)
                          show pm_R _ 226 141 [.ref 41, .int a0, .int a1, .int a2, .int a3, .int x5_25480, .long z25530, pm_no, .int z30861, .long z30638, pm_no, .int z30704] [] _ _
                          refine pm_R_br pm_M226 (pc' := 33) (pm_q226_1 (Nat.le_of_ble_eq_true rfl)) rfl ?_
                          exact ih_30572 _ (sf_up hN_30572 e30862 B30581 (by decide) (by decide)) h30857 m_30572 w_30572 z30861 (.long z30638) (pm_no) (.int z30704) T30858 F30860 W_30572 (sf_weak B30863 (by decide) (by decide)) rfl rfl rfl
                      · have B30864 : sf_B 3 3 z30674 := sf_eqL (Classical.not_not.mp c30684) sf_k3
                        refine pm_R_lo pm_M227 (pc' := 37) rfl rfl rfl ?_
                        refine pm_R_lo pm_M227 (pc' := 38) rfl rfl rfl ?_
                        refine sf_R_isub pm_M227 (pc' := 39) rfl rfl B25485 B30581 (by decide) (by decide) (fun z30865 e30866 B30867 => ?_)
                        refine pm_R_op pm_M227 (pc' := 41) (st' := [.int 50, .int z30865]) rfl rfl rfl ?_
                        refine sf_R_iadd pm_M227 (pc' := 42) rfl rfl B30867 sf_k50 (by decide) (by decide) (fun z30868 e30869 B30870 => ?_)
                        refine pm_R_op pm_M227 (pc' := 44) (st' := [.int 50, .int z30868]) rfl rfl rfl ?_
                        refine sf_R_irem pm_M227 (pc' := 45) rfl rfl B30870 sf_k50 (by decide) (by decide) (fun z30871 e30872 B30873 => ?_)
                        refine pm_R_br pm_M227 (pc' := 52) rfl rfl ?_
                        refine pm_R_ret pm_M227 (r := some (.int z30871)) rfl (pm_ret_i _) ?_
                        show pm_R _ 226 92 [.ref 41, .int a0, .int a1, .int a2, .int a3, .int x5_25480, .long z25530, pm_no, .int x8_30572, .long z30638, pm_no, g11_30572] [.int z30871, .int a3, .int a1, .int z30655] _ _
                        refine pm_R_cs pm_M226 (pc' := 95) (ra := [.int z30871, .int a3, .int a1, .int z30655]) (rest := []) (ls' := [.int z30655, .int a1, .int a3, .int z30871]) rfl rfl (Or.inl rfl) pm_M225 rfl rfl (Nat.le_of_ble_eq_true rfl) rfl rfl ?_
                        refine pm_R_op pm_M225 (pc' := 2) (st' := [.int 50]) rfl rfl rfl ?_
                        refine pm_R_lo pm_M225 (pc' := 3) rfl rfl rfl ?_
                        refine pm_R_lo pm_M225 (pc' := 4) rfl rfl rfl ?_
                        refine pm_R_lo pm_M225 (pc' := 5) rfl rfl rfl ?_
                        refine pm_R_cs pm_M225 (pc' := 8) (ra := [.int a3, .int a1, .int z30655]) (rest := [.int 50]) (ls' := [.int z30655, .int a1, .int a3]) rfl rfl (Or.inl rfl) pm_M207 rfl rfl (Nat.le_of_ble_eq_true rfl) rfl rfl ?_
                        refine pm_R_op pm_M207 (pc' := 3) (st' := [.int 144]) rfl rfl rfl ?_
                        refine pm_R_lo pm_M207 (pc' := 4) rfl rfl rfl ?_
                        refine sf_R_imul pm_M207 (pc' := 5) rfl rfl sf_k144 B30658 (by decide) (by decide) (by decide) (fun z30874 e30875 B30876 => ?_)
                        refine pm_R_op pm_M207 (pc' := 7) (st' := [.int 12, .int z30874]) rfl rfl rfl ?_
                        refine pm_R_lo pm_M207 (pc' := 8) rfl rfl rfl ?_
                        refine sf_R_imul pm_M207 (pc' := 9) rfl rfl sf_k12 Ba1 (by decide) (by decide) (by decide) (fun z30877 e30878 B30879 => ?_)
                        refine sf_R_iadd pm_M207 (pc' := 10) rfl rfl B30876 B30879 (by decide) (by decide) (fun z30880 e30881 B30882 => ?_)
                        refine pm_R_lo pm_M207 (pc' := 11) rfl rfl rfl ?_
                        refine sf_R_iadd pm_M207 (pc' := 12) rfl rfl B30882 Ba3 (by decide) (by decide) (fun z30883 e30884 B30885 => ?_)
                        refine pm_R_ret pm_M207 (r := some (.int z30883)) rfl (pm_ret_i _) ?_
                        show pm_R _ 225 8 [.int z30655, .int a1, .int a3, .int z30871] [.int z30883, .int 50] _ _
                        refine sf_R_imul pm_M225 (pc' := 9) rfl rfl sf_k50 B30885 (by decide) (by decide) (by decide) (fun z30886 e30887 B30888 => ?_)
                        refine pm_R_lo pm_M225 (pc' := 10) rfl rfl rfl ?_
                        refine sf_R_iadd pm_M225 (pc' := 11) rfl rfl B30888 B30873 (by decide) (by decide) (fun z30889 e30890 B30891 => ?_)
                        refine pm_R_ret pm_M225 (r := some (.int z30889)) rfl (pm_ret_i _) ?_
                        show pm_R _ 226 95 [.ref 41, .int a0, .int a1, .int a2, .int a3, .int x5_25480, .long z25530, pm_no, .int x8_30572, .long z30638, pm_no, g11_30572] [.int z30889] _ _
                        refine pm_R_lo pm_M226 (pc' := 97) (ls' := [.ref 41, .int a0, .int a1, .int a2, .int a3, .int x5_25480, .long z25530, pm_no, .int x8_30572, .long z30638, pm_no, .int z30889]) (st' := []) rfl rfl rfl ?_
                        refine pm_R_lo pm_M226 (pc' := 98) rfl rfl rfl ?_
                        refine rf_R_get pm_M226 T_30572 (pc' := 101) (v := .ref 56) rfl rfl rfl rfl ?_
                        refine pm_R_lo pm_M226 (pc' := 103) rfl rfl rfl ?_
                        refine pm_R_lo pm_M226 (pc' := 105) rfl rfl rfl ?_
                        refine pm_R_op pm_M226 (pc' := 106) (st' := [.long 0, .long z30638, .int z30889, .ref 56]) rfl rfl rfl ?_
                        refine sf_R_lcmp pm_M226 (pc' := 107) (pm_q226_1 (Nat.le_of_ble_eq_true rfl)) rfl (fun z30892 e30893 => ?_)
                        refine pm_R_ifc pm_M226 (t := 120) (pc' := 110) (pm_q226_1 (Nat.le_of_ble_eq_true rfl)) rfl rfl (fun c30894 => ?_) (fun c30894 => ?_)
                        · have k30895 := sf_lneC e30893 c30894
                          refine pm_R_lo pm_M226 (pc' := 121) (pm_q226_1 (Nat.le_of_ble_eq_true rfl)) rfl rfl ?_
                          refine rf_R_get pm_M226 T_30572 (pc' := 124) (v := .ref 56) (pm_q226_1 (Nat.le_of_ble_eq_true rfl)) rfl rfl rfl ?_
                          refine pm_R_lo pm_M226 (pc' := 126) (pm_q226_1 (Nat.le_of_ble_eq_true rfl)) rfl rfl ?_
                          refine rf_R_lld pm_M226 T_30572 (pc' := 127) (pm_q226_1 (Nat.le_of_ble_eq_true rfl)) e30636 (by decide) (by decide) (sf_in B30891 (by decide) (by decide)) rfl (fun z30896 ez30897 => ?_)
                          refine pm_R_lo pm_M226 (pc' := 129) (pm_q226_1 (Nat.le_of_ble_eq_true rfl)) rfl rfl ?_
                          refine pm_R_lo pm_M226 (pc' := 131) (pm_q226_1 (Nat.le_of_ble_eq_true rfl)) rfl rfl ?_
                          refine pm_R_cs pm_M226 (pc' := 134) (ra := [.long z30638, .long z25530]) (rest := [.long z30896, .int z30889, .ref 56]) (ls' := [.long z25530, pm_no, .long z30638, pm_no]) (pm_q226_1 (Nat.le_of_ble_eq_true rfl)) rfl (Or.inl rfl) pm_M212 rfl rfl (Nat.le_of_ble_eq_true rfl) rfl rfl ?_
                          refine pm_R_lo pm_M212 (pc' := 1) rfl rfl rfl ?_
                          refine pm_R_op pm_M212 (pc' := 2) (st' := [.long 0, .long z30638]) rfl rfl rfl ?_
                          refine sf_R_lcmp pm_M212 (pc' := 3) rfl rfl (fun z30898 e30899 => ?_)
                          refine pm_R_ifc pm_M212 (t := 22) (pc' := 6) rfl rfl rfl (fun c30900 => ?_) (fun c30900 => ?_)
                          · have B30901 : sf_B (-2147483648) 0 z30898 := sf_leL c30900 (sf_any z30898) sf_k0
                            refine pm_R_lo pm_M212 (pc' := 23) rfl rfl rfl ?_
                            refine pm_R_lo pm_M212 (pc' := 24) rfl rfl rfl ?_
                            refine sf_R_lany pm_M212 (pc' := 25) (st := []) rfl rfl rfl (fun z30902 => ?_)
                            refine pm_R_op pm_M212 (pc' := 26) (st' := [.long 0, .long z30902]) rfl rfl rfl ?_
                            refine pm_R_cs pm_M212 (pc' := 29) (ra := [.long 0, .long z30902]) (rest := []) (ls' := [.long z30902, pm_no, .long 0, pm_no]) rfl rfl (Or.inl rfl) pm_M213 rfl rfl (Nat.le_of_ble_eq_true rfl) rfl rfl ?_
                            refine pm_R_lo pm_M213 (pc' := 1) rfl rfl rfl ?_
                            refine pm_R_lo pm_M213 (pc' := 2) rfl rfl rfl ?_
                            refine sf_R_lany pm_M213 (pc' := 3) (st := []) rfl rfl rfl (fun z30903 => ?_)
                            refine pm_R_ldc2 pm_M213 (pc' := 6) rfl rfl rfl ?_
                            refine sf_R_lcmp pm_M213 (pc' := 7) rfl rfl (fun z30904 e30905 => ?_)
                            refine pm_R_ifc pm_M213 (t := 16) (pc' := 10) rfl rfl rfl (fun c30906 => ?_) (fun c30906 => ?_)
                            · have B30907 : sf_B 0 2147483647 z30904 := sf_leR c30906 sf_k0 (sf_any z30904)
                              refine pm_R_ldc2 pm_M213 (pc' := 19) rfl rfl rfl ?_
                              refine pm_R_ret pm_M213 (r := some (.long 1000000000000)) rfl rfl ?_
                              show pm_R _ 212 29 [.long z25530, pm_no, .long z30638, pm_no] [.long 1000000000000] _ _
                              refine pm_R_ret pm_M212 (r := some (.long 1000000000000)) rfl rfl ?_
                              show pm_R _ 226 134 [.ref 41, .int a0, .int a1, .int a2, .int a3, .int x5_25480, .long z25530, pm_no, .int x8_30572, .long z30638, pm_no, .int z30889] [.long 1000000000000, .long z30896, .int z30889, .ref 56] _ _
                              refine pm_R_cs pm_M226 (pc' := 137) (ra := [.long 1000000000000, .long z30896]) (rest := [.int z30889, .ref 56]) (ls' := [.long z30896, pm_no, .long 1000000000000, pm_no]) (pm_q226_1 (Nat.le_of_ble_eq_true rfl)) rfl (Or.inl rfl) pm_M213 rfl rfl (Nat.le_of_ble_eq_true rfl) rfl rfl ?_
                              refine pm_R_lo pm_M213 (pc' := 1) rfl rfl rfl ?_
                              refine pm_R_lo pm_M213 (pc' := 2) rfl rfl rfl ?_
                              refine sf_R_lany pm_M213 (pc' := 3) (st := []) rfl rfl rfl (fun z30908 => ?_)
                              refine pm_R_ldc2 pm_M213 (pc' := 6) rfl rfl rfl ?_
                              refine sf_R_lcmp pm_M213 (pc' := 7) rfl rfl (fun z30909 e30910 => ?_)
                              refine pm_R_ifc pm_M213 (t := 16) (pc' := 10) rfl rfl rfl (fun c30911 => ?_) (fun c30911 => ?_)
                              · have B30912 : sf_B 0 2147483647 z30909 := sf_leR c30911 sf_k0 (sf_any z30909)
                                refine pm_R_ldc2 pm_M213 (pc' := 19) rfl rfl rfl ?_
                                refine pm_R_ret pm_M213 (r := some (.long 1000000000000)) rfl rfl ?_
                                show pm_R _ 226 137 [.ref 41, .int a0, .int a1, .int a2, .int a3, .int x5_25480, .long z25530, pm_no, .int x8_30572, .long z30638, pm_no, .int z30889] [.long 1000000000000, .int z30889, .ref 56] _ _
                                refine rf_R_lst pm_M226 T_30572 (pc' := 138) (pm_q226_1 (Nat.le_of_ble_eq_true rfl)) e30636 (by decide) (by decide) (sf_in B30891 (by decide) (by decide)) ⟨_, rfl⟩ rfl (fun h30913 T30914 F30915 => ?_)
                                have F30916 := F_30572.trans F30915
                                refine sf_R_iinc pm_M226 (pc' := 141) (ls' := fun z => [.ref 41, .int a0, .int a1, .int a2, .int a3, .int x5_25480, .long z25530, pm_no, .int z, .long z30638, pm_no, .int z30889]) (pm_q226_1 (Nat.le_of_ble_eq_true rfl)) B30581 rfl (by decide) (by decide) (by decide) (fun _ => rfl) rfl (fun z30917 e30918 B30919 => ?_)
                                show pm_R _ 226 141 [.ref 41, .int a0, .int a1, .int a2, .int a3, .int x5_25480, .long z25530, pm_no, .int z30917, .long z30638, pm_no, .int z30889] [] _ _
                                refine pm_R_br pm_M226 (pc' := 33) (pm_q226_1 (Nat.le_of_ble_eq_true rfl)) rfl ?_
                                exact ih_30572 _ (sf_up hN_30572 e30918 B30581 (by decide) (by decide)) h30913 m_30572 w_30572 z30917 (.long z30638) (pm_no) (.int z30889) T30914 F30916 W_30572 (sf_weak B30919 (by decide) (by decide)) rfl rfl rfl
                              · have B30920 : sf_B (-2147483648) (-1) z30909 := sf_ltL (Int32.not_le.mp c30911) (sf_any z30909) sf_k0
                                have k30921 := sf_lneB e30910 B30920 (by decide)
                                refine pm_R_lo pm_M213 (pc' := 11) rfl rfl rfl ?_
                                refine pm_R_lo pm_M213 (pc' := 12) rfl rfl rfl ?_
                                refine sf_R_lany pm_M213 (pc' := 13) (st := []) rfl rfl rfl (fun z30922 => ?_)
                                refine pm_R_br pm_M213 (pc' := 19) rfl rfl ?_
                                refine pm_R_ret pm_M213 (r := some (.long z30922)) rfl rfl ?_
                                show pm_R _ 226 137 [.ref 41, .int a0, .int a1, .int a2, .int a3, .int x5_25480, .long z25530, pm_no, .int x8_30572, .long z30638, pm_no, .int z30889] [.long z30922, .int z30889, .ref 56] _ _
                                refine rf_R_lst pm_M226 T_30572 (pc' := 138) (pm_q226_1 (Nat.le_of_ble_eq_true rfl)) e30636 (by decide) (by decide) (sf_in B30891 (by decide) (by decide)) ⟨_, rfl⟩ rfl (fun h30923 T30924 F30925 => ?_)
                                have F30926 := F_30572.trans F30925
                                refine sf_R_iinc pm_M226 (pc' := 141) (ls' := fun z => [.ref 41, .int a0, .int a1, .int a2, .int a3, .int x5_25480, .long z25530, pm_no, .int z, .long z30638, pm_no, .int z30889]) (pm_q226_1 (Nat.le_of_ble_eq_true rfl)) B30581 rfl (by decide) (by decide) (by decide) (fun _ => rfl) rfl (fun z30927 e30928 B30929 => ?_)
                                show pm_R _ 226 141 [.ref 41, .int a0, .int a1, .int a2, .int a3, .int x5_25480, .long z25530, pm_no, .int z30927, .long z30638, pm_no, .int z30889] [] _ _
                                refine pm_R_br pm_M226 (pc' := 33) (pm_q226_1 (Nat.le_of_ble_eq_true rfl)) rfl ?_
                                exact ih_30572 _ (sf_up hN_30572 e30928 B30581 (by decide) (by decide)) h30923 m_30572 w_30572 z30927 (.long z30638) (pm_no) (.int z30889) T30924 F30926 W_30572 (sf_weak B30929 (by decide) (by decide)) rfl rfl rfl
                            · have B30930 : sf_B (-2147483648) (-1) z30904 := sf_ltL (Int32.not_le.mp c30906) (sf_any z30904) sf_k0
                              have k30931 := sf_lneB e30905 B30930 (by decide)
                              refine pm_R_lo pm_M213 (pc' := 11) rfl rfl rfl ?_
                              refine pm_R_lo pm_M213 (pc' := 12) rfl rfl rfl ?_
                              refine sf_R_lany pm_M213 (pc' := 13) (st := []) rfl rfl rfl (fun z30932 => ?_)
                              refine pm_R_br pm_M213 (pc' := 19) rfl rfl ?_
                              refine pm_R_ret pm_M213 (r := some (.long z30932)) rfl rfl ?_
                              show pm_R _ 212 29 [.long z25530, pm_no, .long z30638, pm_no] [.long z30932] _ _
                              refine pm_R_ret pm_M212 (r := some (.long z30932)) rfl rfl ?_
                              show pm_R _ 226 134 [.ref 41, .int a0, .int a1, .int a2, .int a3, .int x5_25480, .long z25530, pm_no, .int x8_30572, .long z30638, pm_no, .int z30889] [.long z30932, .long z30896, .int z30889, .ref 56] _ _
                              refine pm_R_cs pm_M226 (pc' := 137) (ra := [.long z30932, .long z30896]) (rest := [.int z30889, .ref 56]) (ls' := [.long z30896, pm_no, .long z30932, pm_no]) (pm_q226_1 (Nat.le_of_ble_eq_true rfl)) rfl (Or.inl rfl) pm_M213 rfl rfl (Nat.le_of_ble_eq_true rfl) rfl rfl ?_
                              refine pm_R_lo pm_M213 (pc' := 1) rfl rfl rfl ?_
                              refine pm_R_lo pm_M213 (pc' := 2) rfl rfl rfl ?_
                              refine sf_R_lany pm_M213 (pc' := 3) (st := []) rfl rfl rfl (fun z30933 => ?_)
                              refine pm_R_ldc2 pm_M213 (pc' := 6) rfl rfl rfl ?_
                              refine sf_R_lcmp pm_M213 (pc' := 7) rfl rfl (fun z30934 e30935 => ?_)
                              refine pm_R_ifc pm_M213 (t := 16) (pc' := 10) rfl rfl rfl (fun c30936 => ?_) (fun c30936 => ?_)
                              · have B30937 : sf_B 0 2147483647 z30934 := sf_leR c30936 sf_k0 (sf_any z30934)
                                refine pm_R_ldc2 pm_M213 (pc' := 19) rfl rfl rfl ?_
                                refine pm_R_ret pm_M213 (r := some (.long 1000000000000)) rfl rfl ?_
                                show pm_R _ 226 137 [.ref 41, .int a0, .int a1, .int a2, .int a3, .int x5_25480, .long z25530, pm_no, .int x8_30572, .long z30638, pm_no, .int z30889] [.long 1000000000000, .int z30889, .ref 56] _ _
                                refine rf_R_lst pm_M226 T_30572 (pc' := 138) (pm_q226_1 (Nat.le_of_ble_eq_true rfl)) e30636 (by decide) (by decide) (sf_in B30891 (by decide) (by decide)) ⟨_, rfl⟩ rfl (fun h30938 T30939 F30940 => ?_)
                                have F30941 := F_30572.trans F30940
                                refine sf_R_iinc pm_M226 (pc' := 141) (ls' := fun z => [.ref 41, .int a0, .int a1, .int a2, .int a3, .int x5_25480, .long z25530, pm_no, .int z, .long z30638, pm_no, .int z30889]) (pm_q226_1 (Nat.le_of_ble_eq_true rfl)) B30581 rfl (by decide) (by decide) (by decide) (fun _ => rfl) rfl (fun z30942 e30943 B30944 => ?_)
                                show pm_R _ 226 141 [.ref 41, .int a0, .int a1, .int a2, .int a3, .int x5_25480, .long z25530, pm_no, .int z30942, .long z30638, pm_no, .int z30889] [] _ _
                                refine pm_R_br pm_M226 (pc' := 33) (pm_q226_1 (Nat.le_of_ble_eq_true rfl)) rfl ?_
                                exact ih_30572 _ (sf_up hN_30572 e30943 B30581 (by decide) (by decide)) h30938 m_30572 w_30572 z30942 (.long z30638) (pm_no) (.int z30889) T30939 F30941 W_30572 (sf_weak B30944 (by decide) (by decide)) rfl rfl rfl
                              · have B30945 : sf_B (-2147483648) (-1) z30934 := sf_ltL (Int32.not_le.mp c30936) (sf_any z30934) sf_k0
                                have k30946 := sf_lneB e30935 B30945 (by decide)
                                refine pm_R_lo pm_M213 (pc' := 11) rfl rfl rfl ?_
                                refine pm_R_lo pm_M213 (pc' := 12) rfl rfl rfl ?_
                                refine sf_R_lany pm_M213 (pc' := 13) (st := []) rfl rfl rfl (fun z30947 => ?_)
                                refine pm_R_br pm_M213 (pc' := 19) rfl rfl ?_
                                refine pm_R_ret pm_M213 (r := some (.long z30947)) rfl rfl ?_
                                show pm_R _ 226 137 [.ref 41, .int a0, .int a1, .int a2, .int a3, .int x5_25480, .long z25530, pm_no, .int x8_30572, .long z30638, pm_no, .int z30889] [.long z30947, .int z30889, .ref 56] _ _
                                refine rf_R_lst pm_M226 T_30572 (pc' := 138) (pm_q226_1 (Nat.le_of_ble_eq_true rfl)) e30636 (by decide) (by decide) (sf_in B30891 (by decide) (by decide)) ⟨_, rfl⟩ rfl (fun h30948 T30949 F30950 => ?_)
                                have F30951 := F_30572.trans F30950
                                refine sf_R_iinc pm_M226 (pc' := 141) (ls' := fun z => [.ref 41, .int a0, .int a1, .int a2, .int a3, .int x5_25480, .long z25530, pm_no, .int z, .long z30638, pm_no, .int z30889]) (pm_q226_1 (Nat.le_of_ble_eq_true rfl)) B30581 rfl (by decide) (by decide) (by decide) (fun _ => rfl) rfl (fun z30952 e30953 B30954 => ?_)
                                show pm_R _ 226 141 [.ref 41, .int a0, .int a1, .int a2, .int a3, .int x5_25480, .long z25530, pm_no, .int z30952, .long z30638, pm_no, .int z30889] [] _ _
                                refine pm_R_br pm_M226 (pc' := 33) (pm_q226_1 (Nat.le_of_ble_eq_true rfl)) rfl ?_
                                exact ih_30572 _ (sf_up hN_30572 e30953 B30581 (by decide) (by decide)) h30948 m_30572 w_30572 z30952 (.long z30638) (pm_no) (.int z30889) T30949 F30951 W_30572 (sf_weak B30954 (by decide) (by decide)) rfl rfl rfl
                          · have B30955 : sf_B 1 2147483647 z30898 := sf_ltR (Int32.not_le.mp c30900) sf_k0 (sf_any z30898)
                            have k30956 := sf_lneA e30899 B30955 (by decide)
                            refine pm_R_lo pm_M212 (pc' := 7) rfl rfl rfl ?_
                            refine pm_R_ldc2 pm_M212 (pc' := 10) rfl rfl rfl ?_
                            refine pm_R_lo pm_M212 (pc' := 11) rfl rfl rfl ?_
                            refine sf_R_ldivA pm_M212 (pc' := 12) rfl rfl k30956 (fun z30957 => ?_)
                            refine sf_R_lcmp pm_M212 (pc' := 13) rfl rfl (fun z30958 e30959 => ?_)
                            refine pm_R_ifc pm_M212 (t := 22) (pc' := 16) rfl rfl rfl (fun c30960 => ?_) (fun c30960 => ?_)
                            · have B30961 : sf_B (-2147483648) 0 z30958 := sf_leL c30960 (sf_any z30958) sf_k0
                              refine pm_R_lo pm_M212 (pc' := 23) rfl rfl rfl ?_
                              refine pm_R_lo pm_M212 (pc' := 24) rfl rfl rfl ?_
                              refine sf_R_lany pm_M212 (pc' := 25) (st := []) rfl rfl rfl (fun z30962 => ?_)
                              refine pm_R_op pm_M212 (pc' := 26) (st' := [.long 0, .long z30962]) rfl rfl rfl ?_
                              refine pm_R_cs pm_M212 (pc' := 29) (ra := [.long 0, .long z30962]) (rest := []) (ls' := [.long z30962, pm_no, .long 0, pm_no]) rfl rfl (Or.inl rfl) pm_M213 rfl rfl (Nat.le_of_ble_eq_true rfl) rfl rfl ?_
                              refine pm_R_lo pm_M213 (pc' := 1) rfl rfl rfl ?_
                              refine pm_R_lo pm_M213 (pc' := 2) rfl rfl rfl ?_
                              refine sf_R_lany pm_M213 (pc' := 3) (st := []) rfl rfl rfl (fun z30963 => ?_)
                              refine pm_R_ldc2 pm_M213 (pc' := 6) rfl rfl rfl ?_
                              refine sf_R_lcmp pm_M213 (pc' := 7) rfl rfl (fun z30964 e30965 => ?_)
                              refine pm_R_ifc pm_M213 (t := 16) (pc' := 10) rfl rfl rfl (fun c30966 => ?_) (fun c30966 => ?_)
                              · have B30967 : sf_B 0 2147483647 z30964 := sf_leR c30966 sf_k0 (sf_any z30964)
                                refine pm_R_ldc2 pm_M213 (pc' := 19) rfl rfl rfl ?_
                                refine pm_R_ret pm_M213 (r := some (.long 1000000000000)) rfl rfl ?_
                                show pm_R _ 212 29 [.long z25530, pm_no, .long z30638, pm_no] [.long 1000000000000] _ _
                                refine pm_R_ret pm_M212 (r := some (.long 1000000000000)) rfl rfl ?_
                                show pm_R _ 226 134 [.ref 41, .int a0, .int a1, .int a2, .int a3, .int x5_25480, .long z25530, pm_no, .int x8_30572, .long z30638, pm_no, .int z30889] [.long 1000000000000, .long z30896, .int z30889, .ref 56] _ _
                                refine pm_R_cs pm_M226 (pc' := 137) (ra := [.long 1000000000000, .long z30896]) (rest := [.int z30889, .ref 56]) (ls' := [.long z30896, pm_no, .long 1000000000000, pm_no]) (pm_q226_1 (Nat.le_of_ble_eq_true rfl)) rfl (Or.inl rfl) pm_M213 rfl rfl (Nat.le_of_ble_eq_true rfl) rfl rfl ?_
                                refine pm_R_lo pm_M213 (pc' := 1) rfl rfl rfl ?_
                                refine pm_R_lo pm_M213 (pc' := 2) rfl rfl rfl ?_
                                refine sf_R_lany pm_M213 (pc' := 3) (st := []) rfl rfl rfl (fun z30968 => ?_)
                                refine pm_R_ldc2 pm_M213 (pc' := 6) rfl rfl rfl ?_
                                refine sf_R_lcmp pm_M213 (pc' := 7) rfl rfl (fun z30969 e30970 => ?_)
                                refine pm_R_ifc pm_M213 (t := 16) (pc' := 10) rfl rfl rfl (fun c30971 => ?_) (fun c30971 => ?_)
                                · have B30972 : sf_B 0 2147483647 z30969 := sf_leR c30971 sf_k0 (sf_any z30969)
                                  refine pm_R_ldc2 pm_M213 (pc' := 19) rfl rfl rfl ?_
                                  refine pm_R_ret pm_M213 (r := some (.long 1000000000000)) rfl rfl ?_
                                  show pm_R _ 226 137 [.ref 41, .int a0, .int a1, .int a2, .int a3, .int x5_25480, .long z25530, pm_no, .int x8_30572, .long z30638, pm_no, .int z30889] [.long 1000000000000, .int z30889, .ref 56] _ _
                                  refine rf_R_lst pm_M226 T_30572 (pc' := 138) (pm_q226_1 (Nat.le_of_ble_eq_true rfl)) e30636 (by decide) (by decide) (sf_in B30891 (by decide) (by decide)) ⟨_, rfl⟩ rfl (fun h30973 T30974 F30975 => ?_)
                                  have F30976 := F_30572.trans F30975
                                  refine sf_R_iinc pm_M226 (pc' := 141) (ls' := fun z => [.ref 41, .int a0, .int a1, .int a2, .int a3, .int x5_25480, .long z25530, pm_no, .int z, .long z30638, pm_no, .int z30889]) (pm_q226_1 (Nat.le_of_ble_eq_true rfl)) B30581 rfl (by decide) (by decide) (by decide) (fun _ => rfl) rfl (fun z30977 e30978 B30979 => ?_)
                                  show pm_R _ 226 141 [.ref 41, .int a0, .int a1, .int a2, .int a3, .int x5_25480, .long z25530, pm_no, .int z30977, .long z30638, pm_no, .int z30889] [] _ _
                                  refine pm_R_br pm_M226 (pc' := 33) (pm_q226_1 (Nat.le_of_ble_eq_true rfl)) rfl ?_
                                  exact ih_30572 _ (sf_up hN_30572 e30978 B30581 (by decide) (by decide)) h30973 m_30572 w_30572 z30977 (.long z30638) (pm_no) (.int z30889) T30974 F30976 W_30572 (sf_weak B30979 (by decide) (by decide)) rfl rfl rfl
                                · have B30980 : sf_B (-2147483648) (-1) z30969 := sf_ltL (Int32.not_le.mp c30971) (sf_any z30969) sf_k0
                                  have k30981 := sf_lneB e30970 B30980 (by decide)
                                  refine pm_R_lo pm_M213 (pc' := 11) rfl rfl rfl ?_
                                  refine pm_R_lo pm_M213 (pc' := 12) rfl rfl rfl ?_
                                  refine sf_R_lany pm_M213 (pc' := 13) (st := []) rfl rfl rfl (fun z30982 => ?_)
                                  refine pm_R_br pm_M213 (pc' := 19) rfl rfl ?_
                                  refine pm_R_ret pm_M213 (r := some (.long z30982)) rfl rfl ?_
                                  show pm_R _ 226 137 [.ref 41, .int a0, .int a1, .int a2, .int a3, .int x5_25480, .long z25530, pm_no, .int x8_30572, .long z30638, pm_no, .int z30889] [.long z30982, .int z30889, .ref 56] _ _
                                  refine rf_R_lst pm_M226 T_30572 (pc' := 138) (pm_q226_1 (Nat.le_of_ble_eq_true rfl)) e30636 (by decide) (by decide) (sf_in B30891 (by decide) (by decide)) ⟨_, rfl⟩ rfl (fun h30983 T30984 F30985 => ?_)
                                  have F30986 := F_30572.trans F30985
                                  refine sf_R_iinc pm_M226 (pc' := 141) (ls' := fun z => [.ref 41, .int a0, .int a1, .int a2, .int a3, .int x5_25480, .long z25530, pm_no, .int z, .long z30638, pm_no, .int z30889]) (pm_q226_1 (Nat.le_of_ble_eq_true rfl)) B30581 rfl (by decide) (by decide) (by decide) (fun _ => rfl) rfl (fun z30987 e30988 B30989 => ?_)
                                  show pm_R _ 226 141 [.ref 41, .int a0, .int a1, .int a2, .int a3, .int x5_25480, .long z25530, pm_no, .int z30987, .long z30638, pm_no, .int z30889] [] _ _
                                  refine pm_R_br pm_M226 (pc' := 33) (pm_q226_1 (Nat.le_of_ble_eq_true rfl)) rfl ?_
                                  exact ih_30572 _ (sf_up hN_30572 e30988 B30581 (by decide) (by decide)) h30983 m_30572 w_30572 z30987 (.long z30638) (pm_no) (.int z30889) T30984 F30986 W_30572 (sf_weak B30989 (by decide) (by decide)) rfl rfl rfl
                              · have B30990 : sf_B (-2147483648) (-1) z30964 := sf_ltL (Int32.not_le.mp c30966) (sf_any z30964) sf_k0
                                have k30991 := sf_lneB e30965 B30990 (by decide)
                                refine pm_R_lo pm_M213 (pc' := 11) rfl rfl rfl ?_
                                refine pm_R_lo pm_M213 (pc' := 12) rfl rfl rfl ?_
                                refine sf_R_lany pm_M213 (pc' := 13) (st := []) rfl rfl rfl (fun z30992 => ?_)
                                refine pm_R_br pm_M213 (pc' := 19) rfl rfl ?_
                                refine pm_R_ret pm_M213 (r := some (.long z30992)) rfl rfl ?_
                                show pm_R _ 212 29 [.long z25530, pm_no, .long z30638, pm_no] [.long z30992] _ _
                                refine pm_R_ret pm_M212 (r := some (.long z30992)) rfl rfl ?_
                                show pm_R _ 226 134 [.ref 41, .int a0, .int a1, .int a2, .int a3, .int x5_25480, .long z25530, pm_no, .int x8_30572, .long z30638, pm_no, .int z30889] [.long z30992, .long z30896, .int z30889, .ref 56] _ _
                                refine pm_R_cs pm_M226 (pc' := 137) (ra := [.long z30992, .long z30896]) (rest := [.int z30889, .ref 56]) (ls' := [.long z30896, pm_no, .long z30992, pm_no]) (pm_q226_1 (Nat.le_of_ble_eq_true rfl)) rfl (Or.inl rfl) pm_M213 rfl rfl (Nat.le_of_ble_eq_true rfl) rfl rfl ?_
                                refine pm_R_lo pm_M213 (pc' := 1) rfl rfl rfl ?_
                                refine pm_R_lo pm_M213 (pc' := 2) rfl rfl rfl ?_
                                refine sf_R_lany pm_M213 (pc' := 3) (st := []) rfl rfl rfl (fun z30993 => ?_)
                                refine pm_R_ldc2 pm_M213 (pc' := 6) rfl rfl rfl ?_
                                refine sf_R_lcmp pm_M213 (pc' := 7) rfl rfl (fun z30994 e30995 => ?_)
                                refine pm_R_ifc pm_M213 (t := 16) (pc' := 10) rfl rfl rfl (fun c30996 => ?_) (fun c30996 => ?_)
                                · have B30997 : sf_B 0 2147483647 z30994 := sf_leR c30996 sf_k0 (sf_any z30994)
                                  refine pm_R_ldc2 pm_M213 (pc' := 19) rfl rfl rfl ?_
                                  refine pm_R_ret pm_M213 (r := some (.long 1000000000000)) rfl rfl ?_
                                  show pm_R _ 226 137 [.ref 41, .int a0, .int a1, .int a2, .int a3, .int x5_25480, .long z25530, pm_no, .int x8_30572, .long z30638, pm_no, .int z30889] [.long 1000000000000, .int z30889, .ref 56] _ _
                                  refine rf_R_lst pm_M226 T_30572 (pc' := 138) (pm_q226_1 (Nat.le_of_ble_eq_true rfl)) e30636 (by decide) (by decide) (sf_in B30891 (by decide) (by decide)) ⟨_, rfl⟩ rfl (fun h30998 T30999 F31000 => ?_)
                                  have F31001 := F_30572.trans F31000
                                  refine sf_R_iinc pm_M226 (pc' := 141) (ls' := fun z => [.ref 41, .int a0, .int a1, .int a2, .int a3, .int x5_25480, .long z25530, pm_no, .int z, .long z30638, pm_no, .int z30889]) (pm_q226_1 (Nat.le_of_ble_eq_true rfl)) B30581 rfl (by decide) (by decide) (by decide) (fun _ => rfl) rfl (fun z31002 e31003 B31004 => ?_)
                                  show pm_R _ 226 141 [.ref 41, .int a0, .int a1, .int a2, .int a3, .int x5_25480, .long z25530, pm_no, .int z31002, .long z30638, pm_no, .int z30889] [] _ _
                                  refine pm_R_br pm_M226 (pc' := 33) (pm_q226_1 (Nat.le_of_ble_eq_true rfl)) rfl ?_
                                  exact ih_30572 _ (sf_up hN_30572 e31003 B30581 (by decide) (by decide)) h30998 m_30572 w_30572 z31002 (.long z30638) (pm_no) (.int z30889) T30999 F31001 W_30572 (sf_weak B31004 (by decide) (by decide)) rfl rfl rfl
                                · have B31005 : sf_B (-2147483648) (-1) z30994 := sf_ltL (Int32.not_le.mp c30996) (sf_any z30994) sf_k0
                                  have k31006 := sf_lneB e30995 B31005 (by decide)
                                  refine pm_R_lo pm_M213 (pc' := 11) rfl rfl rfl ?_
                                  refine pm_R_lo pm_M213 (pc' := 12) rfl rfl rfl ?_
                                  refine sf_R_lany pm_M213 (pc' := 13) (st := []) rfl rfl rfl (fun z31007 => ?_)
                                  refine pm_R_br pm_M213 (pc' := 19) rfl rfl ?_
                                  refine pm_R_ret pm_M213 (r := some (.long z31007)) rfl rfl ?_
                                  show pm_R _ 226 137 [.ref 41, .int a0, .int a1, .int a2, .int a3, .int x5_25480, .long z25530, pm_no, .int x8_30572, .long z30638, pm_no, .int z30889] [.long z31007, .int z30889, .ref 56] _ _
                                  refine rf_R_lst pm_M226 T_30572 (pc' := 138) (pm_q226_1 (Nat.le_of_ble_eq_true rfl)) e30636 (by decide) (by decide) (sf_in B30891 (by decide) (by decide)) ⟨_, rfl⟩ rfl (fun h31008 T31009 F31010 => ?_)
                                  have F31011 := F_30572.trans F31010
                                  refine sf_R_iinc pm_M226 (pc' := 141) (ls' := fun z => [.ref 41, .int a0, .int a1, .int a2, .int a3, .int x5_25480, .long z25530, pm_no, .int z, .long z30638, pm_no, .int z30889]) (pm_q226_1 (Nat.le_of_ble_eq_true rfl)) B30581 rfl (by decide) (by decide) (by decide) (fun _ => rfl) rfl (fun z31012 e31013 B31014 => ?_)
                                  show pm_R _ 226 141 [.ref 41, .int a0, .int a1, .int a2, .int a3, .int x5_25480, .long z25530, pm_no, .int z31012, .long z30638, pm_no, .int z30889] [] _ _
                                  refine pm_R_br pm_M226 (pc' := 33) (pm_q226_1 (Nat.le_of_ble_eq_true rfl)) rfl ?_
                                  exact ih_30572 _ (sf_up hN_30572 e31013 B30581 (by decide) (by decide)) h31008 m_30572 w_30572 z31012 (.long z30638) (pm_no) (.int z30889) T31009 F31011 W_30572 (sf_weak B31014 (by decide) (by decide)) rfl rfl rfl
                            · have B31015 : sf_B 1 2147483647 z30958 := sf_ltR (Int32.not_le.mp c30960) sf_k0 (sf_any z30958)
                              have k31016 := sf_lneA e30959 B31015 (by decide)
                              refine pm_R_ldc2 pm_M212 (pc' := 19) rfl rfl rfl ?_
                              refine pm_R_br pm_M212 (pc' := 29) rfl rfl ?_
                              refine pm_R_ret pm_M212 (r := some (.long 1000000000000)) rfl rfl ?_
                              show pm_R _ 226 134 [.ref 41, .int a0, .int a1, .int a2, .int a3, .int x5_25480, .long z25530, pm_no, .int x8_30572, .long z30638, pm_no, .int z30889] [.long 1000000000000, .long z30896, .int z30889, .ref 56] _ _
                              refine pm_R_cs pm_M226 (pc' := 137) (ra := [.long 1000000000000, .long z30896]) (rest := [.int z30889, .ref 56]) (ls' := [.long z30896, pm_no, .long 1000000000000, pm_no]) (pm_q226_1 (Nat.le_of_ble_eq_true rfl)) rfl (Or.inl rfl) pm_M213 rfl rfl (Nat.le_of_ble_eq_true rfl) rfl rfl ?_
                              refine pm_R_lo pm_M213 (pc' := 1) rfl rfl rfl ?_
                              refine pm_R_lo pm_M213 (pc' := 2) rfl rfl rfl ?_
                              refine sf_R_lany pm_M213 (pc' := 3) (st := []) rfl rfl rfl (fun z31017 => ?_)
                              refine pm_R_ldc2 pm_M213 (pc' := 6) rfl rfl rfl ?_
                              refine sf_R_lcmp pm_M213 (pc' := 7) rfl rfl (fun z31018 e31019 => ?_)
                              refine pm_R_ifc pm_M213 (t := 16) (pc' := 10) rfl rfl rfl (fun c31020 => ?_) (fun c31020 => ?_)
                              · have B31021 : sf_B 0 2147483647 z31018 := sf_leR c31020 sf_k0 (sf_any z31018)
                                refine pm_R_ldc2 pm_M213 (pc' := 19) rfl rfl rfl ?_
                                refine pm_R_ret pm_M213 (r := some (.long 1000000000000)) rfl rfl ?_
                                show pm_R _ 226 137 [.ref 41, .int a0, .int a1, .int a2, .int a3, .int x5_25480, .long z25530, pm_no, .int x8_30572, .long z30638, pm_no, .int z30889] [.long 1000000000000, .int z30889, .ref 56] _ _
                                refine rf_R_lst pm_M226 T_30572 (pc' := 138) (pm_q226_1 (Nat.le_of_ble_eq_true rfl)) e30636 (by decide) (by decide) (sf_in B30891 (by decide) (by decide)) ⟨_, rfl⟩ rfl (fun h31022 T31023 F31024 => ?_)
                                have F31025 := F_30572.trans F31024
                                refine sf_R_iinc pm_M226 (pc' := 141) (ls' := fun z => [.ref 41, .int a0, .int a1, .int a2, .int a3, .int x5_25480, .long z25530, pm_no, .int z, .long z30638, pm_no, .int z30889]) (pm_q226_1 (Nat.le_of_ble_eq_true rfl)) B30581 rfl (by decide) (by decide) (by decide) (fun _ => rfl) rfl (fun z31026 e31027 B31028 => ?_)
                                show pm_R _ 226 141 [.ref 41, .int a0, .int a1, .int a2, .int a3, .int x5_25480, .long z25530, pm_no, .int z31026, .long z30638, pm_no, .int z30889] [] _ _
                                refine pm_R_br pm_M226 (pc' := 33) (pm_q226_1 (Nat.le_of_ble_eq_true rfl)) rfl ?_
                                exact ih_30572 _ (sf_up hN_30572 e31027 B30581 (by decide) (by decide)) h31022 m_30572 w_30572 z31026 (.long z30638) (pm_no) (.int z30889) T31023 F31025 W_30572 (sf_weak B31028 (by decide) (by decide)) rfl rfl rfl
                              · have B31029 : sf_B (-2147483648) (-1) z31018 := sf_ltL (Int32.not_le.mp c31020) (sf_any z31018) sf_k0
                                have k31030 := sf_lneB e31019 B31029 (by decide)
                                refine pm_R_lo pm_M213 (pc' := 11) rfl rfl rfl ?_
                                refine pm_R_lo pm_M213 (pc' := 12) rfl rfl rfl ?_
                                refine sf_R_lany pm_M213 (pc' := 13) (st := []) rfl rfl rfl (fun z31031 => ?_)
                                refine pm_R_br pm_M213 (pc' := 19) rfl rfl ?_
                                refine pm_R_ret pm_M213 (r := some (.long z31031)) rfl rfl ?_
                                show pm_R _ 226 137 [.ref 41, .int a0, .int a1, .int a2, .int a3, .int x5_25480, .long z25530, pm_no, .int x8_30572, .long z30638, pm_no, .int z30889] [.long z31031, .int z30889, .ref 56] _ _
                                refine rf_R_lst pm_M226 T_30572 (pc' := 138) (pm_q226_1 (Nat.le_of_ble_eq_true rfl)) e30636 (by decide) (by decide) (sf_in B30891 (by decide) (by decide)) ⟨_, rfl⟩ rfl (fun h31032 T31033 F31034 => ?_)
                                have F31035 := F_30572.trans F31034
                                refine sf_R_iinc pm_M226 (pc' := 141) (ls' := fun z => [.ref 41, .int a0, .int a1, .int a2, .int a3, .int x5_25480, .long z25530, pm_no, .int z, .long z30638, pm_no, .int z30889]) (pm_q226_1 (Nat.le_of_ble_eq_true rfl)) B30581 rfl (by decide) (by decide) (by decide) (fun _ => rfl) rfl (fun z31036 e31037 B31038 => ?_)
                                show pm_R _ 226 141 [.ref 41, .int a0, .int a1, .int a2, .int a3, .int x5_25480, .long z25530, pm_no, .int z31036, .long z30638, pm_no, .int z30889] [] _ _
                                refine pm_R_br pm_M226 (pc' := 33) (pm_q226_1 (Nat.le_of_ble_eq_true rfl)) rfl ?_
                                exact ih_30572 _ (sf_up hN_30572 e31037 B30581 (by decide) (by decide)) h31032 m_30572 w_30572 z31036 (.long z30638) (pm_no) (.int z30889) T31033 F31035 W_30572 (sf_weak B31038 (by decide) (by decide)) rfl rfl rfl
                        · have B31039 : sf_B 0 0 z30892 := sf_eqL (Classical.not_not.mp c30894) sf_k0
                          refine pm_R_lo pm_M226 (pc' := 111) (pm_q226_1 (Nat.le_of_ble_eq_true rfl)) rfl rfl ?_
                          refine rf_R_get pm_M226 T_30572 (pc' := 114) (v := .ref 56) (pm_q226_1 (Nat.le_of_ble_eq_true rfl)) rfl rfl rfl ?_
                          refine pm_R_lo pm_M226 (pc' := 116) (pm_q226_1 (Nat.le_of_ble_eq_true rfl)) rfl rfl ?_
                          refine rf_R_lld pm_M226 T_30572 (pc' := 117) (pm_q226_1 (Nat.le_of_ble_eq_true rfl)) e30636 (by decide) (by decide) (sf_in B30891 (by decide) (by decide)) rfl (fun z31040 ez31041 => ?_)
                          refine pm_R_br pm_M226 (pc' := 137) (pm_q226_1 (Nat.le_of_ble_eq_true rfl)) rfl ?_
                          refine rf_R_lst pm_M226 T_30572 (pc' := 138) (pm_q226_1 (Nat.le_of_ble_eq_true rfl)) e30636 (by decide) (by decide) (sf_in B30891 (by decide) (by decide)) ⟨_, rfl⟩ rfl (fun h31042 T31043 F31044 => ?_)
                          have F31045 := F_30572.trans F31044
                          refine sf_R_iinc pm_M226 (pc' := 141) (ls' := fun z => [.ref 41, .int a0, .int a1, .int a2, .int a3, .int x5_25480, .long z25530, pm_no, .int z, .long z30638, pm_no, .int z30889]) (pm_q226_1 (Nat.le_of_ble_eq_true rfl)) B30581 rfl (by decide) (by decide) (by decide) (fun _ => rfl) rfl (fun z31046 e31047 B31048 => ?_)
                          show pm_R _ 226 141 [.ref 41, .int a0, .int a1, .int a2, .int a3, .int x5_25480, .long z25530, pm_no, .int z31046, .long z30638, pm_no, .int z30889] [] _ _
                          refine pm_R_br pm_M226 (pc' := 33) (pm_q226_1 (Nat.le_of_ble_eq_true rfl)) rfl ?_
                          exact ih_30572 _ (sf_up hN_30572 e31047 B30581 (by decide) (by decide)) h31042 m_30572 w_30572 z31046 (.long z30638) (pm_no) (.int z30889) T31043 F31045 W_30572 (sf_weak B31048 (by decide) (by decide)) rfl rfl rfl
                    · have B31049 : sf_B 2 2 z30674 := sf_eqL (Classical.not_not.mp c30682) sf_k2
                      refine pm_R_lo pm_M227 (pc' := 23) rfl rfl rfl ?_
                      refine pm_R_lo pm_M227 (pc' := 24) rfl rfl rfl ?_
                      refine sf_R_iadd pm_M227 (pc' := 25) rfl rfl B25485 B30581 (by decide) (by decide) (fun z31050 e31051 B31052 => ?_)
                      refine pm_R_op pm_M227 (pc' := 27) (st' := [.int 50, .int z31050]) rfl rfl rfl ?_
                      refine sf_R_irem pm_M227 (pc' := 28) rfl rfl B31052 sf_k50 (by decide) (by decide) (fun z31053 e31054 B31055 => ?_)
                      refine pm_R_br pm_M227 (pc' := 52) rfl rfl ?_
                      refine pm_R_ret pm_M227 (r := some (.int z31053)) rfl (pm_ret_i _) ?_
                      show pm_R _ 226 92 [.ref 41, .int a0, .int a1, .int a2, .int a3, .int x5_25480, .long z25530, pm_no, .int x8_30572, .long z30638, pm_no, g11_30572] [.int z31053, .int a3, .int a1, .int z30655] _ _
                      refine pm_R_cs pm_M226 (pc' := 95) (ra := [.int z31053, .int a3, .int a1, .int z30655]) (rest := []) (ls' := [.int z30655, .int a1, .int a3, .int z31053]) rfl rfl (Or.inl rfl) pm_M225 rfl rfl (Nat.le_of_ble_eq_true rfl) rfl rfl ?_
                      refine pm_R_op pm_M225 (pc' := 2) (st' := [.int 50]) rfl rfl rfl ?_
                      refine pm_R_lo pm_M225 (pc' := 3) rfl rfl rfl ?_
                      refine pm_R_lo pm_M225 (pc' := 4) rfl rfl rfl ?_
                      refine pm_R_lo pm_M225 (pc' := 5) rfl rfl rfl ?_
                      refine pm_R_cs pm_M225 (pc' := 8) (ra := [.int a3, .int a1, .int z30655]) (rest := [.int 50]) (ls' := [.int z30655, .int a1, .int a3]) rfl rfl (Or.inl rfl) pm_M207 rfl rfl (Nat.le_of_ble_eq_true rfl) rfl rfl ?_
                      refine pm_R_op pm_M207 (pc' := 3) (st' := [.int 144]) rfl rfl rfl ?_
                      refine pm_R_lo pm_M207 (pc' := 4) rfl rfl rfl ?_
                      refine sf_R_imul pm_M207 (pc' := 5) rfl rfl sf_k144 B30658 (by decide) (by decide) (by decide) (fun z31056 e31057 B31058 => ?_)
                      refine pm_R_op pm_M207 (pc' := 7) (st' := [.int 12, .int z31056]) rfl rfl rfl ?_
                      refine pm_R_lo pm_M207 (pc' := 8) rfl rfl rfl ?_
                      refine sf_R_imul pm_M207 (pc' := 9) rfl rfl sf_k12 Ba1 (by decide) (by decide) (by decide) (fun z31059 e31060 B31061 => ?_)
                      refine sf_R_iadd pm_M207 (pc' := 10) rfl rfl B31058 B31061 (by decide) (by decide) (fun z31062 e31063 B31064 => ?_)
                      refine pm_R_lo pm_M207 (pc' := 11) rfl rfl rfl ?_
                      refine sf_R_iadd pm_M207 (pc' := 12) rfl rfl B31064 Ba3 (by decide) (by decide) (fun z31065 e31066 B31067 => ?_)
                      refine pm_R_ret pm_M207 (r := some (.int z31065)) rfl (pm_ret_i _) ?_
                      show pm_R _ 225 8 [.int z30655, .int a1, .int a3, .int z31053] [.int z31065, .int 50] _ _
                      refine sf_R_imul pm_M225 (pc' := 9) rfl rfl sf_k50 B31067 (by decide) (by decide) (by decide) (fun z31068 e31069 B31070 => ?_)
                      refine pm_R_lo pm_M225 (pc' := 10) rfl rfl rfl ?_
                      refine sf_R_iadd pm_M225 (pc' := 11) rfl rfl B31070 B31055 (by decide) (by decide) (fun z31071 e31072 B31073 => ?_)
                      refine pm_R_ret pm_M225 (r := some (.int z31071)) rfl (pm_ret_i _) ?_
                      show pm_R _ 226 95 [.ref 41, .int a0, .int a1, .int a2, .int a3, .int x5_25480, .long z25530, pm_no, .int x8_30572, .long z30638, pm_no, g11_30572] [.int z31071] _ _
                      refine pm_R_lo pm_M226 (pc' := 97) (ls' := [.ref 41, .int a0, .int a1, .int a2, .int a3, .int x5_25480, .long z25530, pm_no, .int x8_30572, .long z30638, pm_no, .int z31071]) (st' := []) rfl rfl rfl ?_
                      refine pm_R_lo pm_M226 (pc' := 98) rfl rfl rfl ?_
                      refine rf_R_get pm_M226 T_30572 (pc' := 101) (v := .ref 56) rfl rfl rfl rfl ?_
                      refine pm_R_lo pm_M226 (pc' := 103) rfl rfl rfl ?_
                      refine pm_R_lo pm_M226 (pc' := 105) rfl rfl rfl ?_
                      refine pm_R_op pm_M226 (pc' := 106) (st' := [.long 0, .long z30638, .int z31071, .ref 56]) rfl rfl rfl ?_
                      refine sf_R_lcmp pm_M226 (pc' := 107) (pm_q226_1 (Nat.le_of_ble_eq_true rfl)) rfl (fun z31074 e31075 => ?_)
                      refine pm_R_ifc pm_M226 (t := 120) (pc' := 110) (pm_q226_1 (Nat.le_of_ble_eq_true rfl)) rfl rfl (fun c31076 => ?_) (fun c31076 => ?_)
                      · have k31077 := sf_lneC e31075 c31076
                        refine pm_R_lo pm_M226 (pc' := 121) (pm_q226_1 (Nat.le_of_ble_eq_true rfl)) rfl rfl ?_
                        refine rf_R_get pm_M226 T_30572 (pc' := 124) (v := .ref 56) (pm_q226_1 (Nat.le_of_ble_eq_true rfl)) rfl rfl rfl ?_
                        refine pm_R_lo pm_M226 (pc' := 126) (pm_q226_1 (Nat.le_of_ble_eq_true rfl)) rfl rfl ?_
                        refine rf_R_lld pm_M226 T_30572 (pc' := 127) (pm_q226_1 (Nat.le_of_ble_eq_true rfl)) e30636 (by decide) (by decide) (sf_in B31073 (by decide) (by decide)) rfl (fun z31078 ez31079 => ?_)
                        refine pm_R_lo pm_M226 (pc' := 129) (pm_q226_1 (Nat.le_of_ble_eq_true rfl)) rfl rfl ?_
                        refine pm_R_lo pm_M226 (pc' := 131) (pm_q226_1 (Nat.le_of_ble_eq_true rfl)) rfl rfl ?_
                        refine pm_R_cs pm_M226 (pc' := 134) (ra := [.long z30638, .long z25530]) (rest := [.long z31078, .int z31071, .ref 56]) (ls' := [.long z25530, pm_no, .long z30638, pm_no]) (pm_q226_1 (Nat.le_of_ble_eq_true rfl)) rfl (Or.inl rfl) pm_M212 rfl rfl (Nat.le_of_ble_eq_true rfl) rfl rfl ?_
                        refine pm_R_lo pm_M212 (pc' := 1) rfl rfl rfl ?_
                        refine pm_R_op pm_M212 (pc' := 2) (st' := [.long 0, .long z30638]) rfl rfl rfl ?_
                        refine sf_R_lcmp pm_M212 (pc' := 3) rfl rfl (fun z31080 e31081 => ?_)
                        refine pm_R_ifc pm_M212 (t := 22) (pc' := 6) rfl rfl rfl (fun c31082 => ?_) (fun c31082 => ?_)
                        · have B31083 : sf_B (-2147483648) 0 z31080 := sf_leL c31082 (sf_any z31080) sf_k0
                          refine pm_R_lo pm_M212 (pc' := 23) rfl rfl rfl ?_
                          refine pm_R_lo pm_M212 (pc' := 24) rfl rfl rfl ?_
                          refine sf_R_lany pm_M212 (pc' := 25) (st := []) rfl rfl rfl (fun z31084 => ?_)
                          refine pm_R_op pm_M212 (pc' := 26) (st' := [.long 0, .long z31084]) rfl rfl rfl ?_
                          refine pm_R_cs pm_M212 (pc' := 29) (ra := [.long 0, .long z31084]) (rest := []) (ls' := [.long z31084, pm_no, .long 0, pm_no]) rfl rfl (Or.inl rfl) pm_M213 rfl rfl (Nat.le_of_ble_eq_true rfl) rfl rfl ?_
                          refine pm_R_lo pm_M213 (pc' := 1) rfl rfl rfl ?_
                          refine pm_R_lo pm_M213 (pc' := 2) rfl rfl rfl ?_
                          refine sf_R_lany pm_M213 (pc' := 3) (st := []) rfl rfl rfl (fun z31085 => ?_)
                          refine pm_R_ldc2 pm_M213 (pc' := 6) rfl rfl rfl ?_
                          refine sf_R_lcmp pm_M213 (pc' := 7) rfl rfl (fun z31086 e31087 => ?_)
                          refine pm_R_ifc pm_M213 (t := 16) (pc' := 10) rfl rfl rfl (fun c31088 => ?_) (fun c31088 => ?_)
                          · have B31089 : sf_B 0 2147483647 z31086 := sf_leR c31088 sf_k0 (sf_any z31086)
                            refine pm_R_ldc2 pm_M213 (pc' := 19) rfl rfl rfl ?_
                            refine pm_R_ret pm_M213 (r := some (.long 1000000000000)) rfl rfl ?_
                            show pm_R _ 212 29 [.long z25530, pm_no, .long z30638, pm_no] [.long 1000000000000] _ _
                            refine pm_R_ret pm_M212 (r := some (.long 1000000000000)) rfl rfl ?_
                            show pm_R _ 226 134 [.ref 41, .int a0, .int a1, .int a2, .int a3, .int x5_25480, .long z25530, pm_no, .int x8_30572, .long z30638, pm_no, .int z31071] [.long 1000000000000, .long z31078, .int z31071, .ref 56] _ _
                            refine pm_R_cs pm_M226 (pc' := 137) (ra := [.long 1000000000000, .long z31078]) (rest := [.int z31071, .ref 56]) (ls' := [.long z31078, pm_no, .long 1000000000000, pm_no]) (pm_q226_1 (Nat.le_of_ble_eq_true rfl)) rfl (Or.inl rfl) pm_M213 rfl rfl (Nat.le_of_ble_eq_true rfl) rfl rfl ?_
                            refine pm_R_lo pm_M213 (pc' := 1) rfl rfl rfl ?_
                            refine pm_R_lo pm_M213 (pc' := 2) rfl rfl rfl ?_
                            refine sf_R_lany pm_M213 (pc' := 3) (st := []) rfl rfl rfl (fun z31090 => ?_)
                            refine pm_R_ldc2 pm_M213 (pc' := 6) rfl rfl rfl ?_
                            refine sf_R_lcmp pm_M213 (pc' := 7) rfl rfl (fun z31091 e31092 => ?_)
                            refine pm_R_ifc pm_M213 (t := 16) (pc' := 10) rfl rfl rfl (fun c31093 => ?_) (fun c31093 => ?_)
                            · have B31094 : sf_B 0 2147483647 z31091 := sf_leR c31093 sf_k0 (sf_any z31091)
                              refine pm_R_ldc2 pm_M213 (pc' := 19) rfl rfl rfl ?_
                              refine pm_R_ret pm_M213 (r := some (.long 1000000000000)) rfl rfl ?_
                              show pm_R _ 226 137 [.ref 41, .int a0, .int a1, .int a2, .int a3, .int x5_25480, .long z25530, pm_no, .int x8_30572, .long z30638, pm_no, .int z31071] [.long 1000000000000, .int z31071, .ref 56] _ _
                              refine rf_R_lst pm_M226 T_30572 (pc' := 138) (pm_q226_1 (Nat.le_of_ble_eq_true rfl)) e30636 (by decide) (by decide) (sf_in B31073 (by decide) (by decide)) ⟨_, rfl⟩ rfl (fun h31095 T31096 F31097 => ?_)
                              have F31098 := F_30572.trans F31097
                              refine sf_R_iinc pm_M226 (pc' := 141) (ls' := fun z => [.ref 41, .int a0, .int a1, .int a2, .int a3, .int x5_25480, .long z25530, pm_no, .int z, .long z30638, pm_no, .int z31071]) (pm_q226_1 (Nat.le_of_ble_eq_true rfl)) B30581 rfl (by decide) (by decide) (by decide) (fun _ => rfl) rfl (fun z31099 e31100 B31101 => ?_)
                              show pm_R _ 226 141 [.ref 41, .int a0, .int a1, .int a2, .int a3, .int x5_25480, .long z25530, pm_no, .int z31099, .long z30638, pm_no, .int z31071] [] _ _
                              refine pm_R_br pm_M226 (pc' := 33) (pm_q226_1 (Nat.le_of_ble_eq_true rfl)) rfl ?_
                              exact ih_30572 _ (sf_up hN_30572 e31100 B30581 (by decide) (by decide)) h31095 m_30572 w_30572 z31099 (.long z30638) (pm_no) (.int z31071) T31096 F31098 W_30572 (sf_weak B31101 (by decide) (by decide)) rfl rfl rfl
                            · have B31102 : sf_B (-2147483648) (-1) z31091 := sf_ltL (Int32.not_le.mp c31093) (sf_any z31091) sf_k0
                              have k31103 := sf_lneB e31092 B31102 (by decide)
                              refine pm_R_lo pm_M213 (pc' := 11) rfl rfl rfl ?_
                              refine pm_R_lo pm_M213 (pc' := 12) rfl rfl rfl ?_
                              refine sf_R_lany pm_M213 (pc' := 13) (st := []) rfl rfl rfl (fun z31104 => ?_)
                              refine pm_R_br pm_M213 (pc' := 19) rfl rfl ?_
                              refine pm_R_ret pm_M213 (r := some (.long z31104)) rfl rfl ?_
                              show pm_R _ 226 137 [.ref 41, .int a0, .int a1, .int a2, .int a3, .int x5_25480, .long z25530, pm_no, .int x8_30572, .long z30638, pm_no, .int z31071] [.long z31104, .int z31071, .ref 56] _ _
                              refine rf_R_lst pm_M226 T_30572 (pc' := 138) (pm_q226_1 (Nat.le_of_ble_eq_true rfl)) e30636 (by decide) (by decide) (sf_in B31073 (by decide) (by decide)) ⟨_, rfl⟩ rfl (fun h31105 T31106 F31107 => ?_)
                              have F31108 := F_30572.trans F31107
                              refine sf_R_iinc pm_M226 (pc' := 141) (ls' := fun z => [.ref 41, .int a0, .int a1, .int a2, .int a3, .int x5_25480, .long z25530, pm_no, .int z, .long z30638, pm_no, .int z31071]) (pm_q226_1 (Nat.le_of_ble_eq_true rfl)) B30581 rfl (by decide) (by decide) (by decide) (fun _ => rfl) rfl (fun z31109 e31110 B31111 => ?_)
                              show pm_R _ 226 141 [.ref 41, .int a0, .int a1, .int a2, .int a3, .int x5_25480, .long z25530, pm_no, .int z31109, .long z30638, pm_no, .int z31071] [] _ _
                              refine pm_R_br pm_M226 (pc' := 33) (pm_q226_1 (Nat.le_of_ble_eq_true rfl)) rfl ?_
                              exact ih_30572 _ (sf_up hN_30572 e31110 B30581 (by decide) (by decide)) h31105 m_30572 w_30572 z31109 (.long z30638) (pm_no) (.int z31071) T31106 F31108 W_30572 (sf_weak B31111 (by decide) (by decide)) rfl rfl rfl
                          · have B31112 : sf_B (-2147483648) (-1) z31086 := sf_ltL (Int32.not_le.mp c31088) (sf_any z31086) sf_k0
                            have k31113 := sf_lneB e31087 B31112 (by decide)
                            refine pm_R_lo pm_M213 (pc' := 11) rfl rfl rfl ?_
                            refine pm_R_lo pm_M213 (pc' := 12) rfl rfl rfl ?_
                            refine sf_R_lany pm_M213 (pc' := 13) (st := []) rfl rfl rfl (fun z31114 => ?_)
                            refine pm_R_br pm_M213 (pc' := 19) rfl rfl ?_
                            refine pm_R_ret pm_M213 (r := some (.long z31114)) rfl rfl ?_
                            show pm_R _ 212 29 [.long z25530, pm_no, .long z30638, pm_no] [.long z31114] _ _
                            refine pm_R_ret pm_M212 (r := some (.long z31114)) rfl rfl ?_
                            show pm_R _ 226 134 [.ref 41, .int a0, .int a1, .int a2, .int a3, .int x5_25480, .long z25530, pm_no, .int x8_30572, .long z30638, pm_no, .int z31071] [.long z31114, .long z31078, .int z31071, .ref 56] _ _
                            refine pm_R_cs pm_M226 (pc' := 137) (ra := [.long z31114, .long z31078]) (rest := [.int z31071, .ref 56]) (ls' := [.long z31078, pm_no, .long z31114, pm_no]) (pm_q226_1 (Nat.le_of_ble_eq_true rfl)) rfl (Or.inl rfl) pm_M213 rfl rfl (Nat.le_of_ble_eq_true rfl) rfl rfl ?_
                            refine pm_R_lo pm_M213 (pc' := 1) rfl rfl rfl ?_
                            refine pm_R_lo pm_M213 (pc' := 2) rfl rfl rfl ?_
                            refine sf_R_lany pm_M213 (pc' := 3) (st := []) rfl rfl rfl (fun z31115 => ?_)
                            refine pm_R_ldc2 pm_M213 (pc' := 6) rfl rfl rfl ?_
                            refine sf_R_lcmp pm_M213 (pc' := 7) rfl rfl (fun z31116 e31117 => ?_)
                            refine pm_R_ifc pm_M213 (t := 16) (pc' := 10) rfl rfl rfl (fun c31118 => ?_) (fun c31118 => ?_)
                            · have B31119 : sf_B 0 2147483647 z31116 := sf_leR c31118 sf_k0 (sf_any z31116)
                              refine pm_R_ldc2 pm_M213 (pc' := 19) rfl rfl rfl ?_
                              refine pm_R_ret pm_M213 (r := some (.long 1000000000000)) rfl rfl ?_
                              show pm_R _ 226 137 [.ref 41, .int a0, .int a1, .int a2, .int a3, .int x5_25480, .long z25530, pm_no, .int x8_30572, .long z30638, pm_no, .int z31071] [.long 1000000000000, .int z31071, .ref 56] _ _
                              refine rf_R_lst pm_M226 T_30572 (pc' := 138) (pm_q226_1 (Nat.le_of_ble_eq_true rfl)) e30636 (by decide) (by decide) (sf_in B31073 (by decide) (by decide)) ⟨_, rfl⟩ rfl (fun h31120 T31121 F31122 => ?_)
                              have F31123 := F_30572.trans F31122
                              refine sf_R_iinc pm_M226 (pc' := 141) (ls' := fun z => [.ref 41, .int a0, .int a1, .int a2, .int a3, .int x5_25480, .long z25530, pm_no, .int z, .long z30638, pm_no, .int z31071]) (pm_q226_1 (Nat.le_of_ble_eq_true rfl)) B30581 rfl (by decide) (by decide) (by decide) (fun _ => rfl) rfl (fun z31124 e31125 B31126 => ?_)
                              show pm_R _ 226 141 [.ref 41, .int a0, .int a1, .int a2, .int a3, .int x5_25480, .long z25530, pm_no, .int z31124, .long z30638, pm_no, .int z31071] [] _ _
                              refine pm_R_br pm_M226 (pc' := 33) (pm_q226_1 (Nat.le_of_ble_eq_true rfl)) rfl ?_
                              exact ih_30572 _ (sf_up hN_30572 e31125 B30581 (by decide) (by decide)) h31120 m_30572 w_30572 z31124 (.long z30638) (pm_no) (.int z31071) T31121 F31123 W_30572 (sf_weak B31126 (by decide) (by decide)) rfl rfl rfl
                            · have B31127 : sf_B (-2147483648) (-1) z31116 := sf_ltL (Int32.not_le.mp c31118) (sf_any z31116) sf_k0
                              have k31128 := sf_lneB e31117 B31127 (by decide)
                              refine pm_R_lo pm_M213 (pc' := 11) rfl rfl rfl ?_
                              refine pm_R_lo pm_M213 (pc' := 12) rfl rfl rfl ?_
                              refine sf_R_lany pm_M213 (pc' := 13) (st := []) rfl rfl rfl (fun z31129 => ?_)
                              refine pm_R_br pm_M213 (pc' := 19) rfl rfl ?_
                              refine pm_R_ret pm_M213 (r := some (.long z31129)) rfl rfl ?_
                              show pm_R _ 226 137 [.ref 41, .int a0, .int a1, .int a2, .int a3, .int x5_25480, .long z25530, pm_no, .int x8_30572, .long z30638, pm_no, .int z31071] [.long z31129, .int z31071, .ref 56] _ _
                              refine rf_R_lst pm_M226 T_30572 (pc' := 138) (pm_q226_1 (Nat.le_of_ble_eq_true rfl)) e30636 (by decide) (by decide) (sf_in B31073 (by decide) (by decide)) ⟨_, rfl⟩ rfl (fun h31130 T31131 F31132 => ?_)
                              have F31133 := F_30572.trans F31132
                              refine sf_R_iinc pm_M226 (pc' := 141) (ls' := fun z => [.ref 41, .int a0, .int a1, .int a2, .int a3, .int x5_25480, .long z25530, pm_no, .int z, .long z30638, pm_no, .int z31071]) (pm_q226_1 (Nat.le_of_ble_eq_true rfl)) B30581 rfl (by decide) (by decide) (by decide) (fun _ => rfl) rfl (fun z31134 e31135 B31136 => ?_)
                              show pm_R _ 226 141 [.ref 41, .int a0, .int a1, .int a2, .int a3, .int x5_25480, .long z25530, pm_no, .int z31134, .long z30638, pm_no, .int z31071] [] _ _
                              refine pm_R_br pm_M226 (pc' := 33) (pm_q226_1 (Nat.le_of_ble_eq_true rfl)) rfl ?_
                              exact ih_30572 _ (sf_up hN_30572 e31135 B30581 (by decide) (by decide)) h31130 m_30572 w_30572 z31134 (.long z30638) (pm_no) (.int z31071) T31131 F31133 W_30572 (sf_weak B31136 (by decide) (by decide)) rfl rfl rfl
                        · have B31137 : sf_B 1 2147483647 z31080 := sf_ltR (Int32.not_le.mp c31082) sf_k0 (sf_any z31080)
                          have k31138 := sf_lneA e31081 B31137 (by decide)
                          refine pm_R_lo pm_M212 (pc' := 7) rfl rfl rfl ?_
                          refine pm_R_ldc2 pm_M212 (pc' := 10) rfl rfl rfl ?_
                          refine pm_R_lo pm_M212 (pc' := 11) rfl rfl rfl ?_
                          refine sf_R_ldivA pm_M212 (pc' := 12) rfl rfl k31138 (fun z31139 => ?_)
                          refine sf_R_lcmp pm_M212 (pc' := 13) rfl rfl (fun z31140 e31141 => ?_)
                          refine pm_R_ifc pm_M212 (t := 22) (pc' := 16) rfl rfl rfl (fun c31142 => ?_) (fun c31142 => ?_)
                          · have B31143 : sf_B (-2147483648) 0 z31140 := sf_leL c31142 (sf_any z31140) sf_k0
                            refine pm_R_lo pm_M212 (pc' := 23) rfl rfl rfl ?_
                            refine pm_R_lo pm_M212 (pc' := 24) rfl rfl rfl ?_
                            refine sf_R_lany pm_M212 (pc' := 25) (st := []) rfl rfl rfl (fun z31144 => ?_)
                            refine pm_R_op pm_M212 (pc' := 26) (st' := [.long 0, .long z31144]) rfl rfl rfl ?_
                            refine pm_R_cs pm_M212 (pc' := 29) (ra := [.long 0, .long z31144]) (rest := []) (ls' := [.long z31144, pm_no, .long 0, pm_no]) rfl rfl (Or.inl rfl) pm_M213 rfl rfl (Nat.le_of_ble_eq_true rfl) rfl rfl ?_
                            refine pm_R_lo pm_M213 (pc' := 1) rfl rfl rfl ?_
                            refine pm_R_lo pm_M213 (pc' := 2) rfl rfl rfl ?_
                            refine sf_R_lany pm_M213 (pc' := 3) (st := []) rfl rfl rfl (fun z31145 => ?_)
                            refine pm_R_ldc2 pm_M213 (pc' := 6) rfl rfl rfl ?_
                            refine sf_R_lcmp pm_M213 (pc' := 7) rfl rfl (fun z31146 e31147 => ?_)
                            refine pm_R_ifc pm_M213 (t := 16) (pc' := 10) rfl rfl rfl (fun c31148 => ?_) (fun c31148 => ?_)
                            · have B31149 : sf_B 0 2147483647 z31146 := sf_leR c31148 sf_k0 (sf_any z31146)
                              refine pm_R_ldc2 pm_M213 (pc' := 19) rfl rfl rfl ?_
                              refine pm_R_ret pm_M213 (r := some (.long 1000000000000)) rfl rfl ?_
                              show pm_R _ 212 29 [.long z25530, pm_no, .long z30638, pm_no] [.long 1000000000000] _ _
                              refine pm_R_ret pm_M212 (r := some (.long 1000000000000)) rfl rfl ?_
                              show pm_R _ 226 134 [.ref 41, .int a0, .int a1, .int a2, .int a3, .int x5_25480, .long z25530, pm_no, .int x8_30572, .long z30638, pm_no, .int z31071] [.long 1000000000000, .long z31078, .int z31071, .ref 56] _ _
                              refine pm_R_cs pm_M226 (pc' := 137) (ra := [.long 1000000000000, .long z31078]) (rest := [.int z31071, .ref 56]) (ls' := [.long z31078, pm_no, .long 1000000000000, pm_no]) (pm_q226_1 (Nat.le_of_ble_eq_true rfl)) rfl (Or.inl rfl) pm_M213 rfl rfl (Nat.le_of_ble_eq_true rfl) rfl rfl ?_
                              refine pm_R_lo pm_M213 (pc' := 1) rfl rfl rfl ?_
                              refine pm_R_lo pm_M213 (pc' := 2) rfl rfl rfl ?_
                              refine sf_R_lany pm_M213 (pc' := 3) (st := []) rfl rfl rfl (fun z31150 => ?_)
                              refine pm_R_ldc2 pm_M213 (pc' := 6) rfl rfl rfl ?_
                              refine sf_R_lcmp pm_M213 (pc' := 7) rfl rfl (fun z31151 e31152 => ?_)
                              refine pm_R_ifc pm_M213 (t := 16) (pc' := 10) rfl rfl rfl (fun c31153 => ?_) (fun c31153 => ?_)
                              · have B31154 : sf_B 0 2147483647 z31151 := sf_leR c31153 sf_k0 (sf_any z31151)
                                refine pm_R_ldc2 pm_M213 (pc' := 19) rfl rfl rfl ?_
                                refine pm_R_ret pm_M213 (r := some (.long 1000000000000)) rfl rfl ?_
                                show pm_R _ 226 137 [.ref 41, .int a0, .int a1, .int a2, .int a3, .int x5_25480, .long z25530, pm_no, .int x8_30572, .long z30638, pm_no, .int z31071] [.long 1000000000000, .int z31071, .ref 56] _ _
                                refine rf_R_lst pm_M226 T_30572 (pc' := 138) (pm_q226_1 (Nat.le_of_ble_eq_true rfl)) e30636 (by decide) (by decide) (sf_in B31073 (by decide) (by decide)) ⟨_, rfl⟩ rfl (fun h31155 T31156 F31157 => ?_)
                                have F31158 := F_30572.trans F31157
                                refine sf_R_iinc pm_M226 (pc' := 141) (ls' := fun z => [.ref 41, .int a0, .int a1, .int a2, .int a3, .int x5_25480, .long z25530, pm_no, .int z, .long z30638, pm_no, .int z31071]) (pm_q226_1 (Nat.le_of_ble_eq_true rfl)) B30581 rfl (by decide) (by decide) (by decide) (fun _ => rfl) rfl (fun z31159 e31160 B31161 => ?_)
                                show pm_R _ 226 141 [.ref 41, .int a0, .int a1, .int a2, .int a3, .int x5_25480, .long z25530, pm_no, .int z31159, .long z30638, pm_no, .int z31071] [] _ _
                                refine pm_R_br pm_M226 (pc' := 33) (pm_q226_1 (Nat.le_of_ble_eq_true rfl)) rfl ?_
                                exact ih_30572 _ (sf_up hN_30572 e31160 B30581 (by decide) (by decide)) h31155 m_30572 w_30572 z31159 (.long z30638) (pm_no) (.int z31071) T31156 F31158 W_30572 (sf_weak B31161 (by decide) (by decide)) rfl rfl rfl
                              · have B31162 : sf_B (-2147483648) (-1) z31151 := sf_ltL (Int32.not_le.mp c31153) (sf_any z31151) sf_k0
                                have k31163 := sf_lneB e31152 B31162 (by decide)
                                refine pm_R_lo pm_M213 (pc' := 11) rfl rfl rfl ?_
                                refine pm_R_lo pm_M213 (pc' := 12) rfl rfl rfl ?_
                                refine sf_R_lany pm_M213 (pc' := 13) (st := []) rfl rfl rfl (fun z31164 => ?_)
                                refine pm_R_br pm_M213 (pc' := 19) rfl rfl ?_
                                refine pm_R_ret pm_M213 (r := some (.long z31164)) rfl rfl ?_
                                show pm_R _ 226 137 [.ref 41, .int a0, .int a1, .int a2, .int a3, .int x5_25480, .long z25530, pm_no, .int x8_30572, .long z30638, pm_no, .int z31071] [.long z31164, .int z31071, .ref 56] _ _
                                refine rf_R_lst pm_M226 T_30572 (pc' := 138) (pm_q226_1 (Nat.le_of_ble_eq_true rfl)) e30636 (by decide) (by decide) (sf_in B31073 (by decide) (by decide)) ⟨_, rfl⟩ rfl (fun h31165 T31166 F31167 => ?_)
                                have F31168 := F_30572.trans F31167
                                refine sf_R_iinc pm_M226 (pc' := 141) (ls' := fun z => [.ref 41, .int a0, .int a1, .int a2, .int a3, .int x5_25480, .long z25530, pm_no, .int z, .long z30638, pm_no, .int z31071]) (pm_q226_1 (Nat.le_of_ble_eq_true rfl)) B30581 rfl (by decide) (by decide) (by decide) (fun _ => rfl) rfl (fun z31169 e31170 B31171 => ?_)
                                show pm_R _ 226 141 [.ref 41, .int a0, .int a1, .int a2, .int a3, .int x5_25480, .long z25530, pm_no, .int z31169, .long z30638, pm_no, .int z31071] [] _ _
                                refine pm_R_br pm_M226 (pc' := 33) (pm_q226_1 (Nat.le_of_ble_eq_true rfl)) rfl ?_
                                exact ih_30572 _ (sf_up hN_30572 e31170 B30581 (by decide) (by decide)) h31165 m_30572 w_30572 z31169 (.long z30638) (pm_no) (.int z31071) T31166 F31168 W_30572 (sf_weak B31171 (by decide) (by decide)) rfl rfl rfl
                            · have B31172 : sf_B (-2147483648) (-1) z31146 := sf_ltL (Int32.not_le.mp c31148) (sf_any z31146) sf_k0
                              have k31173 := sf_lneB e31147 B31172 (by decide)
                              refine pm_R_lo pm_M213 (pc' := 11) rfl rfl rfl ?_
                              refine pm_R_lo pm_M213 (pc' := 12) rfl rfl rfl ?_
                              refine sf_R_lany pm_M213 (pc' := 13) (st := []) rfl rfl rfl (fun z31174 => ?_)
                              refine pm_R_br pm_M213 (pc' := 19) rfl rfl ?_
                              refine pm_R_ret pm_M213 (r := some (.long z31174)) rfl rfl ?_
                              show pm_R _ 212 29 [.long z25530, pm_no, .long z30638, pm_no] [.long z31174] _ _
                              refine pm_R_ret pm_M212 (r := some (.long z31174)) rfl rfl ?_
                              show pm_R _ 226 134 [.ref 41, .int a0, .int a1, .int a2, .int a3, .int x5_25480, .long z25530, pm_no, .int x8_30572, .long z30638, pm_no, .int z31071] [.long z31174, .long z31078, .int z31071, .ref 56] _ _
                              refine pm_R_cs pm_M226 (pc' := 137) (ra := [.long z31174, .long z31078]) (rest := [.int z31071, .ref 56]) (ls' := [.long z31078, pm_no, .long z31174, pm_no]) (pm_q226_1 (Nat.le_of_ble_eq_true rfl)) rfl (Or.inl rfl) pm_M213 rfl rfl (Nat.le_of_ble_eq_true rfl) rfl rfl ?_
                              refine pm_R_lo pm_M213 (pc' := 1) rfl rfl rfl ?_
                              refine pm_R_lo pm_M213 (pc' := 2) rfl rfl rfl ?_
                              refine sf_R_lany pm_M213 (pc' := 3) (st := []) rfl rfl rfl (fun z31175 => ?_)
                              refine pm_R_ldc2 pm_M213 (pc' := 6) rfl rfl rfl ?_
                              refine sf_R_lcmp pm_M213 (pc' := 7) rfl rfl (fun z31176 e31177 => ?_)
                              refine pm_R_ifc pm_M213 (t := 16) (pc' := 10) rfl rfl rfl (fun c31178 => ?_) (fun c31178 => ?_)
                              · have B31179 : sf_B 0 2147483647 z31176 := sf_leR c31178 sf_k0 (sf_any z31176)
                                refine pm_R_ldc2 pm_M213 (pc' := 19) rfl rfl rfl ?_
                                refine pm_R_ret pm_M213 (r := some (.long 1000000000000)) rfl rfl ?_
                                show pm_R _ 226 137 [.ref 41, .int a0, .int a1, .int a2, .int a3, .int x5_25480, .long z25530, pm_no, .int x8_30572, .long z30638, pm_no, .int z31071] [.long 1000000000000, .int z31071, .ref 56] _ _
                                refine rf_R_lst pm_M226 T_30572 (pc' := 138) (pm_q226_1 (Nat.le_of_ble_eq_true rfl)) e30636 (by decide) (by decide) (sf_in B31073 (by decide) (by decide)) ⟨_, rfl⟩ rfl (fun h31180 T31181 F31182 => ?_)
                                have F31183 := F_30572.trans F31182
                                refine sf_R_iinc pm_M226 (pc' := 141) (ls' := fun z => [.ref 41, .int a0, .int a1, .int a2, .int a3, .int x5_25480, .long z25530, pm_no, .int z, .long z30638, pm_no, .int z31071]) (pm_q226_1 (Nat.le_of_ble_eq_true rfl)) B30581 rfl (by decide) (by decide) (by decide) (fun _ => rfl) rfl (fun z31184 e31185 B31186 => ?_)
                                show pm_R _ 226 141 [.ref 41, .int a0, .int a1, .int a2, .int a3, .int x5_25480, .long z25530, pm_no, .int z31184, .long z30638, pm_no, .int z31071] [] _ _
                                refine pm_R_br pm_M226 (pc' := 33) (pm_q226_1 (Nat.le_of_ble_eq_true rfl)) rfl ?_
                                exact ih_30572 _ (sf_up hN_30572 e31185 B30581 (by decide) (by decide)) h31180 m_30572 w_30572 z31184 (.long z30638) (pm_no) (.int z31071) T31181 F31183 W_30572 (sf_weak B31186 (by decide) (by decide)) rfl rfl rfl
                              · have B31187 : sf_B (-2147483648) (-1) z31176 := sf_ltL (Int32.not_le.mp c31178) (sf_any z31176) sf_k0
                                have k31188 := sf_lneB e31177 B31187 (by decide)
                                refine pm_R_lo pm_M213 (pc' := 11) rfl rfl rfl ?_
                                refine pm_R_lo pm_M213 (pc' := 12) rfl rfl rfl ?_
                                refine sf_R_lany pm_M213 (pc' := 13) (st := []) rfl rfl rfl (fun z31189 => ?_)
                                refine pm_R_br pm_M213 (pc' := 19) rfl rfl ?_
                                refine pm_R_ret pm_M213 (r := some (.long z31189)) rfl rfl ?_
                                show pm_R _ 226 137 [.ref 41, .int a0, .int a1, .int a2, .int a3, .int x5_25480, .long z25530, pm_no, .int x8_30572, .long z30638, pm_no, .int z31071] [.long z31189, .int z31071, .ref 56] _ _
                                refine rf_R_lst pm_M226 T_30572 (pc' := 138) (pm_q226_1 (Nat.le_of_ble_eq_true rfl)) e30636 (by decide) (by decide) (sf_in B31073 (by decide) (by decide)) ⟨_, rfl⟩ rfl (fun h31190 T31191 F31192 => ?_)
                                have F31193 := F_30572.trans F31192
                                refine sf_R_iinc pm_M226 (pc' := 141) (ls' := fun z => [.ref 41, .int a0, .int a1, .int a2, .int a3, .int x5_25480, .long z25530, pm_no, .int z, .long z30638, pm_no, .int z31071]) (pm_q226_1 (Nat.le_of_ble_eq_true rfl)) B30581 rfl (by decide) (by decide) (by decide) (fun _ => rfl) rfl (fun z31194 e31195 B31196 => ?_)
                                show pm_R _ 226 141 [.ref 41, .int a0, .int a1, .int a2, .int a3, .int x5_25480, .long z25530, pm_no, .int z31194, .long z30638, pm_no, .int z31071] [] _ _
                                refine pm_R_br pm_M226 (pc' := 33) (pm_q226_1 (Nat.le_of_ble_eq_true rfl)) rfl ?_
                                exact ih_30572 _ (sf_up hN_30572 e31195 B30581 (by decide) (by decide)) h31190 m_30572 w_30572 z31194 (.long z30638) (pm_no) (.int z31071) T31191 F31193 W_30572 (sf_weak B31196 (by decide) (by decide)) rfl rfl rfl
                          · have B31197 : sf_B 1 2147483647 z31140 := sf_ltR (Int32.not_le.mp c31142) sf_k0 (sf_any z31140)
                            have k31198 := sf_lneA e31141 B31197 (by decide)
                            refine pm_R_ldc2 pm_M212 (pc' := 19) rfl rfl rfl ?_
                            refine pm_R_br pm_M212 (pc' := 29) rfl rfl ?_
                            refine pm_R_ret pm_M212 (r := some (.long 1000000000000)) rfl rfl ?_
                            show pm_R _ 226 134 [.ref 41, .int a0, .int a1, .int a2, .int a3, .int x5_25480, .long z25530, pm_no, .int x8_30572, .long z30638, pm_no, .int z31071] [.long 1000000000000, .long z31078, .int z31071, .ref 56] _ _
                            refine pm_R_cs pm_M226 (pc' := 137) (ra := [.long 1000000000000, .long z31078]) (rest := [.int z31071, .ref 56]) (ls' := [.long z31078, pm_no, .long 1000000000000, pm_no]) (pm_q226_1 (Nat.le_of_ble_eq_true rfl)) rfl (Or.inl rfl) pm_M213 rfl rfl (Nat.le_of_ble_eq_true rfl) rfl rfl ?_
                            refine pm_R_lo pm_M213 (pc' := 1) rfl rfl rfl ?_
                            refine pm_R_lo pm_M213 (pc' := 2) rfl rfl rfl ?_
                            refine sf_R_lany pm_M213 (pc' := 3) (st := []) rfl rfl rfl (fun z31199 => ?_)
                            refine pm_R_ldc2 pm_M213 (pc' := 6) rfl rfl rfl ?_
                            refine sf_R_lcmp pm_M213 (pc' := 7) rfl rfl (fun z31200 e31201 => ?_)
                            refine pm_R_ifc pm_M213 (t := 16) (pc' := 10) rfl rfl rfl (fun c31202 => ?_) (fun c31202 => ?_)
                            · have B31203 : sf_B 0 2147483647 z31200 := sf_leR c31202 sf_k0 (sf_any z31200)
                              refine pm_R_ldc2 pm_M213 (pc' := 19) rfl rfl rfl ?_
                              refine pm_R_ret pm_M213 (r := some (.long 1000000000000)) rfl rfl ?_
                              show pm_R _ 226 137 [.ref 41, .int a0, .int a1, .int a2, .int a3, .int x5_25480, .long z25530, pm_no, .int x8_30572, .long z30638, pm_no, .int z31071] [.long 1000000000000, .int z31071, .ref 56] _ _
                              refine rf_R_lst pm_M226 T_30572 (pc' := 138) (pm_q226_1 (Nat.le_of_ble_eq_true rfl)) e30636 (by decide) (by decide) (sf_in B31073 (by decide) (by decide)) ⟨_, rfl⟩ rfl (fun h31204 T31205 F31206 => ?_)
                              have F31207 := F_30572.trans F31206
                              refine sf_R_iinc pm_M226 (pc' := 141) (ls' := fun z => [.ref 41, .int a0, .int a1, .int a2, .int a3, .int x5_25480, .long z25530, pm_no, .int z, .long z30638, pm_no, .int z31071]) (pm_q226_1 (Nat.le_of_ble_eq_true rfl)) B30581 rfl (by decide) (by decide) (by decide) (fun _ => rfl) rfl (fun z31208 e31209 B31210 => ?_)
                              show pm_R _ 226 141 [.ref 41, .int a0, .int a1, .int a2, .int a3, .int x5_25480, .long z25530, pm_no, .int z31208, .long z30638, pm_no, .int z31071] [] _ _
                              refine pm_R_br pm_M226 (pc' := 33) (pm_q226_1 (Nat.le_of_ble_eq_true rfl)) rfl ?_
                              exact ih_30572 _ (sf_up hN_30572 e31209 B30581 (by decide) (by decide)) h31204 m_30572 w_30572 z31208 (.long z30638) (pm_no) (.int z31071) T31205 F31207 W_30572 (sf_weak B31210 (by decide) (by decide)) rfl rfl rfl
                            · have B31211 : sf_B (-2147483648) (-1) z31200 := sf_ltL (Int32.not_le.mp c31202) (sf_any z31200) sf_k0
                              have k31212 := sf_lneB e31201 B31211 (by decide)
                              refine pm_R_lo pm_M213 (pc' := 11) rfl rfl rfl ?_
                              refine pm_R_lo pm_M213 (pc' := 12) rfl rfl rfl ?_
                              refine sf_R_lany pm_M213 (pc' := 13) (st := []) rfl rfl rfl (fun z31213 => ?_)
                              refine pm_R_br pm_M213 (pc' := 19) rfl rfl ?_
                              refine pm_R_ret pm_M213 (r := some (.long z31213)) rfl rfl ?_
                              show pm_R _ 226 137 [.ref 41, .int a0, .int a1, .int a2, .int a3, .int x5_25480, .long z25530, pm_no, .int x8_30572, .long z30638, pm_no, .int z31071] [.long z31213, .int z31071, .ref 56] _ _
                              refine rf_R_lst pm_M226 T_30572 (pc' := 138) (pm_q226_1 (Nat.le_of_ble_eq_true rfl)) e30636 (by decide) (by decide) (sf_in B31073 (by decide) (by decide)) ⟨_, rfl⟩ rfl (fun h31214 T31215 F31216 => ?_)
                              have F31217 := F_30572.trans F31216
                              refine sf_R_iinc pm_M226 (pc' := 141) (ls' := fun z => [.ref 41, .int a0, .int a1, .int a2, .int a3, .int x5_25480, .long z25530, pm_no, .int z, .long z30638, pm_no, .int z31071]) (pm_q226_1 (Nat.le_of_ble_eq_true rfl)) B30581 rfl (by decide) (by decide) (by decide) (fun _ => rfl) rfl (fun z31218 e31219 B31220 => ?_)
                              show pm_R _ 226 141 [.ref 41, .int a0, .int a1, .int a2, .int a3, .int x5_25480, .long z25530, pm_no, .int z31218, .long z30638, pm_no, .int z31071] [] _ _
                              refine pm_R_br pm_M226 (pc' := 33) (pm_q226_1 (Nat.le_of_ble_eq_true rfl)) rfl ?_
                              exact ih_30572 _ (sf_up hN_30572 e31219 B30581 (by decide) (by decide)) h31214 m_30572 w_30572 z31218 (.long z30638) (pm_no) (.int z31071) T31215 F31217 W_30572 (sf_weak B31220 (by decide) (by decide)) rfl rfl rfl
                      · have B31221 : sf_B 0 0 z31074 := sf_eqL (Classical.not_not.mp c31076) sf_k0
                        refine pm_R_lo pm_M226 (pc' := 111) (pm_q226_1 (Nat.le_of_ble_eq_true rfl)) rfl rfl ?_
                        refine rf_R_get pm_M226 T_30572 (pc' := 114) (v := .ref 56) (pm_q226_1 (Nat.le_of_ble_eq_true rfl)) rfl rfl rfl ?_
                        refine pm_R_lo pm_M226 (pc' := 116) (pm_q226_1 (Nat.le_of_ble_eq_true rfl)) rfl rfl ?_
                        refine rf_R_lld pm_M226 T_30572 (pc' := 117) (pm_q226_1 (Nat.le_of_ble_eq_true rfl)) e30636 (by decide) (by decide) (sf_in B31073 (by decide) (by decide)) rfl (fun z31222 ez31223 => ?_)
                        refine pm_R_br pm_M226 (pc' := 137) (pm_q226_1 (Nat.le_of_ble_eq_true rfl)) rfl ?_
                        refine rf_R_lst pm_M226 T_30572 (pc' := 138) (pm_q226_1 (Nat.le_of_ble_eq_true rfl)) e30636 (by decide) (by decide) (sf_in B31073 (by decide) (by decide)) ⟨_, rfl⟩ rfl (fun h31224 T31225 F31226 => ?_)
                        have F31227 := F_30572.trans F31226
                        refine sf_R_iinc pm_M226 (pc' := 141) (ls' := fun z => [.ref 41, .int a0, .int a1, .int a2, .int a3, .int x5_25480, .long z25530, pm_no, .int z, .long z30638, pm_no, .int z31071]) (pm_q226_1 (Nat.le_of_ble_eq_true rfl)) B30581 rfl (by decide) (by decide) (by decide) (fun _ => rfl) rfl (fun z31228 e31229 B31230 => ?_)
                        show pm_R _ 226 141 [.ref 41, .int a0, .int a1, .int a2, .int a3, .int x5_25480, .long z25530, pm_no, .int z31228, .long z30638, pm_no, .int z31071] [] _ _
                        refine pm_R_br pm_M226 (pc' := 33) (pm_q226_1 (Nat.le_of_ble_eq_true rfl)) rfl ?_
                        exact ih_30572 _ (sf_up hN_30572 e31229 B30581 (by decide) (by decide)) h31224 m_30572 w_30572 z31228 (.long z30638) (pm_no) (.int z31071) T31225 F31227 W_30572 (sf_weak B31230 (by decide) (by decide)) rfl rfl rfl
                  · have B31231 : sf_B 1 1 z30674 := sf_eqL (Classical.not_not.mp c30680) sf_k1
                    refine pm_R_lo pm_M227 (pc' := 14) rfl rfl rfl ?_
                    refine pm_R_br pm_M227 (pc' := 52) rfl rfl ?_
                    refine pm_R_ret pm_M227 (r := some (.int x8_30572)) rfl (pm_ret_i _) ?_
                    show pm_R _ 226 92 [.ref 41, .int a0, .int a1, .int a2, .int a3, .int x5_25480, .long z25530, pm_no, .int x8_30572, .long z30638, pm_no, g11_30572] [.int x8_30572, .int a3, .int a1, .int z30655] _ _
                    refine pm_R_cs pm_M226 (pc' := 95) (ra := [.int x8_30572, .int a3, .int a1, .int z30655]) (rest := []) (ls' := [.int z30655, .int a1, .int a3, .int x8_30572]) rfl rfl (Or.inl rfl) pm_M225 rfl rfl (Nat.le_of_ble_eq_true rfl) rfl rfl ?_
                    refine pm_R_op pm_M225 (pc' := 2) (st' := [.int 50]) rfl rfl rfl ?_
                    refine pm_R_lo pm_M225 (pc' := 3) rfl rfl rfl ?_
                    refine pm_R_lo pm_M225 (pc' := 4) rfl rfl rfl ?_
                    refine pm_R_lo pm_M225 (pc' := 5) rfl rfl rfl ?_
                    refine pm_R_cs pm_M225 (pc' := 8) (ra := [.int a3, .int a1, .int z30655]) (rest := [.int 50]) (ls' := [.int z30655, .int a1, .int a3]) rfl rfl (Or.inl rfl) pm_M207 rfl rfl (Nat.le_of_ble_eq_true rfl) rfl rfl ?_
                    refine pm_R_op pm_M207 (pc' := 3) (st' := [.int 144]) rfl rfl rfl ?_
                    refine pm_R_lo pm_M207 (pc' := 4) rfl rfl rfl ?_
                    refine sf_R_imul pm_M207 (pc' := 5) rfl rfl sf_k144 B30658 (by decide) (by decide) (by decide) (fun z31232 e31233 B31234 => ?_)
                    refine pm_R_op pm_M207 (pc' := 7) (st' := [.int 12, .int z31232]) rfl rfl rfl ?_
                    refine pm_R_lo pm_M207 (pc' := 8) rfl rfl rfl ?_
                    refine sf_R_imul pm_M207 (pc' := 9) rfl rfl sf_k12 Ba1 (by decide) (by decide) (by decide) (fun z31235 e31236 B31237 => ?_)
                    refine sf_R_iadd pm_M207 (pc' := 10) rfl rfl B31234 B31237 (by decide) (by decide) (fun z31238 e31239 B31240 => ?_)
                    refine pm_R_lo pm_M207 (pc' := 11) rfl rfl rfl ?_
                    refine sf_R_iadd pm_M207 (pc' := 12) rfl rfl B31240 Ba3 (by decide) (by decide) (fun z31241 e31242 B31243 => ?_)
                    refine pm_R_ret pm_M207 (r := some (.int z31241)) rfl (pm_ret_i _) ?_
                    show pm_R _ 225 8 [.int z30655, .int a1, .int a3, .int x8_30572] [.int z31241, .int 50] _ _
                    refine sf_R_imul pm_M225 (pc' := 9) rfl rfl sf_k50 B31243 (by decide) (by decide) (by decide) (fun z31244 e31245 B31246 => ?_)
                    refine pm_R_lo pm_M225 (pc' := 10) rfl rfl rfl ?_
                    refine sf_R_iadd pm_M225 (pc' := 11) rfl rfl B31246 B30581 (by decide) (by decide) (fun z31247 e31248 B31249 => ?_)
                    refine pm_R_ret pm_M225 (r := some (.int z31247)) rfl (pm_ret_i _) ?_
                    show pm_R _ 226 95 [.ref 41, .int a0, .int a1, .int a2, .int a3, .int x5_25480, .long z25530, pm_no, .int x8_30572, .long z30638, pm_no, g11_30572] [.int z31247] _ _
                    refine pm_R_lo pm_M226 (pc' := 97) (ls' := [.ref 41, .int a0, .int a1, .int a2, .int a3, .int x5_25480, .long z25530, pm_no, .int x8_30572, .long z30638, pm_no, .int z31247]) (st' := []) rfl rfl rfl ?_
                    refine pm_R_lo pm_M226 (pc' := 98) rfl rfl rfl ?_
                    refine rf_R_get pm_M226 T_30572 (pc' := 101) (v := .ref 56) rfl rfl rfl rfl ?_
                    refine pm_R_lo pm_M226 (pc' := 103) rfl rfl rfl ?_
                    refine pm_R_lo pm_M226 (pc' := 105) rfl rfl rfl ?_
                    refine pm_R_op pm_M226 (pc' := 106) (st' := [.long 0, .long z30638, .int z31247, .ref 56]) rfl rfl rfl ?_
                    refine sf_R_lcmp pm_M226 (pc' := 107) (pm_q226_1 (Nat.le_of_ble_eq_true rfl)) rfl (fun z31250 e31251 => ?_)
                    refine pm_R_ifc pm_M226 (t := 120) (pc' := 110) (pm_q226_1 (Nat.le_of_ble_eq_true rfl)) rfl rfl (fun c31252 => ?_) (fun c31252 => ?_)
                    · have k31253 := sf_lneC e31251 c31252
                      refine pm_R_lo pm_M226 (pc' := 121) (pm_q226_1 (Nat.le_of_ble_eq_true rfl)) rfl rfl ?_
                      refine rf_R_get pm_M226 T_30572 (pc' := 124) (v := .ref 56) (pm_q226_1 (Nat.le_of_ble_eq_true rfl)) rfl rfl rfl ?_
                      refine pm_R_lo pm_M226 (pc' := 126) (pm_q226_1 (Nat.le_of_ble_eq_true rfl)) rfl rfl ?_
                      refine rf_R_lld pm_M226 T_30572 (pc' := 127) (pm_q226_1 (Nat.le_of_ble_eq_true rfl)) e30636 (by decide) (by decide) (sf_in B31249 (by decide) (by decide)) rfl (fun z31254 ez31255 => ?_)
                      refine pm_R_lo pm_M226 (pc' := 129) (pm_q226_1 (Nat.le_of_ble_eq_true rfl)) rfl rfl ?_
                      refine pm_R_lo pm_M226 (pc' := 131) (pm_q226_1 (Nat.le_of_ble_eq_true rfl)) rfl rfl ?_
                      refine pm_R_cs pm_M226 (pc' := 134) (ra := [.long z30638, .long z25530]) (rest := [.long z31254, .int z31247, .ref 56]) (ls' := [.long z25530, pm_no, .long z30638, pm_no]) (pm_q226_1 (Nat.le_of_ble_eq_true rfl)) rfl (Or.inl rfl) pm_M212 rfl rfl (Nat.le_of_ble_eq_true rfl) rfl rfl ?_
                      refine pm_R_lo pm_M212 (pc' := 1) rfl rfl rfl ?_
                      refine pm_R_op pm_M212 (pc' := 2) (st' := [.long 0, .long z30638]) rfl rfl rfl ?_
                      refine sf_R_lcmp pm_M212 (pc' := 3) rfl rfl (fun z31256 e31257 => ?_)
                      refine pm_R_ifc pm_M212 (t := 22) (pc' := 6) rfl rfl rfl (fun c31258 => ?_) (fun c31258 => ?_)
                      · have B31259 : sf_B (-2147483648) 0 z31256 := sf_leL c31258 (sf_any z31256) sf_k0
                        refine pm_R_lo pm_M212 (pc' := 23) rfl rfl rfl ?_
                        refine pm_R_lo pm_M212 (pc' := 24) rfl rfl rfl ?_
                        refine sf_R_lany pm_M212 (pc' := 25) (st := []) rfl rfl rfl (fun z31260 => ?_)
                        refine pm_R_op pm_M212 (pc' := 26) (st' := [.long 0, .long z31260]) rfl rfl rfl ?_
                        refine pm_R_cs pm_M212 (pc' := 29) (ra := [.long 0, .long z31260]) (rest := []) (ls' := [.long z31260, pm_no, .long 0, pm_no]) rfl rfl (Or.inl rfl) pm_M213 rfl rfl (Nat.le_of_ble_eq_true rfl) rfl rfl ?_
                        refine pm_R_lo pm_M213 (pc' := 1) rfl rfl rfl ?_
                        refine pm_R_lo pm_M213 (pc' := 2) rfl rfl rfl ?_
                        refine sf_R_lany pm_M213 (pc' := 3) (st := []) rfl rfl rfl (fun z31261 => ?_)
                        refine pm_R_ldc2 pm_M213 (pc' := 6) rfl rfl rfl ?_
                        refine sf_R_lcmp pm_M213 (pc' := 7) rfl rfl (fun z31262 e31263 => ?_)
                        refine pm_R_ifc pm_M213 (t := 16) (pc' := 10) rfl rfl rfl (fun c31264 => ?_) (fun c31264 => ?_)
                        · have B31265 : sf_B 0 2147483647 z31262 := sf_leR c31264 sf_k0 (sf_any z31262)
                          refine pm_R_ldc2 pm_M213 (pc' := 19) rfl rfl rfl ?_
                          refine pm_R_ret pm_M213 (r := some (.long 1000000000000)) rfl rfl ?_
                          show pm_R _ 212 29 [.long z25530, pm_no, .long z30638, pm_no] [.long 1000000000000] _ _
                          refine pm_R_ret pm_M212 (r := some (.long 1000000000000)) rfl rfl ?_
                          show pm_R _ 226 134 [.ref 41, .int a0, .int a1, .int a2, .int a3, .int x5_25480, .long z25530, pm_no, .int x8_30572, .long z30638, pm_no, .int z31247] [.long 1000000000000, .long z31254, .int z31247, .ref 56] _ _
                          refine pm_R_cs pm_M226 (pc' := 137) (ra := [.long 1000000000000, .long z31254]) (rest := [.int z31247, .ref 56]) (ls' := [.long z31254, pm_no, .long 1000000000000, pm_no]) (pm_q226_1 (Nat.le_of_ble_eq_true rfl)) rfl (Or.inl rfl) pm_M213 rfl rfl (Nat.le_of_ble_eq_true rfl) rfl rfl ?_
                          refine pm_R_lo pm_M213 (pc' := 1) rfl rfl rfl ?_
                          refine pm_R_lo pm_M213 (pc' := 2) rfl rfl rfl ?_
                          refine sf_R_lany pm_M213 (pc' := 3) (st := []) rfl rfl rfl (fun z31266 => ?_)
                          refine pm_R_ldc2 pm_M213 (pc' := 6) rfl rfl rfl ?_
                          refine sf_R_lcmp pm_M213 (pc' := 7) rfl rfl (fun z31267 e31268 => ?_)
                          refine pm_R_ifc pm_M213 (t := 16) (pc' := 10) rfl rfl rfl (fun c31269 => ?_) (fun c31269 => ?_)
                          · have B31270 : sf_B 0 2147483647 z31267 := sf_leR c31269 sf_k0 (sf_any z31267)
                            refine pm_R_ldc2 pm_M213 (pc' := 19) rfl rfl rfl ?_
                            refine pm_R_ret pm_M213 (r := some (.long 1000000000000)) rfl rfl ?_
                            show pm_R _ 226 137 [.ref 41, .int a0, .int a1, .int a2, .int a3, .int x5_25480, .long z25530, pm_no, .int x8_30572, .long z30638, pm_no, .int z31247] [.long 1000000000000, .int z31247, .ref 56] _ _
                            refine rf_R_lst pm_M226 T_30572 (pc' := 138) (pm_q226_1 (Nat.le_of_ble_eq_true rfl)) e30636 (by decide) (by decide) (sf_in B31249 (by decide) (by decide)) ⟨_, rfl⟩ rfl (fun h31271 T31272 F31273 => ?_)
                            have F31274 := F_30572.trans F31273
                            refine sf_R_iinc pm_M226 (pc' := 141) (ls' := fun z => [.ref 41, .int a0, .int a1, .int a2, .int a3, .int x5_25480, .long z25530, pm_no, .int z, .long z30638, pm_no, .int z31247]) (pm_q226_1 (Nat.le_of_ble_eq_true rfl)) B30581 rfl (by decide) (by decide) (by decide) (fun _ => rfl) rfl (fun z31275 e31276 B31277 => ?_)
                            show pm_R _ 226 141 [.ref 41, .int a0, .int a1, .int a2, .int a3, .int x5_25480, .long z25530, pm_no, .int z31275, .long z30638, pm_no, .int z31247] [] _ _
                            refine pm_R_br pm_M226 (pc' := 33) (pm_q226_1 (Nat.le_of_ble_eq_true rfl)) rfl ?_
                            exact ih_30572 _ (sf_up hN_30572 e31276 B30581 (by decide) (by decide)) h31271 m_30572 w_30572 z31275 (.long z30638) (pm_no) (.int z31247) T31272 F31274 W_30572 (sf_weak B31277 (by decide) (by decide)) rfl rfl rfl
                          · have B31278 : sf_B (-2147483648) (-1) z31267 := sf_ltL (Int32.not_le.mp c31269) (sf_any z31267) sf_k0
                            have k31279 := sf_lneB e31268 B31278 (by decide)
                            refine pm_R_lo pm_M213 (pc' := 11) rfl rfl rfl ?_
                            refine pm_R_lo pm_M213 (pc' := 12) rfl rfl rfl ?_
                            refine sf_R_lany pm_M213 (pc' := 13) (st := []) rfl rfl rfl (fun z31280 => ?_)
                            refine pm_R_br pm_M213 (pc' := 19) rfl rfl ?_
                            refine pm_R_ret pm_M213 (r := some (.long z31280)) rfl rfl ?_
                            show pm_R _ 226 137 [.ref 41, .int a0, .int a1, .int a2, .int a3, .int x5_25480, .long z25530, pm_no, .int x8_30572, .long z30638, pm_no, .int z31247] [.long z31280, .int z31247, .ref 56] _ _
                            refine rf_R_lst pm_M226 T_30572 (pc' := 138) (pm_q226_1 (Nat.le_of_ble_eq_true rfl)) e30636 (by decide) (by decide) (sf_in B31249 (by decide) (by decide)) ⟨_, rfl⟩ rfl (fun h31281 T31282 F31283 => ?_)
                            have F31284 := F_30572.trans F31283
                            refine sf_R_iinc pm_M226 (pc' := 141) (ls' := fun z => [.ref 41, .int a0, .int a1, .int a2, .int a3, .int x5_25480, .long z25530, pm_no, .int z, .long z30638, pm_no, .int z31247]) (pm_q226_1 (Nat.le_of_ble_eq_true rfl)) B30581 rfl (by decide) (by decide) (by decide) (fun _ => rfl) rfl (fun z31285 e31286 B31287 => ?_)
                            show pm_R _ 226 141 [.ref 41, .int a0, .int a1, .int a2, .int a3, .int x5_25480, .long z25530, pm_no, .int z31285, .long z30638, pm_no, .int z31247] [] _ _
                            refine pm_R_br pm_M226 (pc' := 33) (pm_q226_1 (Nat.le_of_ble_eq_true rfl)) rfl ?_
                            exact ih_30572 _ (sf_up hN_30572 e31286 B30581 (by decide) (by decide)) h31281 m_30572 w_30572 z31285 (.long z30638) (pm_no) (.int z31247) T31282 F31284 W_30572 (sf_weak B31287 (by decide) (by decide)) rfl rfl rfl
                        · have B31288 : sf_B (-2147483648) (-1) z31262 := sf_ltL (Int32.not_le.mp c31264) (sf_any z31262) sf_k0
                          have k31289 := sf_lneB e31263 B31288 (by decide)
                          refine pm_R_lo pm_M213 (pc' := 11) rfl rfl rfl ?_
                          refine pm_R_lo pm_M213 (pc' := 12) rfl rfl rfl ?_
                          refine sf_R_lany pm_M213 (pc' := 13) (st := []) rfl rfl rfl (fun z31290 => ?_)
                          refine pm_R_br pm_M213 (pc' := 19) rfl rfl ?_
                          refine pm_R_ret pm_M213 (r := some (.long z31290)) rfl rfl ?_
                          show pm_R _ 212 29 [.long z25530, pm_no, .long z30638, pm_no] [.long z31290] _ _
                          refine pm_R_ret pm_M212 (r := some (.long z31290)) rfl rfl ?_
                          show pm_R _ 226 134 [.ref 41, .int a0, .int a1, .int a2, .int a3, .int x5_25480, .long z25530, pm_no, .int x8_30572, .long z30638, pm_no, .int z31247] [.long z31290, .long z31254, .int z31247, .ref 56] _ _
                          refine pm_R_cs pm_M226 (pc' := 137) (ra := [.long z31290, .long z31254]) (rest := [.int z31247, .ref 56]) (ls' := [.long z31254, pm_no, .long z31290, pm_no]) (pm_q226_1 (Nat.le_of_ble_eq_true rfl)) rfl (Or.inl rfl) pm_M213 rfl rfl (Nat.le_of_ble_eq_true rfl) rfl rfl ?_
                          refine pm_R_lo pm_M213 (pc' := 1) rfl rfl rfl ?_
                          refine pm_R_lo pm_M213 (pc' := 2) rfl rfl rfl ?_
                          refine sf_R_lany pm_M213 (pc' := 3) (st := []) rfl rfl rfl (fun z31291 => ?_)
                          refine pm_R_ldc2 pm_M213 (pc' := 6) rfl rfl rfl ?_
                          refine sf_R_lcmp pm_M213 (pc' := 7) rfl rfl (fun z31292 e31293 => ?_)
                          refine pm_R_ifc pm_M213 (t := 16) (pc' := 10) rfl rfl rfl (fun c31294 => ?_) (fun c31294 => ?_)
                          · have B31295 : sf_B 0 2147483647 z31292 := sf_leR c31294 sf_k0 (sf_any z31292)
                            refine pm_R_ldc2 pm_M213 (pc' := 19) rfl rfl rfl ?_
                            refine pm_R_ret pm_M213 (r := some (.long 1000000000000)) rfl rfl ?_
                            show pm_R _ 226 137 [.ref 41, .int a0, .int a1, .int a2, .int a3, .int x5_25480, .long z25530, pm_no, .int x8_30572, .long z30638, pm_no, .int z31247] [.long 1000000000000, .int z31247, .ref 56] _ _
                            refine rf_R_lst pm_M226 T_30572 (pc' := 138) (pm_q226_1 (Nat.le_of_ble_eq_true rfl)) e30636 (by decide) (by decide) (sf_in B31249 (by decide) (by decide)) ⟨_, rfl⟩ rfl (fun h31296 T31297 F31298 => ?_)
                            have F31299 := F_30572.trans F31298
                            refine sf_R_iinc pm_M226 (pc' := 141) (ls' := fun z => [.ref 41, .int a0, .int a1, .int a2, .int a3, .int x5_25480, .long z25530, pm_no, .int z, .long z30638, pm_no, .int z31247]) (pm_q226_1 (Nat.le_of_ble_eq_true rfl)) B30581 rfl (by decide) (by decide) (by decide) (fun _ => rfl) rfl (fun z31300 e31301 B31302 => ?_)
                            show pm_R _ 226 141 [.ref 41, .int a0, .int a1, .int a2, .int a3, .int x5_25480, .long z25530, pm_no, .int z31300, .long z30638, pm_no, .int z31247] [] _ _
                            refine pm_R_br pm_M226 (pc' := 33) (pm_q226_1 (Nat.le_of_ble_eq_true rfl)) rfl ?_
                            exact ih_30572 _ (sf_up hN_30572 e31301 B30581 (by decide) (by decide)) h31296 m_30572 w_30572 z31300 (.long z30638) (pm_no) (.int z31247) T31297 F31299 W_30572 (sf_weak B31302 (by decide) (by decide)) rfl rfl rfl
                          · have B31303 : sf_B (-2147483648) (-1) z31292 := sf_ltL (Int32.not_le.mp c31294) (sf_any z31292) sf_k0
                            have k31304 := sf_lneB e31293 B31303 (by decide)
                            refine pm_R_lo pm_M213 (pc' := 11) rfl rfl rfl ?_
                            refine pm_R_lo pm_M213 (pc' := 12) rfl rfl rfl ?_
                            refine sf_R_lany pm_M213 (pc' := 13) (st := []) rfl rfl rfl (fun z31305 => ?_)
                            refine pm_R_br pm_M213 (pc' := 19) rfl rfl ?_
                            refine pm_R_ret pm_M213 (r := some (.long z31305)) rfl rfl ?_
                            show pm_R _ 226 137 [.ref 41, .int a0, .int a1, .int a2, .int a3, .int x5_25480, .long z25530, pm_no, .int x8_30572, .long z30638, pm_no, .int z31247] [.long z31305, .int z31247, .ref 56] _ _
                            refine rf_R_lst pm_M226 T_30572 (pc' := 138) (pm_q226_1 (Nat.le_of_ble_eq_true rfl)) e30636 (by decide) (by decide) (sf_in B31249 (by decide) (by decide)) ⟨_, rfl⟩ rfl (fun h31306 T31307 F31308 => ?_)
                            have F31309 := F_30572.trans F31308
                            refine sf_R_iinc pm_M226 (pc' := 141) (ls' := fun z => [.ref 41, .int a0, .int a1, .int a2, .int a3, .int x5_25480, .long z25530, pm_no, .int z, .long z30638, pm_no, .int z31247]) (pm_q226_1 (Nat.le_of_ble_eq_true rfl)) B30581 rfl (by decide) (by decide) (by decide) (fun _ => rfl) rfl (fun z31310 e31311 B31312 => ?_)
                            show pm_R _ 226 141 [.ref 41, .int a0, .int a1, .int a2, .int a3, .int x5_25480, .long z25530, pm_no, .int z31310, .long z30638, pm_no, .int z31247] [] _ _
                            refine pm_R_br pm_M226 (pc' := 33) (pm_q226_1 (Nat.le_of_ble_eq_true rfl)) rfl ?_
                            exact ih_30572 _ (sf_up hN_30572 e31311 B30581 (by decide) (by decide)) h31306 m_30572 w_30572 z31310 (.long z30638) (pm_no) (.int z31247) T31307 F31309 W_30572 (sf_weak B31312 (by decide) (by decide)) rfl rfl rfl
                      · have B31313 : sf_B 1 2147483647 z31256 := sf_ltR (Int32.not_le.mp c31258) sf_k0 (sf_any z31256)
                        have k31314 := sf_lneA e31257 B31313 (by decide)
                        refine pm_R_lo pm_M212 (pc' := 7) rfl rfl rfl ?_
                        refine pm_R_ldc2 pm_M212 (pc' := 10) rfl rfl rfl ?_
                        refine pm_R_lo pm_M212 (pc' := 11) rfl rfl rfl ?_
                        refine sf_R_ldivA pm_M212 (pc' := 12) rfl rfl k31314 (fun z31315 => ?_)
                        refine sf_R_lcmp pm_M212 (pc' := 13) rfl rfl (fun z31316 e31317 => ?_)
                        refine pm_R_ifc pm_M212 (t := 22) (pc' := 16) rfl rfl rfl (fun c31318 => ?_) (fun c31318 => ?_)
                        · have B31319 : sf_B (-2147483648) 0 z31316 := sf_leL c31318 (sf_any z31316) sf_k0
                          refine pm_R_lo pm_M212 (pc' := 23) rfl rfl rfl ?_
                          refine pm_R_lo pm_M212 (pc' := 24) rfl rfl rfl ?_
                          refine sf_R_lany pm_M212 (pc' := 25) (st := []) rfl rfl rfl (fun z31320 => ?_)
                          refine pm_R_op pm_M212 (pc' := 26) (st' := [.long 0, .long z31320]) rfl rfl rfl ?_
                          refine pm_R_cs pm_M212 (pc' := 29) (ra := [.long 0, .long z31320]) (rest := []) (ls' := [.long z31320, pm_no, .long 0, pm_no]) rfl rfl (Or.inl rfl) pm_M213 rfl rfl (Nat.le_of_ble_eq_true rfl) rfl rfl ?_
                          refine pm_R_lo pm_M213 (pc' := 1) rfl rfl rfl ?_
                          refine pm_R_lo pm_M213 (pc' := 2) rfl rfl rfl ?_
                          refine sf_R_lany pm_M213 (pc' := 3) (st := []) rfl rfl rfl (fun z31321 => ?_)
                          refine pm_R_ldc2 pm_M213 (pc' := 6) rfl rfl rfl ?_
                          refine sf_R_lcmp pm_M213 (pc' := 7) rfl rfl (fun z31322 e31323 => ?_)
                          refine pm_R_ifc pm_M213 (t := 16) (pc' := 10) rfl rfl rfl (fun c31324 => ?_) (fun c31324 => ?_)
                          · have B31325 : sf_B 0 2147483647 z31322 := sf_leR c31324 sf_k0 (sf_any z31322)
                            refine pm_R_ldc2 pm_M213 (pc' := 19) rfl rfl rfl ?_
                            refine pm_R_ret pm_M213 (r := some (.long 1000000000000)) rfl rfl ?_
                            show pm_R _ 212 29 [.long z25530, pm_no, .long z30638, pm_no] [.long 1000000000000] _ _
                            refine pm_R_ret pm_M212 (r := some (.long 1000000000000)) rfl rfl ?_
                            show pm_R _ 226 134 [.ref 41, .int a0, .int a1, .int a2, .int a3, .int x5_25480, .long z25530, pm_no, .int x8_30572, .long z30638, pm_no, .int z31247] [.long 1000000000000, .long z31254, .int z31247, .ref 56] _ _
                            refine pm_R_cs pm_M226 (pc' := 137) (ra := [.long 1000000000000, .long z31254]) (rest := [.int z31247, .ref 56]) (ls' := [.long z31254, pm_no, .long 1000000000000, pm_no]) (pm_q226_1 (Nat.le_of_ble_eq_true rfl)) rfl (Or.inl rfl) pm_M213 rfl rfl (Nat.le_of_ble_eq_true rfl) rfl rfl ?_
                            refine pm_R_lo pm_M213 (pc' := 1) rfl rfl rfl ?_
                            refine pm_R_lo pm_M213 (pc' := 2) rfl rfl rfl ?_
                            refine sf_R_lany pm_M213 (pc' := 3) (st := []) rfl rfl rfl (fun z31326 => ?_)
                            refine pm_R_ldc2 pm_M213 (pc' := 6) rfl rfl rfl ?_
                            refine sf_R_lcmp pm_M213 (pc' := 7) rfl rfl (fun z31327 e31328 => ?_)
                            refine pm_R_ifc pm_M213 (t := 16) (pc' := 10) rfl rfl rfl (fun c31329 => ?_) (fun c31329 => ?_)
                            · have B31330 : sf_B 0 2147483647 z31327 := sf_leR c31329 sf_k0 (sf_any z31327)
                              refine pm_R_ldc2 pm_M213 (pc' := 19) rfl rfl rfl ?_
                              refine pm_R_ret pm_M213 (r := some (.long 1000000000000)) rfl rfl ?_
                              show pm_R _ 226 137 [.ref 41, .int a0, .int a1, .int a2, .int a3, .int x5_25480, .long z25530, pm_no, .int x8_30572, .long z30638, pm_no, .int z31247] [.long 1000000000000, .int z31247, .ref 56] _ _
                              refine rf_R_lst pm_M226 T_30572 (pc' := 138) (pm_q226_1 (Nat.le_of_ble_eq_true rfl)) e30636 (by decide) (by decide) (sf_in B31249 (by decide) (by decide)) ⟨_, rfl⟩ rfl (fun h31331 T31332 F31333 => ?_)
                              have F31334 := F_30572.trans F31333
                              refine sf_R_iinc pm_M226 (pc' := 141) (ls' := fun z => [.ref 41, .int a0, .int a1, .int a2, .int a3, .int x5_25480, .long z25530, pm_no, .int z, .long z30638, pm_no, .int z31247]) (pm_q226_1 (Nat.le_of_ble_eq_true rfl)) B30581 rfl (by decide) (by decide) (by decide) (fun _ => rfl) rfl (fun z31335 e31336 B31337 => ?_)
                              show pm_R _ 226 141 [.ref 41, .int a0, .int a1, .int a2, .int a3, .int x5_25480, .long z25530, pm_no, .int z31335, .long z30638, pm_no, .int z31247] [] _ _
                              refine pm_R_br pm_M226 (pc' := 33) (pm_q226_1 (Nat.le_of_ble_eq_true rfl)) rfl ?_
                              exact ih_30572 _ (sf_up hN_30572 e31336 B30581 (by decide) (by decide)) h31331 m_30572 w_30572 z31335 (.long z30638) (pm_no) (.int z31247) T31332 F31334 W_30572 (sf_weak B31337 (by decide) (by decide)) rfl rfl rfl
                            · have B31338 : sf_B (-2147483648) (-1) z31327 := sf_ltL (Int32.not_le.mp c31329) (sf_any z31327) sf_k0
                              have k31339 := sf_lneB e31328 B31338 (by decide)
                              refine pm_R_lo pm_M213 (pc' := 11) rfl rfl rfl ?_
                              refine pm_R_lo pm_M213 (pc' := 12) rfl rfl rfl ?_
                              refine sf_R_lany pm_M213 (pc' := 13) (st := []) rfl rfl rfl (fun z31340 => ?_)
                              refine pm_R_br pm_M213 (pc' := 19) rfl rfl ?_
                              refine pm_R_ret pm_M213 (r := some (.long z31340)) rfl rfl ?_
                              show pm_R _ 226 137 [.ref 41, .int a0, .int a1, .int a2, .int a3, .int x5_25480, .long z25530, pm_no, .int x8_30572, .long z30638, pm_no, .int z31247] [.long z31340, .int z31247, .ref 56] _ _
                              refine rf_R_lst pm_M226 T_30572 (pc' := 138) (pm_q226_1 (Nat.le_of_ble_eq_true rfl)) e30636 (by decide) (by decide) (sf_in B31249 (by decide) (by decide)) ⟨_, rfl⟩ rfl (fun h31341 T31342 F31343 => ?_)
                              have F31344 := F_30572.trans F31343
                              refine sf_R_iinc pm_M226 (pc' := 141) (ls' := fun z => [.ref 41, .int a0, .int a1, .int a2, .int a3, .int x5_25480, .long z25530, pm_no, .int z, .long z30638, pm_no, .int z31247]) (pm_q226_1 (Nat.le_of_ble_eq_true rfl)) B30581 rfl (by decide) (by decide) (by decide) (fun _ => rfl) rfl (fun z31345 e31346 B31347 => ?_)
                              show pm_R _ 226 141 [.ref 41, .int a0, .int a1, .int a2, .int a3, .int x5_25480, .long z25530, pm_no, .int z31345, .long z30638, pm_no, .int z31247] [] _ _
                              refine pm_R_br pm_M226 (pc' := 33) (pm_q226_1 (Nat.le_of_ble_eq_true rfl)) rfl ?_
                              exact ih_30572 _ (sf_up hN_30572 e31346 B30581 (by decide) (by decide)) h31341 m_30572 w_30572 z31345 (.long z30638) (pm_no) (.int z31247) T31342 F31344 W_30572 (sf_weak B31347 (by decide) (by decide)) rfl rfl rfl
                          · have B31348 : sf_B (-2147483648) (-1) z31322 := sf_ltL (Int32.not_le.mp c31324) (sf_any z31322) sf_k0
                            have k31349 := sf_lneB e31323 B31348 (by decide)
                            refine pm_R_lo pm_M213 (pc' := 11) rfl rfl rfl ?_
                            refine pm_R_lo pm_M213 (pc' := 12) rfl rfl rfl ?_
                            refine sf_R_lany pm_M213 (pc' := 13) (st := []) rfl rfl rfl (fun z31350 => ?_)
                            refine pm_R_br pm_M213 (pc' := 19) rfl rfl ?_
                            refine pm_R_ret pm_M213 (r := some (.long z31350)) rfl rfl ?_
                            show pm_R _ 212 29 [.long z25530, pm_no, .long z30638, pm_no] [.long z31350] _ _
                            refine pm_R_ret pm_M212 (r := some (.long z31350)) rfl rfl ?_
                            show pm_R _ 226 134 [.ref 41, .int a0, .int a1, .int a2, .int a3, .int x5_25480, .long z25530, pm_no, .int x8_30572, .long z30638, pm_no, .int z31247] [.long z31350, .long z31254, .int z31247, .ref 56] _ _
                            refine pm_R_cs pm_M226 (pc' := 137) (ra := [.long z31350, .long z31254]) (rest := [.int z31247, .ref 56]) (ls' := [.long z31254, pm_no, .long z31350, pm_no]) (pm_q226_1 (Nat.le_of_ble_eq_true rfl)) rfl (Or.inl rfl) pm_M213 rfl rfl (Nat.le_of_ble_eq_true rfl) rfl rfl ?_
                            refine pm_R_lo pm_M213 (pc' := 1) rfl rfl rfl ?_
                            refine pm_R_lo pm_M213 (pc' := 2) rfl rfl rfl ?_
                            refine sf_R_lany pm_M213 (pc' := 3) (st := []) rfl rfl rfl (fun z31351 => ?_)
                            refine pm_R_ldc2 pm_M213 (pc' := 6) rfl rfl rfl ?_
                            refine sf_R_lcmp pm_M213 (pc' := 7) rfl rfl (fun z31352 e31353 => ?_)
                            refine pm_R_ifc pm_M213 (t := 16) (pc' := 10) rfl rfl rfl (fun c31354 => ?_) (fun c31354 => ?_)
                            · have B31355 : sf_B 0 2147483647 z31352 := sf_leR c31354 sf_k0 (sf_any z31352)
                              refine pm_R_ldc2 pm_M213 (pc' := 19) rfl rfl rfl ?_
                              refine pm_R_ret pm_M213 (r := some (.long 1000000000000)) rfl rfl ?_
                              show pm_R _ 226 137 [.ref 41, .int a0, .int a1, .int a2, .int a3, .int x5_25480, .long z25530, pm_no, .int x8_30572, .long z30638, pm_no, .int z31247] [.long 1000000000000, .int z31247, .ref 56] _ _
                              refine rf_R_lst pm_M226 T_30572 (pc' := 138) (pm_q226_1 (Nat.le_of_ble_eq_true rfl)) e30636 (by decide) (by decide) (sf_in B31249 (by decide) (by decide)) ⟨_, rfl⟩ rfl (fun h31356 T31357 F31358 => ?_)
                              have F31359 := F_30572.trans F31358
                              refine sf_R_iinc pm_M226 (pc' := 141) (ls' := fun z => [.ref 41, .int a0, .int a1, .int a2, .int a3, .int x5_25480, .long z25530, pm_no, .int z, .long z30638, pm_no, .int z31247]) (pm_q226_1 (Nat.le_of_ble_eq_true rfl)) B30581 rfl (by decide) (by decide) (by decide) (fun _ => rfl) rfl (fun z31360 e31361 B31362 => ?_)
                              show pm_R _ 226 141 [.ref 41, .int a0, .int a1, .int a2, .int a3, .int x5_25480, .long z25530, pm_no, .int z31360, .long z30638, pm_no, .int z31247] [] _ _
                              refine pm_R_br pm_M226 (pc' := 33) (pm_q226_1 (Nat.le_of_ble_eq_true rfl)) rfl ?_
                              exact ih_30572 _ (sf_up hN_30572 e31361 B30581 (by decide) (by decide)) h31356 m_30572 w_30572 z31360 (.long z30638) (pm_no) (.int z31247) T31357 F31359 W_30572 (sf_weak B31362 (by decide) (by decide)) rfl rfl rfl
                            · have B31363 : sf_B (-2147483648) (-1) z31352 := sf_ltL (Int32.not_le.mp c31354) (sf_any z31352) sf_k0
                              have k31364 := sf_lneB e31353 B31363 (by decide)
                              refine pm_R_lo pm_M213 (pc' := 11) rfl rfl rfl ?_
                              refine pm_R_lo pm_M213 (pc' := 12) rfl rfl rfl ?_
                              refine sf_R_lany pm_M213 (pc' := 13) (st := []) rfl rfl rfl (fun z31365 => ?_)
                              refine pm_R_br pm_M213 (pc' := 19) rfl rfl ?_
                              refine pm_R_ret pm_M213 (r := some (.long z31365)) rfl rfl ?_
                              show pm_R _ 226 137 [.ref 41, .int a0, .int a1, .int a2, .int a3, .int x5_25480, .long z25530, pm_no, .int x8_30572, .long z30638, pm_no, .int z31247] [.long z31365, .int z31247, .ref 56] _ _
                              refine rf_R_lst pm_M226 T_30572 (pc' := 138) (pm_q226_1 (Nat.le_of_ble_eq_true rfl)) e30636 (by decide) (by decide) (sf_in B31249 (by decide) (by decide)) ⟨_, rfl⟩ rfl (fun h31366 T31367 F31368 => ?_)
                              have F31369 := F_30572.trans F31368
                              refine sf_R_iinc pm_M226 (pc' := 141) (ls' := fun z => [.ref 41, .int a0, .int a1, .int a2, .int a3, .int x5_25480, .long z25530, pm_no, .int z, .long z30638, pm_no, .int z31247]) (pm_q226_1 (Nat.le_of_ble_eq_true rfl)) B30581 rfl (by decide) (by decide) (by decide) (fun _ => rfl) rfl (fun z31370 e31371 B31372 => ?_)
                              show pm_R _ 226 141 [.ref 41, .int a0, .int a1, .int a2, .int a3, .int x5_25480, .long z25530, pm_no, .int z31370, .long z30638, pm_no, .int z31247] [] _ _
                              refine pm_R_br pm_M226 (pc' := 33) (pm_q226_1 (Nat.le_of_ble_eq_true rfl)) rfl ?_
                              exact ih_30572 _ (sf_up hN_30572 e31371 B30581 (by decide) (by decide)) h31366 m_30572 w_30572 z31370 (.long z30638) (pm_no) (.int z31247) T31367 F31369 W_30572 (sf_weak B31372 (by decide) (by decide)) rfl rfl rfl
                        · have B31373 : sf_B 1 2147483647 z31316 := sf_ltR (Int32.not_le.mp c31318) sf_k0 (sf_any z31316)
                          have k31374 := sf_lneA e31317 B31373 (by decide)
                          refine pm_R_ldc2 pm_M212 (pc' := 19) rfl rfl rfl ?_
                          refine pm_R_br pm_M212 (pc' := 29) rfl rfl ?_
                          refine pm_R_ret pm_M212 (r := some (.long 1000000000000)) rfl rfl ?_
                          show pm_R _ 226 134 [.ref 41, .int a0, .int a1, .int a2, .int a3, .int x5_25480, .long z25530, pm_no, .int x8_30572, .long z30638, pm_no, .int z31247] [.long 1000000000000, .long z31254, .int z31247, .ref 56] _ _
                          refine pm_R_cs pm_M226 (pc' := 137) (ra := [.long 1000000000000, .long z31254]) (rest := [.int z31247, .ref 56]) (ls' := [.long z31254, pm_no, .long 1000000000000, pm_no]) (pm_q226_1 (Nat.le_of_ble_eq_true rfl)) rfl (Or.inl rfl) pm_M213 rfl rfl (Nat.le_of_ble_eq_true rfl) rfl rfl ?_
                          refine pm_R_lo pm_M213 (pc' := 1) rfl rfl rfl ?_
                          refine pm_R_lo pm_M213 (pc' := 2) rfl rfl rfl ?_
                          refine sf_R_lany pm_M213 (pc' := 3) (st := []) rfl rfl rfl (fun z31375 => ?_)
                          refine pm_R_ldc2 pm_M213 (pc' := 6) rfl rfl rfl ?_
                          refine sf_R_lcmp pm_M213 (pc' := 7) rfl rfl (fun z31376 e31377 => ?_)
                          refine pm_R_ifc pm_M213 (t := 16) (pc' := 10) rfl rfl rfl (fun c31378 => ?_) (fun c31378 => ?_)
                          · have B31379 : sf_B 0 2147483647 z31376 := sf_leR c31378 sf_k0 (sf_any z31376)
                            refine pm_R_ldc2 pm_M213 (pc' := 19) rfl rfl rfl ?_
                            refine pm_R_ret pm_M213 (r := some (.long 1000000000000)) rfl rfl ?_
                            show pm_R _ 226 137 [.ref 41, .int a0, .int a1, .int a2, .int a3, .int x5_25480, .long z25530, pm_no, .int x8_30572, .long z30638, pm_no, .int z31247] [.long 1000000000000, .int z31247, .ref 56] _ _
                            refine rf_R_lst pm_M226 T_30572 (pc' := 138) (pm_q226_1 (Nat.le_of_ble_eq_true rfl)) e30636 (by decide) (by decide) (sf_in B31249 (by decide) (by decide)) ⟨_, rfl⟩ rfl (fun h31380 T31381 F31382 => ?_)
                            have F31383 := F_30572.trans F31382
                            refine sf_R_iinc pm_M226 (pc' := 141) (ls' := fun z => [.ref 41, .int a0, .int a1, .int a2, .int a3, .int x5_25480, .long z25530, pm_no, .int z, .long z30638, pm_no, .int z31247]) (pm_q226_1 (Nat.le_of_ble_eq_true rfl)) B30581 rfl (by decide) (by decide) (by decide) (fun _ => rfl) rfl (fun z31384 e31385 B31386 => ?_)
                            show pm_R _ 226 141 [.ref 41, .int a0, .int a1, .int a2, .int a3, .int x5_25480, .long z25530, pm_no, .int z31384, .long z30638, pm_no, .int z31247] [] _ _
                            refine pm_R_br pm_M226 (pc' := 33) (pm_q226_1 (Nat.le_of_ble_eq_true rfl)) rfl ?_
                            exact ih_30572 _ (sf_up hN_30572 e31385 B30581 (by decide) (by decide)) h31380 m_30572 w_30572 z31384 (.long z30638) (pm_no) (.int z31247) T31381 F31383 W_30572 (sf_weak B31386 (by decide) (by decide)) rfl rfl rfl
                          · have B31387 : sf_B (-2147483648) (-1) z31376 := sf_ltL (Int32.not_le.mp c31378) (sf_any z31376) sf_k0
                            have k31388 := sf_lneB e31377 B31387 (by decide)
                            refine pm_R_lo pm_M213 (pc' := 11) rfl rfl rfl ?_
                            refine pm_R_lo pm_M213 (pc' := 12) rfl rfl rfl ?_
                            refine sf_R_lany pm_M213 (pc' := 13) (st := []) rfl rfl rfl (fun z31389 => ?_)
                            refine pm_R_br pm_M213 (pc' := 19) rfl rfl ?_
                            refine pm_R_ret pm_M213 (r := some (.long z31389)) rfl rfl ?_
                            show pm_R _ 226 137 [.ref 41, .int a0, .int a1, .int a2, .int a3, .int x5_25480, .long z25530, pm_no, .int x8_30572, .long z30638, pm_no, .int z31247] [.long z31389, .int z31247, .ref 56] _ _
                            refine rf_R_lst pm_M226 T_30572 (pc' := 138) (pm_q226_1 (Nat.le_of_ble_eq_true rfl)) e30636 (by decide) (by decide) (sf_in B31249 (by decide) (by decide)) ⟨_, rfl⟩ rfl (fun h31390 T31391 F31392 => ?_)
                            have F31393 := F_30572.trans F31392
                            refine sf_R_iinc pm_M226 (pc' := 141) (ls' := fun z => [.ref 41, .int a0, .int a1, .int a2, .int a3, .int x5_25480, .long z25530, pm_no, .int z, .long z30638, pm_no, .int z31247]) (pm_q226_1 (Nat.le_of_ble_eq_true rfl)) B30581 rfl (by decide) (by decide) (by decide) (fun _ => rfl) rfl (fun z31394 e31395 B31396 => ?_)
                            show pm_R _ 226 141 [.ref 41, .int a0, .int a1, .int a2, .int a3, .int x5_25480, .long z25530, pm_no, .int z31394, .long z30638, pm_no, .int z31247] [] _ _
                            refine pm_R_br pm_M226 (pc' := 33) (pm_q226_1 (Nat.le_of_ble_eq_true rfl)) rfl ?_
                            exact ih_30572 _ (sf_up hN_30572 e31395 B30581 (by decide) (by decide)) h31390 m_30572 w_30572 z31394 (.long z30638) (pm_no) (.int z31247) T31391 F31393 W_30572 (sf_weak B31396 (by decide) (by decide)) rfl rfl rfl
                    · have B31397 : sf_B 0 0 z31250 := sf_eqL (Classical.not_not.mp c31252) sf_k0
                      refine pm_R_lo pm_M226 (pc' := 111) (pm_q226_1 (Nat.le_of_ble_eq_true rfl)) rfl rfl ?_
                      refine rf_R_get pm_M226 T_30572 (pc' := 114) (v := .ref 56) (pm_q226_1 (Nat.le_of_ble_eq_true rfl)) rfl rfl rfl ?_
                      refine pm_R_lo pm_M226 (pc' := 116) (pm_q226_1 (Nat.le_of_ble_eq_true rfl)) rfl rfl ?_
                      refine rf_R_lld pm_M226 T_30572 (pc' := 117) (pm_q226_1 (Nat.le_of_ble_eq_true rfl)) e30636 (by decide) (by decide) (sf_in B31249 (by decide) (by decide)) rfl (fun z31398 ez31399 => ?_)
                      refine pm_R_br pm_M226 (pc' := 137) (pm_q226_1 (Nat.le_of_ble_eq_true rfl)) rfl ?_
                      refine rf_R_lst pm_M226 T_30572 (pc' := 138) (pm_q226_1 (Nat.le_of_ble_eq_true rfl)) e30636 (by decide) (by decide) (sf_in B31249 (by decide) (by decide)) ⟨_, rfl⟩ rfl (fun h31400 T31401 F31402 => ?_)
                      have F31403 := F_30572.trans F31402
                      refine sf_R_iinc pm_M226 (pc' := 141) (ls' := fun z => [.ref 41, .int a0, .int a1, .int a2, .int a3, .int x5_25480, .long z25530, pm_no, .int z, .long z30638, pm_no, .int z31247]) (pm_q226_1 (Nat.le_of_ble_eq_true rfl)) B30581 rfl (by decide) (by decide) (by decide) (fun _ => rfl) rfl (fun z31404 e31405 B31406 => ?_)
                      show pm_R _ 226 141 [.ref 41, .int a0, .int a1, .int a2, .int a3, .int x5_25480, .long z25530, pm_no, .int z31404, .long z30638, pm_no, .int z31247] [] _ _
                      refine pm_R_br pm_M226 (pc' := 33) (pm_q226_1 (Nat.le_of_ble_eq_true rfl)) rfl ?_
                      exact ih_30572 _ (sf_up hN_30572 e31405 B30581 (by decide) (by decide)) h31400 m_30572 w_30572 z31404 (.long z30638) (pm_no) (.int z31247) T31401 F31403 W_30572 (sf_weak B31406 (by decide) (by decide)) rfl rfl rfl
                · have B31407 : sf_B 0 0 z30674 := sf_eqL (Classical.not_not.mp c30678) sf_k0
                  refine pm_R_lo pm_M227 (pc' := 5) rfl rfl rfl ?_
                  refine pm_R_br pm_M227 (pc' := 52) rfl rfl ?_
                  refine pm_R_ret pm_M227 (r := some (.int x5_25480)) rfl (pm_ret_i _) ?_
                  show pm_R _ 226 92 [.ref 41, .int a0, .int a1, .int a2, .int a3, .int x5_25480, .long z25530, pm_no, .int x8_30572, .long z30638, pm_no, g11_30572] [.int x5_25480, .int a3, .int a1, .int z30655] _ _
                  refine pm_R_cs pm_M226 (pc' := 95) (ra := [.int x5_25480, .int a3, .int a1, .int z30655]) (rest := []) (ls' := [.int z30655, .int a1, .int a3, .int x5_25480]) rfl rfl (Or.inl rfl) pm_M225 rfl rfl (Nat.le_of_ble_eq_true rfl) rfl rfl ?_
                  refine pm_R_op pm_M225 (pc' := 2) (st' := [.int 50]) rfl rfl rfl ?_
                  refine pm_R_lo pm_M225 (pc' := 3) rfl rfl rfl ?_
                  refine pm_R_lo pm_M225 (pc' := 4) rfl rfl rfl ?_
                  refine pm_R_lo pm_M225 (pc' := 5) rfl rfl rfl ?_
                  refine pm_R_cs pm_M225 (pc' := 8) (ra := [.int a3, .int a1, .int z30655]) (rest := [.int 50]) (ls' := [.int z30655, .int a1, .int a3]) rfl rfl (Or.inl rfl) pm_M207 rfl rfl (Nat.le_of_ble_eq_true rfl) rfl rfl ?_
                  refine pm_R_op pm_M207 (pc' := 3) (st' := [.int 144]) rfl rfl rfl ?_
                  refine pm_R_lo pm_M207 (pc' := 4) rfl rfl rfl ?_
                  refine sf_R_imul pm_M207 (pc' := 5) rfl rfl sf_k144 B30658 (by decide) (by decide) (by decide) (fun z31408 e31409 B31410 => ?_)
                  refine pm_R_op pm_M207 (pc' := 7) (st' := [.int 12, .int z31408]) rfl rfl rfl ?_
                  refine pm_R_lo pm_M207 (pc' := 8) rfl rfl rfl ?_
                  refine sf_R_imul pm_M207 (pc' := 9) rfl rfl sf_k12 Ba1 (by decide) (by decide) (by decide) (fun z31411 e31412 B31413 => ?_)
                  refine sf_R_iadd pm_M207 (pc' := 10) rfl rfl B31410 B31413 (by decide) (by decide) (fun z31414 e31415 B31416 => ?_)
                  refine pm_R_lo pm_M207 (pc' := 11) rfl rfl rfl ?_
                  refine sf_R_iadd pm_M207 (pc' := 12) rfl rfl B31416 Ba3 (by decide) (by decide) (fun z31417 e31418 B31419 => ?_)
                  refine pm_R_ret pm_M207 (r := some (.int z31417)) rfl (pm_ret_i _) ?_
                  show pm_R _ 225 8 [.int z30655, .int a1, .int a3, .int x5_25480] [.int z31417, .int 50] _ _
                  refine sf_R_imul pm_M225 (pc' := 9) rfl rfl sf_k50 B31419 (by decide) (by decide) (by decide) (fun z31420 e31421 B31422 => ?_)
                  refine pm_R_lo pm_M225 (pc' := 10) rfl rfl rfl ?_
                  refine sf_R_iadd pm_M225 (pc' := 11) rfl rfl B31422 B25485 (by decide) (by decide) (fun z31423 e31424 B31425 => ?_)
                  refine pm_R_ret pm_M225 (r := some (.int z31423)) rfl (pm_ret_i _) ?_
                  show pm_R _ 226 95 [.ref 41, .int a0, .int a1, .int a2, .int a3, .int x5_25480, .long z25530, pm_no, .int x8_30572, .long z30638, pm_no, g11_30572] [.int z31423] _ _
                  refine pm_R_lo pm_M226 (pc' := 97) (ls' := [.ref 41, .int a0, .int a1, .int a2, .int a3, .int x5_25480, .long z25530, pm_no, .int x8_30572, .long z30638, pm_no, .int z31423]) (st' := []) rfl rfl rfl ?_
                  refine pm_R_lo pm_M226 (pc' := 98) rfl rfl rfl ?_
                  refine rf_R_get pm_M226 T_30572 (pc' := 101) (v := .ref 56) rfl rfl rfl rfl ?_
                  refine pm_R_lo pm_M226 (pc' := 103) rfl rfl rfl ?_
                  refine pm_R_lo pm_M226 (pc' := 105) rfl rfl rfl ?_
                  refine pm_R_op pm_M226 (pc' := 106) (st' := [.long 0, .long z30638, .int z31423, .ref 56]) rfl rfl rfl ?_
                  refine sf_R_lcmp pm_M226 (pc' := 107) (pm_q226_1 (Nat.le_of_ble_eq_true rfl)) rfl (fun z31426 e31427 => ?_)
                  refine pm_R_ifc pm_M226 (t := 120) (pc' := 110) (pm_q226_1 (Nat.le_of_ble_eq_true rfl)) rfl rfl (fun c31428 => ?_) (fun c31428 => ?_)
                  · have k31429 := sf_lneC e31427 c31428
                    refine pm_R_lo pm_M226 (pc' := 121) (pm_q226_1 (Nat.le_of_ble_eq_true rfl)) rfl rfl ?_
                    refine rf_R_get pm_M226 T_30572 (pc' := 124) (v := .ref 56) (pm_q226_1 (Nat.le_of_ble_eq_true rfl)) rfl rfl rfl ?_
                    refine pm_R_lo pm_M226 (pc' := 126) (pm_q226_1 (Nat.le_of_ble_eq_true rfl)) rfl rfl ?_
                    refine rf_R_lld pm_M226 T_30572 (pc' := 127) (pm_q226_1 (Nat.le_of_ble_eq_true rfl)) e30636 (by decide) (by decide) (sf_in B31425 (by decide) (by decide)) rfl (fun z31430 ez31431 => ?_)
                    refine pm_R_lo pm_M226 (pc' := 129) (pm_q226_1 (Nat.le_of_ble_eq_true rfl)) rfl rfl ?_
                    refine pm_R_lo pm_M226 (pc' := 131) (pm_q226_1 (Nat.le_of_ble_eq_true rfl)) rfl rfl ?_
                    refine pm_R_cs pm_M226 (pc' := 134) (ra := [.long z30638, .long z25530]) (rest := [.long z31430, .int z31423, .ref 56]) (ls' := [.long z25530, pm_no, .long z30638, pm_no]) (pm_q226_1 (Nat.le_of_ble_eq_true rfl)) rfl (Or.inl rfl) pm_M212 rfl rfl (Nat.le_of_ble_eq_true rfl) rfl rfl ?_
                    refine pm_R_lo pm_M212 (pc' := 1) rfl rfl rfl ?_
                    refine pm_R_op pm_M212 (pc' := 2) (st' := [.long 0, .long z30638]) rfl rfl rfl ?_
                    refine sf_R_lcmp pm_M212 (pc' := 3) rfl rfl (fun z31432 e31433 => ?_)
                    refine pm_R_ifc pm_M212 (t := 22) (pc' := 6) rfl rfl rfl (fun c31434 => ?_) (fun c31434 => ?_)
                    · have B31435 : sf_B (-2147483648) 0 z31432 := sf_leL c31434 (sf_any z31432) sf_k0
                      refine pm_R_lo pm_M212 (pc' := 23) rfl rfl rfl ?_
                      refine pm_R_lo pm_M212 (pc' := 24) rfl rfl rfl ?_
                      refine sf_R_lany pm_M212 (pc' := 25) (st := []) rfl rfl rfl (fun z31436 => ?_)
                      refine pm_R_op pm_M212 (pc' := 26) (st' := [.long 0, .long z31436]) rfl rfl rfl ?_
                      refine pm_R_cs pm_M212 (pc' := 29) (ra := [.long 0, .long z31436]) (rest := []) (ls' := [.long z31436, pm_no, .long 0, pm_no]) rfl rfl (Or.inl rfl) pm_M213 rfl rfl (Nat.le_of_ble_eq_true rfl) rfl rfl ?_
                      refine pm_R_lo pm_M213 (pc' := 1) rfl rfl rfl ?_
                      refine pm_R_lo pm_M213 (pc' := 2) rfl rfl rfl ?_
                      refine sf_R_lany pm_M213 (pc' := 3) (st := []) rfl rfl rfl (fun z31437 => ?_)
                      refine pm_R_ldc2 pm_M213 (pc' := 6) rfl rfl rfl ?_
                      refine sf_R_lcmp pm_M213 (pc' := 7) rfl rfl (fun z31438 e31439 => ?_)
                      refine pm_R_ifc pm_M213 (t := 16) (pc' := 10) rfl rfl rfl (fun c31440 => ?_) (fun c31440 => ?_)
                      · have B31441 : sf_B 0 2147483647 z31438 := sf_leR c31440 sf_k0 (sf_any z31438)
                        refine pm_R_ldc2 pm_M213 (pc' := 19) rfl rfl rfl ?_
                        refine pm_R_ret pm_M213 (r := some (.long 1000000000000)) rfl rfl ?_
                        show pm_R _ 212 29 [.long z25530, pm_no, .long z30638, pm_no] [.long 1000000000000] _ _
                        refine pm_R_ret pm_M212 (r := some (.long 1000000000000)) rfl rfl ?_
                        show pm_R _ 226 134 [.ref 41, .int a0, .int a1, .int a2, .int a3, .int x5_25480, .long z25530, pm_no, .int x8_30572, .long z30638, pm_no, .int z31423] [.long 1000000000000, .long z31430, .int z31423, .ref 56] _ _
                        refine pm_R_cs pm_M226 (pc' := 137) (ra := [.long 1000000000000, .long z31430]) (rest := [.int z31423, .ref 56]) (ls' := [.long z31430, pm_no, .long 1000000000000, pm_no]) (pm_q226_1 (Nat.le_of_ble_eq_true rfl)) rfl (Or.inl rfl) pm_M213 rfl rfl (Nat.le_of_ble_eq_true rfl) rfl rfl ?_
                        refine pm_R_lo pm_M213 (pc' := 1) rfl rfl rfl ?_
                        refine pm_R_lo pm_M213 (pc' := 2) rfl rfl rfl ?_
                        refine sf_R_lany pm_M213 (pc' := 3) (st := []) rfl rfl rfl (fun z31442 => ?_)
                        refine pm_R_ldc2 pm_M213 (pc' := 6) rfl rfl rfl ?_
                        refine sf_R_lcmp pm_M213 (pc' := 7) rfl rfl (fun z31443 e31444 => ?_)
                        refine pm_R_ifc pm_M213 (t := 16) (pc' := 10) rfl rfl rfl (fun c31445 => ?_) (fun c31445 => ?_)
                        · have B31446 : sf_B 0 2147483647 z31443 := sf_leR c31445 sf_k0 (sf_any z31443)
                          refine pm_R_ldc2 pm_M213 (pc' := 19) rfl rfl rfl ?_
                          refine pm_R_ret pm_M213 (r := some (.long 1000000000000)) rfl rfl ?_
                          show pm_R _ 226 137 [.ref 41, .int a0, .int a1, .int a2, .int a3, .int x5_25480, .long z25530, pm_no, .int x8_30572, .long z30638, pm_no, .int z31423] [.long 1000000000000, .int z31423, .ref 56] _ _
                          refine rf_R_lst pm_M226 T_30572 (pc' := 138) (pm_q226_1 (Nat.le_of_ble_eq_true rfl)) e30636 (by decide) (by decide) (sf_in B31425 (by decide) (by decide)) ⟨_, rfl⟩ rfl (fun h31447 T31448 F31449 => ?_)
                          have F31450 := F_30572.trans F31449
                          refine sf_R_iinc pm_M226 (pc' := 141) (ls' := fun z => [.ref 41, .int a0, .int a1, .int a2, .int a3, .int x5_25480, .long z25530, pm_no, .int z, .long z30638, pm_no, .int z31423]) (pm_q226_1 (Nat.le_of_ble_eq_true rfl)) B30581 rfl (by decide) (by decide) (by decide) (fun _ => rfl) rfl (fun z31451 e31452 B31453 => ?_)
                          show pm_R _ 226 141 [.ref 41, .int a0, .int a1, .int a2, .int a3, .int x5_25480, .long z25530, pm_no, .int z31451, .long z30638, pm_no, .int z31423] [] _ _
                          refine pm_R_br pm_M226 (pc' := 33) (pm_q226_1 (Nat.le_of_ble_eq_true rfl)) rfl ?_
                          exact ih_30572 _ (sf_up hN_30572 e31452 B30581 (by decide) (by decide)) h31447 m_30572 w_30572 z31451 (.long z30638) (pm_no) (.int z31423) T31448 F31450 W_30572 (sf_weak B31453 (by decide) (by decide)) rfl rfl rfl
                        · have B31454 : sf_B (-2147483648) (-1) z31443 := sf_ltL (Int32.not_le.mp c31445) (sf_any z31443) sf_k0
                          have k31455 := sf_lneB e31444 B31454 (by decide)
                          refine pm_R_lo pm_M213 (pc' := 11) rfl rfl rfl ?_
                          refine pm_R_lo pm_M213 (pc' := 12) rfl rfl rfl ?_
                          refine sf_R_lany pm_M213 (pc' := 13) (st := []) rfl rfl rfl (fun z31456 => ?_)
                          refine pm_R_br pm_M213 (pc' := 19) rfl rfl ?_
                          refine pm_R_ret pm_M213 (r := some (.long z31456)) rfl rfl ?_
                          show pm_R _ 226 137 [.ref 41, .int a0, .int a1, .int a2, .int a3, .int x5_25480, .long z25530, pm_no, .int x8_30572, .long z30638, pm_no, .int z31423] [.long z31456, .int z31423, .ref 56] _ _
                          refine rf_R_lst pm_M226 T_30572 (pc' := 138) (pm_q226_1 (Nat.le_of_ble_eq_true rfl)) e30636 (by decide) (by decide) (sf_in B31425 (by decide) (by decide)) ⟨_, rfl⟩ rfl (fun h31457 T31458 F31459 => ?_)
                          have F31460 := F_30572.trans F31459
                          refine sf_R_iinc pm_M226 (pc' := 141) (ls' := fun z => [.ref 41, .int a0, .int a1, .int a2, .int a3, .int x5_25480, .long z25530, pm_no, .int z, .long z30638, pm_no, .int z31423]) (pm_q226_1 (Nat.le_of_ble_eq_true rfl)) B30581 rfl (by decide) (by decide) (by decide) (fun _ => rfl) rfl (fun z31461 e31462 B31463 => ?_)
                          show pm_R _ 226 141 [.ref 41, .int a0, .int a1, .int a2, .int a3, .int x5_25480, .long z25530, pm_no, .int z31461, .long z30638, pm_no, .int z31423] [] _ _
                          refine pm_R_br pm_M226 (pc' := 33) (pm_q226_1 (Nat.le_of_ble_eq_true rfl)) rfl ?_
                          exact ih_30572 _ (sf_up hN_30572 e31462 B30581 (by decide) (by decide)) h31457 m_30572 w_30572 z31461 (.long z30638) (pm_no) (.int z31423) T31458 F31460 W_30572 (sf_weak B31463 (by decide) (by decide)) rfl rfl rfl
                      · have B31464 : sf_B (-2147483648) (-1) z31438 := sf_ltL (Int32.not_le.mp c31440) (sf_any z31438) sf_k0
                        have k31465 := sf_lneB e31439 B31464 (by decide)
                        refine pm_R_lo pm_M213 (pc' := 11) rfl rfl rfl ?_
                        refine pm_R_lo pm_M213 (pc' := 12) rfl rfl rfl ?_
                        refine sf_R_lany pm_M213 (pc' := 13) (st := []) rfl rfl rfl (fun z31466 => ?_)
                        refine pm_R_br pm_M213 (pc' := 19) rfl rfl ?_
                        refine pm_R_ret pm_M213 (r := some (.long z31466)) rfl rfl ?_
                        show pm_R _ 212 29 [.long z25530, pm_no, .long z30638, pm_no] [.long z31466] _ _
                        refine pm_R_ret pm_M212 (r := some (.long z31466)) rfl rfl ?_
                        show pm_R _ 226 134 [.ref 41, .int a0, .int a1, .int a2, .int a3, .int x5_25480, .long z25530, pm_no, .int x8_30572, .long z30638, pm_no, .int z31423] [.long z31466, .long z31430, .int z31423, .ref 56] _ _
                        refine pm_R_cs pm_M226 (pc' := 137) (ra := [.long z31466, .long z31430]) (rest := [.int z31423, .ref 56]) (ls' := [.long z31430, pm_no, .long z31466, pm_no]) (pm_q226_1 (Nat.le_of_ble_eq_true rfl)) rfl (Or.inl rfl) pm_M213 rfl rfl (Nat.le_of_ble_eq_true rfl) rfl rfl ?_
                        refine pm_R_lo pm_M213 (pc' := 1) rfl rfl rfl ?_
                        refine pm_R_lo pm_M213 (pc' := 2) rfl rfl rfl ?_
                        refine sf_R_lany pm_M213 (pc' := 3) (st := []) rfl rfl rfl (fun z31467 => ?_)
                        refine pm_R_ldc2 pm_M213 (pc' := 6) rfl rfl rfl ?_
                        refine sf_R_lcmp pm_M213 (pc' := 7) rfl rfl (fun z31468 e31469 => ?_)
                        refine pm_R_ifc pm_M213 (t := 16) (pc' := 10) rfl rfl rfl (fun c31470 => ?_) (fun c31470 => ?_)
                        · have B31471 : sf_B 0 2147483647 z31468 := sf_leR c31470 sf_k0 (sf_any z31468)
                          refine pm_R_ldc2 pm_M213 (pc' := 19) rfl rfl rfl ?_
                          refine pm_R_ret pm_M213 (r := some (.long 1000000000000)) rfl rfl ?_
                          show pm_R _ 226 137 [.ref 41, .int a0, .int a1, .int a2, .int a3, .int x5_25480, .long z25530, pm_no, .int x8_30572, .long z30638, pm_no, .int z31423] [.long 1000000000000, .int z31423, .ref 56] _ _
                          refine rf_R_lst pm_M226 T_30572 (pc' := 138) (pm_q226_1 (Nat.le_of_ble_eq_true rfl)) e30636 (by decide) (by decide) (sf_in B31425 (by decide) (by decide)) ⟨_, rfl⟩ rfl (fun h31472 T31473 F31474 => ?_)
                          have F31475 := F_30572.trans F31474
                          refine sf_R_iinc pm_M226 (pc' := 141) (ls' := fun z => [.ref 41, .int a0, .int a1, .int a2, .int a3, .int x5_25480, .long z25530, pm_no, .int z, .long z30638, pm_no, .int z31423]) (pm_q226_1 (Nat.le_of_ble_eq_true rfl)) B30581 rfl (by decide) (by decide) (by decide) (fun _ => rfl) rfl (fun z31476 e31477 B31478 => ?_)
                          show pm_R _ 226 141 [.ref 41, .int a0, .int a1, .int a2, .int a3, .int x5_25480, .long z25530, pm_no, .int z31476, .long z30638, pm_no, .int z31423] [] _ _
                          refine pm_R_br pm_M226 (pc' := 33) (pm_q226_1 (Nat.le_of_ble_eq_true rfl)) rfl ?_
                          exact ih_30572 _ (sf_up hN_30572 e31477 B30581 (by decide) (by decide)) h31472 m_30572 w_30572 z31476 (.long z30638) (pm_no) (.int z31423) T31473 F31475 W_30572 (sf_weak B31478 (by decide) (by decide)) rfl rfl rfl
                        · have B31479 : sf_B (-2147483648) (-1) z31468 := sf_ltL (Int32.not_le.mp c31470) (sf_any z31468) sf_k0
                          have k31480 := sf_lneB e31469 B31479 (by decide)
                          refine pm_R_lo pm_M213 (pc' := 11) rfl rfl rfl ?_
                          refine pm_R_lo pm_M213 (pc' := 12) rfl rfl rfl ?_
                          refine sf_R_lany pm_M213 (pc' := 13) (st := []) rfl rfl rfl (fun z31481 => ?_)
                          refine pm_R_br pm_M213 (pc' := 19) rfl rfl ?_
                          refine pm_R_ret pm_M213 (r := some (.long z31481)) rfl rfl ?_
                          show pm_R _ 226 137 [.ref 41, .int a0, .int a1, .int a2, .int a3, .int x5_25480, .long z25530, pm_no, .int x8_30572, .long z30638, pm_no, .int z31423] [.long z31481, .int z31423, .ref 56] _ _
                          refine rf_R_lst pm_M226 T_30572 (pc' := 138) (pm_q226_1 (Nat.le_of_ble_eq_true rfl)) e30636 (by decide) (by decide) (sf_in B31425 (by decide) (by decide)) ⟨_, rfl⟩ rfl (fun h31482 T31483 F31484 => ?_)
                          have F31485 := F_30572.trans F31484
                          refine sf_R_iinc pm_M226 (pc' := 141) (ls' := fun z => [.ref 41, .int a0, .int a1, .int a2, .int a3, .int x5_25480, .long z25530, pm_no, .int z, .long z30638, pm_no, .int z31423]) (pm_q226_1 (Nat.le_of_ble_eq_true rfl)) B30581 rfl (by decide) (by decide) (by decide) (fun _ => rfl) rfl (fun z31486 e31487 B31488 => ?_)
                          show pm_R _ 226 141 [.ref 41, .int a0, .int a1, .int a2, .int a3, .int x5_25480, .long z25530, pm_no, .int z31486, .long z30638, pm_no, .int z31423] [] _ _
                          refine pm_R_br pm_M226 (pc' := 33) (pm_q226_1 (Nat.le_of_ble_eq_true rfl)) rfl ?_
                          exact ih_30572 _ (sf_up hN_30572 e31487 B30581 (by decide) (by decide)) h31482 m_30572 w_30572 z31486 (.long z30638) (pm_no) (.int z31423) T31483 F31485 W_30572 (sf_weak B31488 (by decide) (by decide)) rfl rfl rfl
                    · have B31489 : sf_B 1 2147483647 z31432 := sf_ltR (Int32.not_le.mp c31434) sf_k0 (sf_any z31432)
                      have k31490 := sf_lneA e31433 B31489 (by decide)
                      refine pm_R_lo pm_M212 (pc' := 7) rfl rfl rfl ?_
                      refine pm_R_ldc2 pm_M212 (pc' := 10) rfl rfl rfl ?_
                      refine pm_R_lo pm_M212 (pc' := 11) rfl rfl rfl ?_
                      refine sf_R_ldivA pm_M212 (pc' := 12) rfl rfl k31490 (fun z31491 => ?_)
                      refine sf_R_lcmp pm_M212 (pc' := 13) rfl rfl (fun z31492 e31493 => ?_)
                      refine pm_R_ifc pm_M212 (t := 22) (pc' := 16) rfl rfl rfl (fun c31494 => ?_) (fun c31494 => ?_)
                      · have B31495 : sf_B (-2147483648) 0 z31492 := sf_leL c31494 (sf_any z31492) sf_k0
                        refine pm_R_lo pm_M212 (pc' := 23) rfl rfl rfl ?_
                        refine pm_R_lo pm_M212 (pc' := 24) rfl rfl rfl ?_
                        refine sf_R_lany pm_M212 (pc' := 25) (st := []) rfl rfl rfl (fun z31496 => ?_)
                        refine pm_R_op pm_M212 (pc' := 26) (st' := [.long 0, .long z31496]) rfl rfl rfl ?_
                        refine pm_R_cs pm_M212 (pc' := 29) (ra := [.long 0, .long z31496]) (rest := []) (ls' := [.long z31496, pm_no, .long 0, pm_no]) rfl rfl (Or.inl rfl) pm_M213 rfl rfl (Nat.le_of_ble_eq_true rfl) rfl rfl ?_
                        refine pm_R_lo pm_M213 (pc' := 1) rfl rfl rfl ?_
                        refine pm_R_lo pm_M213 (pc' := 2) rfl rfl rfl ?_
                        refine sf_R_lany pm_M213 (pc' := 3) (st := []) rfl rfl rfl (fun z31497 => ?_)
                        refine pm_R_ldc2 pm_M213 (pc' := 6) rfl rfl rfl ?_
                        refine sf_R_lcmp pm_M213 (pc' := 7) rfl rfl (fun z31498 e31499 => ?_)
                        refine pm_R_ifc pm_M213 (t := 16) (pc' := 10) rfl rfl rfl (fun c31500 => ?_) (fun c31500 => ?_)
                        · have B31501 : sf_B 0 2147483647 z31498 := sf_leR c31500 sf_k0 (sf_any z31498)
                          refine pm_R_ldc2 pm_M213 (pc' := 19) rfl rfl rfl ?_
                          refine pm_R_ret pm_M213 (r := some (.long 1000000000000)) rfl rfl ?_
                          show pm_R _ 212 29 [.long z25530, pm_no, .long z30638, pm_no] [.long 1000000000000] _ _
                          refine pm_R_ret pm_M212 (r := some (.long 1000000000000)) rfl rfl ?_
                          show pm_R _ 226 134 [.ref 41, .int a0, .int a1, .int a2, .int a3, .int x5_25480, .long z25530, pm_no, .int x8_30572, .long z30638, pm_no, .int z31423] [.long 1000000000000, .long z31430, .int z31423, .ref 56] _ _
                          refine pm_R_cs pm_M226 (pc' := 137) (ra := [.long 1000000000000, .long z31430]) (rest := [.int z31423, .ref 56]) (ls' := [.long z31430, pm_no, .long 1000000000000, pm_no]) (pm_q226_1 (Nat.le_of_ble_eq_true rfl)) rfl (Or.inl rfl) pm_M213 rfl rfl (Nat.le_of_ble_eq_true rfl) rfl rfl ?_
                          refine pm_R_lo pm_M213 (pc' := 1) rfl rfl rfl ?_
                          refine pm_R_lo pm_M213 (pc' := 2) rfl rfl rfl ?_
                          refine sf_R_lany pm_M213 (pc' := 3) (st := []) rfl rfl rfl (fun z31502 => ?_)
                          refine pm_R_ldc2 pm_M213 (pc' := 6) rfl rfl rfl ?_
                          refine sf_R_lcmp pm_M213 (pc' := 7) rfl rfl (fun z31503 e31504 => ?_)
                          refine pm_R_ifc pm_M213 (t := 16) (pc' := 10) rfl rfl rfl (fun c31505 => ?_) (fun c31505 => ?_)
                          · have B31506 : sf_B 0 2147483647 z31503 := sf_leR c31505 sf_k0 (sf_any z31503)
                            refine pm_R_ldc2 pm_M213 (pc' := 19) rfl rfl rfl ?_
                            refine pm_R_ret pm_M213 (r := some (.long 1000000000000)) rfl rfl ?_
                            show pm_R _ 226 137 [.ref 41, .int a0, .int a1, .int a2, .int a3, .int x5_25480, .long z25530, pm_no, .int x8_30572, .long z30638, pm_no, .int z31423] [.long 1000000000000, .int z31423, .ref 56] _ _
                            refine rf_R_lst pm_M226 T_30572 (pc' := 138) (pm_q226_1 (Nat.le_of_ble_eq_true rfl)) e30636 (by decide) (by decide) (sf_in B31425 (by decide) (by decide)) ⟨_, rfl⟩ rfl (fun h31507 T31508 F31509 => ?_)
                            have F31510 := F_30572.trans F31509
                            refine sf_R_iinc pm_M226 (pc' := 141) (ls' := fun z => [.ref 41, .int a0, .int a1, .int a2, .int a3, .int x5_25480, .long z25530, pm_no, .int z, .long z30638, pm_no, .int z31423]) (pm_q226_1 (Nat.le_of_ble_eq_true rfl)) B30581 rfl (by decide) (by decide) (by decide) (fun _ => rfl) rfl (fun z31511 e31512 B31513 => ?_)
                            show pm_R _ 226 141 [.ref 41, .int a0, .int a1, .int a2, .int a3, .int x5_25480, .long z25530, pm_no, .int z31511, .long z30638, pm_no, .int z31423] [] _ _
                            refine pm_R_br pm_M226 (pc' := 33) (pm_q226_1 (Nat.le_of_ble_eq_true rfl)) rfl ?_
                            exact ih_30572 _ (sf_up hN_30572 e31512 B30581 (by decide) (by decide)) h31507 m_30572 w_30572 z31511 (.long z30638) (pm_no) (.int z31423) T31508 F31510 W_30572 (sf_weak B31513 (by decide) (by decide)) rfl rfl rfl
                          · have B31514 : sf_B (-2147483648) (-1) z31503 := sf_ltL (Int32.not_le.mp c31505) (sf_any z31503) sf_k0
                            have k31515 := sf_lneB e31504 B31514 (by decide)
                            refine pm_R_lo pm_M213 (pc' := 11) rfl rfl rfl ?_
                            refine pm_R_lo pm_M213 (pc' := 12) rfl rfl rfl ?_
                            refine sf_R_lany pm_M213 (pc' := 13) (st := []) rfl rfl rfl (fun z31516 => ?_)
                            refine pm_R_br pm_M213 (pc' := 19) rfl rfl ?_
                            refine pm_R_ret pm_M213 (r := some (.long z31516)) rfl rfl ?_
                            show pm_R _ 226 137 [.ref 41, .int a0, .int a1, .int a2, .int a3, .int x5_25480, .long z25530, pm_no, .int x8_30572, .long z30638, pm_no, .int z31423] [.long z31516, .int z31423, .ref 56] _ _
                            refine rf_R_lst pm_M226 T_30572 (pc' := 138) (pm_q226_1 (Nat.le_of_ble_eq_true rfl)) e30636 (by decide) (by decide) (sf_in B31425 (by decide) (by decide)) ⟨_, rfl⟩ rfl (fun h31517 T31518 F31519 => ?_)
                            have F31520 := F_30572.trans F31519
                            refine sf_R_iinc pm_M226 (pc' := 141) (ls' := fun z => [.ref 41, .int a0, .int a1, .int a2, .int a3, .int x5_25480, .long z25530, pm_no, .int z, .long z30638, pm_no, .int z31423]) (pm_q226_1 (Nat.le_of_ble_eq_true rfl)) B30581 rfl (by decide) (by decide) (by decide) (fun _ => rfl) rfl (fun z31521 e31522 B31523 => ?_)
                            show pm_R _ 226 141 [.ref 41, .int a0, .int a1, .int a2, .int a3, .int x5_25480, .long z25530, pm_no, .int z31521, .long z30638, pm_no, .int z31423] [] _ _
                            refine pm_R_br pm_M226 (pc' := 33) (pm_q226_1 (Nat.le_of_ble_eq_true rfl)) rfl ?_
                            exact ih_30572 _ (sf_up hN_30572 e31522 B30581 (by decide) (by decide)) h31517 m_30572 w_30572 z31521 (.long z30638) (pm_no) (.int z31423) T31518 F31520 W_30572 (sf_weak B31523 (by decide) (by decide)) rfl rfl rfl
                        · have B31524 : sf_B (-2147483648) (-1) z31498 := sf_ltL (Int32.not_le.mp c31500) (sf_any z31498) sf_k0
                          have k31525 := sf_lneB e31499 B31524 (by decide)
                          refine pm_R_lo pm_M213 (pc' := 11) rfl rfl rfl ?_
                          refine pm_R_lo pm_M213 (pc' := 12) rfl rfl rfl ?_
                          refine sf_R_lany pm_M213 (pc' := 13) (st := []) rfl rfl rfl (fun z31526 => ?_)
                          refine pm_R_br pm_M213 (pc' := 19) rfl rfl ?_
                          refine pm_R_ret pm_M213 (r := some (.long z31526)) rfl rfl ?_
                          show pm_R _ 212 29 [.long z25530, pm_no, .long z30638, pm_no] [.long z31526] _ _
                          refine pm_R_ret pm_M212 (r := some (.long z31526)) rfl rfl ?_
                          show pm_R _ 226 134 [.ref 41, .int a0, .int a1, .int a2, .int a3, .int x5_25480, .long z25530, pm_no, .int x8_30572, .long z30638, pm_no, .int z31423] [.long z31526, .long z31430, .int z31423, .ref 56] _ _
                          refine pm_R_cs pm_M226 (pc' := 137) (ra := [.long z31526, .long z31430]) (rest := [.int z31423, .ref 56]) (ls' := [.long z31430, pm_no, .long z31526, pm_no]) (pm_q226_1 (Nat.le_of_ble_eq_true rfl)) rfl (Or.inl rfl) pm_M213 rfl rfl (Nat.le_of_ble_eq_true rfl) rfl rfl ?_
                          refine pm_R_lo pm_M213 (pc' := 1) rfl rfl rfl ?_
                          refine pm_R_lo pm_M213 (pc' := 2) rfl rfl rfl ?_
                          refine sf_R_lany pm_M213 (pc' := 3) (st := []) rfl rfl rfl (fun z31527 => ?_)
                          refine pm_R_ldc2 pm_M213 (pc' := 6) rfl rfl rfl ?_
                          refine sf_R_lcmp pm_M213 (pc' := 7) rfl rfl (fun z31528 e31529 => ?_)
                          refine pm_R_ifc pm_M213 (t := 16) (pc' := 10) rfl rfl rfl (fun c31530 => ?_) (fun c31530 => ?_)
                          · have B31531 : sf_B 0 2147483647 z31528 := sf_leR c31530 sf_k0 (sf_any z31528)
                            refine pm_R_ldc2 pm_M213 (pc' := 19) rfl rfl rfl ?_
                            refine pm_R_ret pm_M213 (r := some (.long 1000000000000)) rfl rfl ?_
                            show pm_R _ 226 137 [.ref 41, .int a0, .int a1, .int a2, .int a3, .int x5_25480, .long z25530, pm_no, .int x8_30572, .long z30638, pm_no, .int z31423] [.long 1000000000000, .int z31423, .ref 56] _ _
                            refine rf_R_lst pm_M226 T_30572 (pc' := 138) (pm_q226_1 (Nat.le_of_ble_eq_true rfl)) e30636 (by decide) (by decide) (sf_in B31425 (by decide) (by decide)) ⟨_, rfl⟩ rfl (fun h31532 T31533 F31534 => ?_)
                            have F31535 := F_30572.trans F31534
                            refine sf_R_iinc pm_M226 (pc' := 141) (ls' := fun z => [.ref 41, .int a0, .int a1, .int a2, .int a3, .int x5_25480, .long z25530, pm_no, .int z, .long z30638, pm_no, .int z31423]) (pm_q226_1 (Nat.le_of_ble_eq_true rfl)) B30581 rfl (by decide) (by decide) (by decide) (fun _ => rfl) rfl (fun z31536 e31537 B31538 => ?_)
                            show pm_R _ 226 141 [.ref 41, .int a0, .int a1, .int a2, .int a3, .int x5_25480, .long z25530, pm_no, .int z31536, .long z30638, pm_no, .int z31423] [] _ _
                            refine pm_R_br pm_M226 (pc' := 33) (pm_q226_1 (Nat.le_of_ble_eq_true rfl)) rfl ?_
                            exact ih_30572 _ (sf_up hN_30572 e31537 B30581 (by decide) (by decide)) h31532 m_30572 w_30572 z31536 (.long z30638) (pm_no) (.int z31423) T31533 F31535 W_30572 (sf_weak B31538 (by decide) (by decide)) rfl rfl rfl
                          · have B31539 : sf_B (-2147483648) (-1) z31528 := sf_ltL (Int32.not_le.mp c31530) (sf_any z31528) sf_k0
                            have k31540 := sf_lneB e31529 B31539 (by decide)
                            refine pm_R_lo pm_M213 (pc' := 11) rfl rfl rfl ?_
                            refine pm_R_lo pm_M213 (pc' := 12) rfl rfl rfl ?_
                            refine sf_R_lany pm_M213 (pc' := 13) (st := []) rfl rfl rfl (fun z31541 => ?_)
                            refine pm_R_br pm_M213 (pc' := 19) rfl rfl ?_
                            refine pm_R_ret pm_M213 (r := some (.long z31541)) rfl rfl ?_
                            show pm_R _ 226 137 [.ref 41, .int a0, .int a1, .int a2, .int a3, .int x5_25480, .long z25530, pm_no, .int x8_30572, .long z30638, pm_no, .int z31423] [.long z31541, .int z31423, .ref 56] _ _
                            refine rf_R_lst pm_M226 T_30572 (pc' := 138) (pm_q226_1 (Nat.le_of_ble_eq_true rfl)) e30636 (by decide) (by decide) (sf_in B31425 (by decide) (by decide)) ⟨_, rfl⟩ rfl (fun h31542 T31543 F31544 => ?_)
                            have F31545 := F_30572.trans F31544
                            refine sf_R_iinc pm_M226 (pc' := 141) (ls' := fun z => [.ref 41, .int a0, .int a1, .int a2, .int a3, .int x5_25480, .long z25530, pm_no, .int z, .long z30638, pm_no, .int z31423]) (pm_q226_1 (Nat.le_of_ble_eq_true rfl)) B30581 rfl (by decide) (by decide) (by decide) (fun _ => rfl) rfl (fun z31546 e31547 B31548 => ?_)
                            show pm_R _ 226 141 [.ref 41, .int a0, .int a1, .int a2, .int a3, .int x5_25480, .long z25530, pm_no, .int z31546, .long z30638, pm_no, .int z31423] [] _ _
                            refine pm_R_br pm_M226 (pc' := 33) (pm_q226_1 (Nat.le_of_ble_eq_true rfl)) rfl ?_
                            exact ih_30572 _ (sf_up hN_30572 e31547 B30581 (by decide) (by decide)) h31542 m_30572 w_30572 z31546 (.long z30638) (pm_no) (.int z31423) T31543 F31545 W_30572 (sf_weak B31548 (by decide) (by decide)) rfl rfl rfl
                      · have B31549 : sf_B 1 2147483647 z31492 := sf_ltR (Int32.not_le.mp c31494) sf_k0 (sf_any z31492)
                        have k31550 := sf_lneA e31493 B31549 (by decide)
                        refine pm_R_ldc2 pm_M212 (pc' := 19) rfl rfl rfl ?_
                        refine pm_R_br pm_M212 (pc' := 29) rfl rfl ?_
                        refine pm_R_ret pm_M212 (r := some (.long 1000000000000)) rfl rfl ?_
                        show pm_R _ 226 134 [.ref 41, .int a0, .int a1, .int a2, .int a3, .int x5_25480, .long z25530, pm_no, .int x8_30572, .long z30638, pm_no, .int z31423] [.long 1000000000000, .long z31430, .int z31423, .ref 56] _ _
                        refine pm_R_cs pm_M226 (pc' := 137) (ra := [.long 1000000000000, .long z31430]) (rest := [.int z31423, .ref 56]) (ls' := [.long z31430, pm_no, .long 1000000000000, pm_no]) (pm_q226_1 (Nat.le_of_ble_eq_true rfl)) rfl (Or.inl rfl) pm_M213 rfl rfl (Nat.le_of_ble_eq_true rfl) rfl rfl ?_
                        refine pm_R_lo pm_M213 (pc' := 1) rfl rfl rfl ?_
                        refine pm_R_lo pm_M213 (pc' := 2) rfl rfl rfl ?_
                        refine sf_R_lany pm_M213 (pc' := 3) (st := []) rfl rfl rfl (fun z31551 => ?_)
                        refine pm_R_ldc2 pm_M213 (pc' := 6) rfl rfl rfl ?_
                        refine sf_R_lcmp pm_M213 (pc' := 7) rfl rfl (fun z31552 e31553 => ?_)
                        refine pm_R_ifc pm_M213 (t := 16) (pc' := 10) rfl rfl rfl (fun c31554 => ?_) (fun c31554 => ?_)
                        · have B31555 : sf_B 0 2147483647 z31552 := sf_leR c31554 sf_k0 (sf_any z31552)
                          refine pm_R_ldc2 pm_M213 (pc' := 19) rfl rfl rfl ?_
                          refine pm_R_ret pm_M213 (r := some (.long 1000000000000)) rfl rfl ?_
                          show pm_R _ 226 137 [.ref 41, .int a0, .int a1, .int a2, .int a3, .int x5_25480, .long z25530, pm_no, .int x8_30572, .long z30638, pm_no, .int z31423] [.long 1000000000000, .int z31423, .ref 56] _ _
                          refine rf_R_lst pm_M226 T_30572 (pc' := 138) (pm_q226_1 (Nat.le_of_ble_eq_true rfl)) e30636 (by decide) (by decide) (sf_in B31425 (by decide) (by decide)) ⟨_, rfl⟩ rfl (fun h31556 T31557 F31558 => ?_)
                          have F31559 := F_30572.trans F31558
                          refine sf_R_iinc pm_M226 (pc' := 141) (ls' := fun z => [.ref 41, .int a0, .int a1, .int a2, .int a3, .int x5_25480, .long z25530, pm_no, .int z, .long z30638, pm_no, .int z31423]) (pm_q226_1 (Nat.le_of_ble_eq_true rfl)) B30581 rfl (by decide) (by decide) (by decide) (fun _ => rfl) rfl (fun z31560 e31561 B31562 => ?_)
                          show pm_R _ 226 141 [.ref 41, .int a0, .int a1, .int a2, .int a3, .int x5_25480, .long z25530, pm_no, .int z31560, .long z30638, pm_no, .int z31423] [] _ _
                          refine pm_R_br pm_M226 (pc' := 33) (pm_q226_1 (Nat.le_of_ble_eq_true rfl)) rfl ?_
                          exact ih_30572 _ (sf_up hN_30572 e31561 B30581 (by decide) (by decide)) h31556 m_30572 w_30572 z31560 (.long z30638) (pm_no) (.int z31423) T31557 F31559 W_30572 (sf_weak B31562 (by decide) (by decide)) rfl rfl rfl
                        · have B31563 : sf_B (-2147483648) (-1) z31552 := sf_ltL (Int32.not_le.mp c31554) (sf_any z31552) sf_k0
                          have k31564 := sf_lneB e31553 B31563 (by decide)
                          refine pm_R_lo pm_M213 (pc' := 11) rfl rfl rfl ?_
                          refine pm_R_lo pm_M213 (pc' := 12) rfl rfl rfl ?_
                          refine sf_R_lany pm_M213 (pc' := 13) (st := []) rfl rfl rfl (fun z31565 => ?_)
                          refine pm_R_br pm_M213 (pc' := 19) rfl rfl ?_
                          refine pm_R_ret pm_M213 (r := some (.long z31565)) rfl rfl ?_
                          show pm_R _ 226 137 [.ref 41, .int a0, .int a1, .int a2, .int a3, .int x5_25480, .long z25530, pm_no, .int x8_30572, .long z30638, pm_no, .int z31423] [.long z31565, .int z31423, .ref 56] _ _
                          refine rf_R_lst pm_M226 T_30572 (pc' := 138) (pm_q226_1 (Nat.le_of_ble_eq_true rfl)) e30636 (by decide) (by decide) (sf_in B31425 (by decide) (by decide)) ⟨_, rfl⟩ rfl (fun h31566 T31567 F31568 => ?_)
                          have F31569 := F_30572.trans F31568
                          refine sf_R_iinc pm_M226 (pc' := 141) (ls' := fun z => [.ref 41, .int a0, .int a1, .int a2, .int a3, .int x5_25480, .long z25530, pm_no, .int z, .long z30638, pm_no, .int z31423]) (pm_q226_1 (Nat.le_of_ble_eq_true rfl)) B30581 rfl (by decide) (by decide) (by decide) (fun _ => rfl) rfl (fun z31570 e31571 B31572 => ?_)
                          show pm_R _ 226 141 [.ref 41, .int a0, .int a1, .int a2, .int a3, .int x5_25480, .long z25530, pm_no, .int z31570, .long z30638, pm_no, .int z31423] [] _ _
                          refine pm_R_br pm_M226 (pc' := 33) (pm_q226_1 (Nat.le_of_ble_eq_true rfl)) rfl ?_
                          exact ih_30572 _ (sf_up hN_30572 e31571 B30581 (by decide) (by decide)) h31566 m_30572 w_30572 z31570 (.long z30638) (pm_no) (.int z31423) T31567 F31569 W_30572 (sf_weak B31572 (by decide) (by decide)) rfl rfl rfl
                  · have B31573 : sf_B 0 0 z31426 := sf_eqL (Classical.not_not.mp c31428) sf_k0
                    refine pm_R_lo pm_M226 (pc' := 111) (pm_q226_1 (Nat.le_of_ble_eq_true rfl)) rfl rfl ?_
                    refine rf_R_get pm_M226 T_30572 (pc' := 114) (v := .ref 56) (pm_q226_1 (Nat.le_of_ble_eq_true rfl)) rfl rfl rfl ?_
                    refine pm_R_lo pm_M226 (pc' := 116) (pm_q226_1 (Nat.le_of_ble_eq_true rfl)) rfl rfl ?_
                    refine rf_R_lld pm_M226 T_30572 (pc' := 117) (pm_q226_1 (Nat.le_of_ble_eq_true rfl)) e30636 (by decide) (by decide) (sf_in B31425 (by decide) (by decide)) rfl (fun z31574 ez31575 => ?_)
                    refine pm_R_br pm_M226 (pc' := 137) (pm_q226_1 (Nat.le_of_ble_eq_true rfl)) rfl ?_
                    refine rf_R_lst pm_M226 T_30572 (pc' := 138) (pm_q226_1 (Nat.le_of_ble_eq_true rfl)) e30636 (by decide) (by decide) (sf_in B31425 (by decide) (by decide)) ⟨_, rfl⟩ rfl (fun h31576 T31577 F31578 => ?_)
                    have F31579 := F_30572.trans F31578
                    refine sf_R_iinc pm_M226 (pc' := 141) (ls' := fun z => [.ref 41, .int a0, .int a1, .int a2, .int a3, .int x5_25480, .long z25530, pm_no, .int z, .long z30638, pm_no, .int z31423]) (pm_q226_1 (Nat.le_of_ble_eq_true rfl)) B30581 rfl (by decide) (by decide) (by decide) (fun _ => rfl) rfl (fun z31580 e31581 B31582 => ?_)
                    show pm_R _ 226 141 [.ref 41, .int a0, .int a1, .int a2, .int a3, .int x5_25480, .long z25530, pm_no, .int z31580, .long z30638, pm_no, .int z31423] [] _ _
                    refine pm_R_br pm_M226 (pc' := 33) (pm_q226_1 (Nat.le_of_ble_eq_true rfl)) rfl ?_
                    exact ih_30572 _ (sf_up hN_30572 e31581 B30581 (by decide) (by decide)) h31576 m_30572 w_30572 z31580 (.long z30638) (pm_no) (.int z31423) T31577 F31579 W_30572 (sf_weak B31582 (by decide) (by decide)) rfl rfl rfl
        exact L_30572 _ h_25480 m_25480 w_25480 0 (g9_25480) (g10_25480) (g11_25480) T_25480 F_25480 (rf_W.refl _ _) (sf_weak sf_k0 (by decide) (by decide)) Cg10_25480 Cg11_25480 rfl
  exact L_25480 _ h m w 0 (pm_no) (pm_no) (pm_no) (pm_no) (pm_no) (pm_no) T (rf_F.refl h) (rf_W.refl _ _) (sf_weak sf_k0 (by decide) (by decide)) rfl rfl rfl rfl rfl

set_option maxRecDepth 100000 in
set_option maxHeartbeats 4000000 in
/-- SilentTableModel.findByValue -/
theorem rf_c224 {d : Nat} {m : Nat → Int32} {w : Int64} {h : pm_H} {Q : Option Value → pm_H → Prop}  (T : rf_T m w h)  (K : ∀ (m' : Nat → Int32) (w' : Int64) (h' : pm_H), rf_T m' w' h' → rf_F h h' → rf_W [] m m' → Q none h') : pm_R (d + 3) 224 0 [.ref 41, pm_no, pm_no, pm_no, pm_no] [] h Q := by
  refine pm_R_op pm_M224 (pc' := 1) (st' := [.int 0]) rfl rfl rfl ?_
  refine pm_R_lo pm_M224 (pc' := 2) (ls' := [.ref 41, .int 0, pm_no, pm_no, pm_no]) (st' := []) rfl rfl rfl ?_
  have L_917652 : ∀ (N : Nat) (h_917652 : pm_H) (m_917652 : Nat → Int32) (w_917652 : Int64) (x1_917652 : Int32), rf_T m_917652 w_917652 h_917652 → rf_F h h_917652 → rf_W [] m m_917652 → sf_B 0 43200 x1_917652 → (43200 - x1_917652.toInt).toNat = N → pm_R (d + 3) 224 2 [.ref 41, .int x1_917652, pm_no, pm_no, pm_no] [] h_917652 Q := by
    intro N
    induction N using Nat.strongRecOn with
    | ind N ih_917652 =>
      intro h_917652 m_917652 w_917652 x1_917652 T_917652 F_917652 W_917652 Bx1_917652 hN_917652
      have W917654 : rf_W [] m m_917652 := (rf_W.refl [] m).trans W_917652 (by decide)
      refine pm_R_lo pm_M224 (pc' := 3) rfl rfl rfl ?_
      refine pm_R_lo pm_M224 (pc' := 4) rfl rfl rfl ?_
      refine rf_R_get pm_M224 T_917652 (pc' := 7) (v := .ref 56) rfl rfl rfl rfl ?_
      obtain ⟨f917655, e917656⟩ := T_917652.2.2.2.1 56 (by decide) (by decide)
      refine pm_R_alen pm_M224 (pc' := 8) (v := 43200) rfl e917656 (by decide) (Nat.lt_of_lt_of_le (by decide) T_917652.1) (by decide) rfl rfl ?_
      refine pm_R_icmp pm_M224 (t := 24) (pc' := 11) rfl rfl rfl (fun c917658 => ?_) (fun c917658 => ?_)
      · have B917659 : sf_B 43200 43200 x1_917652 := sf_leR c917658 sf_k43200 Bx1_917652
        refine pm_R_op pm_M224 (pc' := 25) (st' := [.int 0]) rfl rfl rfl ?_
        refine pm_R_lo pm_M224 (pc' := 26) (ls' := [.ref 41, .int 0, pm_no, pm_no, pm_no]) (st' := []) rfl rfl rfl ?_
        have L_1389481 : ∀ (N : Nat) (h_1389481 : pm_H) (m_1389481 : Nat → Int32) (w_1389481 : Int64) (x1_1389481 : Int32) (g2_1389481 : Value), rf_T m_1389481 w_1389481 h_1389481 → rf_F h h_1389481 → rf_W [] m_917652 m_1389481 → sf_B 0 12 x1_1389481 → g2_1389481.category = 1 → (12 - x1_1389481.toInt).toNat = N → pm_R (d + 3) 224 26 [.ref 41, .int x1_1389481, g2_1389481, pm_no, pm_no] [] h_1389481 Q := by
          intro N
          induction N using Nat.strongRecOn with
          | ind N ih_1389481 =>
            intro h_1389481 m_1389481 w_1389481 x1_1389481 g2_1389481 T_1389481 F_1389481 W_1389481 Bx1_1389481 Cg2_1389481 hN_1389481
            have W1389483 : rf_W [] m m_1389481 := W917654.trans W_1389481 (by decide)
            have W1389484 : rf_W [] m m_1389481 := W_917652.trans W_1389481 (by decide)
            refine pm_R_lo pm_M224 (pc' := 27) rfl rfl rfl ?_
            refine pm_R_lo pm_M224 (pc' := 28) rfl rfl rfl ?_
            have B1389485 : sf_B 0 12 (m_1389481 24) := T_1389481.2.2.1 24
            refine rf_R_get pm_M224 T_1389481 (pc' := 31) (v := .int (m_1389481 24)) rfl rfl rfl rfl ?_
            refine pm_R_icmp pm_M224 (t := 95) (pc' := 34) rfl rfl rfl (fun c1389486 => ?_) (fun c1389486 => ?_)
            · skip
              refine pm_R_op pm_M224 (pc' := 96) (st' := [.int 1]) rfl rfl rfl ?_
              refine pm_R_lo pm_M224 (pc' := 97) (ls' := [.ref 41, .int 1, g2_1389481, pm_no, pm_no]) (st' := []) rfl rfl rfl ?_
              have L_1524689 : ∀ (N : Nat) (h_1524689 : pm_H) (m_1524689 : Nat → Int32) (w_1524689 : Int64) (x1_1524689 : Int32) (g2_1524689 : Value) (g3_1524689 : Value) (g4_1524689 : Value), rf_T m_1524689 w_1524689 h_1524689 → rf_F h h_1524689 → rf_W [] m_1389481 m_1524689 → sf_B 1 12 x1_1524689 → g2_1524689.category = 1 → g3_1524689.category = 1 → g4_1524689.category = 1 → (12 - x1_1524689.toInt).toNat = N → pm_R (d + 3) 224 97 [.ref 41, .int x1_1524689, g2_1524689, g3_1524689, g4_1524689] [] h_1524689 Q := by
                intro N
                induction N using Nat.strongRecOn with
                | ind N ih_1524689 =>
                  intro h_1524689 m_1524689 w_1524689 x1_1524689 g2_1524689 g3_1524689 g4_1524689 T_1524689 F_1524689 W_1524689 Bx1_1524689 Cg2_1524689 Cg3_1524689 Cg4_1524689 hN_1524689
                  have W1524691 : rf_W [] m m_1524689 := W1389483.trans W_1524689 (by decide)
                  have W1524692 : rf_W [] m m_1524689 := W1389484.trans W_1524689 (by decide)
                  have W1524693 : rf_W [] m_917652 m_1524689 := W_1389481.trans W_1524689 (by decide)
                  refine pm_R_lo pm_M224 (pc' := 98) rfl rfl rfl ?_
                  refine pm_R_lo pm_M224 (pc' := 99) rfl rfl rfl ?_
                  have B1524694 : sf_B 0 12 (m_1524689 24) := T_1524689.2.2.1 24
                  refine rf_R_get pm_M224 T_1524689 (pc' := 102) (v := .int (m_1524689 24)) rfl rfl rfl rfl ?_
                  refine pm_R_icmp pm_M224 (t := 173) (pc' := 105) (pm_q224_1 (Nat.le_of_ble_eq_true rfl)) rfl rfl (fun c1524695 => ?_) (fun c1524695 => ?_)
                  · skip
                    exact pm_R_ret pm_M224 (r := none) (pm_q224_1 (Nat.le_of_ble_eq_true rfl)) rfl (K m_1524689 w_1524689 h_1524689 T_1524689 F_1524689 W1524691)
                  · have B1524696 : sf_B 1 11 x1_1524689 := sf_ltL (Int32.not_le.mp c1524695) Bx1_1524689 B1524694
                    have B1524697 : sf_B 2 12 (m_1524689 24) := sf_ltR (Int32.not_le.mp c1524695) Bx1_1524689 B1524694
                    refine pm_R_op pm_M224 (pc' := 106) (st' := [.int 0]) (pm_q224_1 (Nat.le_of_ble_eq_true rfl)) rfl rfl ?_
                    refine pm_R_lo pm_M224 (pc' := 107) (ls' := [.ref 41, .int x1_1524689, .int 0, g3_1524689, g4_1524689]) (st' := []) (pm_q224_1 (Nat.le_of_ble_eq_true rfl)) rfl rfl ?_
                    have L_1536039 : ∀ (N : Nat) (h_1536039 : pm_H) (m_1536039 : Nat → Int32) (w_1536039 : Int64) (x2_1536039 : Int32) (g3_1536039 : Value) (g4_1536039 : Value), rf_T m_1536039 w_1536039 h_1536039 → rf_F h h_1536039 → rf_W [] m_1524689 m_1536039 → sf_B 0 11 x2_1536039 → g3_1536039.category = 1 → g4_1536039.category = 1 → (11 - x2_1536039.toInt).toNat = N → pm_R (d + 3) 224 107 [.ref 41, .int x1_1524689, .int x2_1536039, g3_1536039, g4_1536039] [] h_1536039 Q := by
                      intro N
                      induction N using Nat.strongRecOn with
                      | ind N ih_1536039 =>
                        intro h_1536039 m_1536039 w_1536039 x2_1536039 g3_1536039 g4_1536039 T_1536039 F_1536039 W_1536039 Bx2_1536039 Cg3_1536039 Cg4_1536039 hN_1536039
                        have B1536041 : sf_B 2 12 (m_1536039 24) := by rw [W_1536039 24 (by decide)]; exact B1524697
                        have W1536042 : rf_W [] m m_1536039 := W1524691.trans W_1536039 (by decide)
                        have W1536043 : rf_W [] m m_1536039 := W1524692.trans W_1536039 (by decide)
                        have W1536044 : rf_W [] m_917652 m_1536039 := W1524693.trans W_1536039 (by decide)
                        have W1536045 : rf_W [] m_1389481 m_1536039 := W_1524689.trans W_1536039 (by decide)
                        refine pm_R_lo pm_M224 (pc' := 108) (pm_q224_1 (Nat.le_of_ble_eq_true rfl)) rfl rfl ?_
                        refine pm_R_lo pm_M224 (pc' := 109) (pm_q224_1 (Nat.le_of_ble_eq_true rfl)) rfl rfl ?_
                        refine sf_R_iadd pm_M224 (pc' := 110) (pm_q224_1 (Nat.le_of_ble_eq_true rfl)) rfl Bx2_1536039 B1524696 (by decide) (by decide) (fun z1536046 e1536047 B1536048 => ?_)
                        refine pm_R_lo pm_M224 (pc' := 111) (pm_q224_1 (Nat.le_of_ble_eq_true rfl)) rfl rfl ?_
                        refine rf_R_get pm_M224 T_1536039 (pc' := 114) (v := .int (m_1536039 24)) (pm_q224_1 (Nat.le_of_ble_eq_true rfl)) rfl rfl rfl ?_
                        refine pm_R_icmp pm_M224 (t := 167) (pc' := 117) (pm_q224_1 (Nat.le_of_ble_eq_true rfl)) rfl rfl (fun c1536049 => ?_) (fun c1536049 => ?_)
                        · have B1536050 : sf_B 2 22 z1536046 := sf_leR c1536049 B1536041 B1536048
                          refine sf_R_iinc pm_M224 (pc' := 170) (ls' := fun z => [.ref 41, .int z, .int x2_1536039, g3_1536039, g4_1536039]) (pm_q224_1 (Nat.le_of_ble_eq_true rfl)) B1524696 rfl (by decide) (by decide) (by decide) (fun _ => rfl) rfl (fun z1536051 e1536052 B1536053 => ?_)
                          show pm_R _ 224 170 [.ref 41, .int z1536051, .int x2_1536039, g3_1536039, g4_1536039] [] _ _
                          refine pm_R_br pm_M224 (pc' := 97) (pm_q224_1 (Nat.le_of_ble_eq_true rfl)) rfl ?_
                          exact ih_1524689 _ (sf_up hN_1524689 e1536052 B1524696 (by decide) (by decide)) h_1536039 m_1536039 w_1536039 z1536051 (.int x2_1536039) (g3_1536039) (g4_1536039) T_1536039 F_1536039 W1536045 (sf_weak B1536053 (by decide) (by decide)) rfl Cg3_1536039 Cg4_1536039 rfl
                        · have B1536054 : sf_B 1 11 z1536046 := sf_ltL (Int32.not_le.mp c1536049) B1536048 B1536041
                          have B1536055 : sf_B 0 10 x2_1536039 := sf_addL e1536047 B1536054 B1524696 Bx2_1536039
                          refine pm_R_op pm_M224 (pc' := 118) (st' := [.int 0]) (pm_q224_1 (Nat.le_of_ble_eq_true rfl)) rfl rfl ?_
                          refine pm_R_lo pm_M224 (pc' := 119) (ls' := [.ref 41, .int x1_1524689, .int x2_1536039, .int 0, g4_1536039]) (st' := []) (pm_q224_1 (Nat.le_of_ble_eq_true rfl)) rfl rfl ?_
                          have L_1536676 : ∀ (N : Nat) (h_1536676 : pm_H) (m_1536676 : Nat → Int32) (w_1536676 : Int64) (x3_1536676 : Int32) (g4_1536676 : Value), rf_T m_1536676 w_1536676 h_1536676 → rf_F h h_1536676 → rf_W [] m_1536039 m_1536676 → sf_B 0 10 x3_1536676 → g4_1536676.category = 1 → (10 - x3_1536676.toInt).toNat = N → pm_R (d + 3) 224 119 [.ref 41, .int x1_1524689, .int x2_1536039, .int x3_1536676, g4_1536676] [] h_1536676 Q := by
                            intro N
                            induction N using Nat.strongRecOn with
                            | ind N ih_1536676 =>
                              intro h_1536676 m_1536676 w_1536676 x3_1536676 g4_1536676 T_1536676 F_1536676 W_1536676 Bx3_1536676 Cg4_1536676 hN_1536676
                              have B1536678 : sf_B 2 12 (m_1536676 24) := by rw [W_1536676 24 (by decide)]; exact B1536041
                              have W1536679 : rf_W [] m m_1536676 := W1536042.trans W_1536676 (by decide)
                              have W1536680 : rf_W [] m m_1536676 := W1536043.trans W_1536676 (by decide)
                              have W1536681 : rf_W [] m_917652 m_1536676 := W1536044.trans W_1536676 (by decide)
                              have W1536682 : rf_W [] m_1389481 m_1536676 := W1536045.trans W_1536676 (by decide)
                              have W1536683 : rf_W [] m_1524689 m_1536676 := W_1536039.trans W_1536676 (by decide)
                              refine pm_R_lo pm_M224 (pc' := 120) (pm_q224_1 (Nat.le_of_ble_eq_true rfl)) rfl rfl ?_
                              refine pm_R_lo pm_M224 (pc' := 121) (pm_q224_1 (Nat.le_of_ble_eq_true rfl)) rfl rfl ?_
                              refine pm_R_cv pm_M224 (pc' := 124) (a := 41) (ra := []) (rest := [.int x3_1536676]) (ls' := [.ref 41]) (pm_q224_1 (Nat.le_of_ble_eq_true rfl)) rfl (Or.inl rfl) pm_M209 T_1536676.2.1 rfl (by decide) (Nat.lt_of_lt_of_le (by decide) T_1536676.1) rfl rfl (Nat.le_of_ble_eq_true rfl) rfl rfl ?_
                              refine pm_R_lo pm_M209 (pc' := 1) rfl rfl rfl ?_
                              refine rf_R_get pm_M209 T_1536676 (pc' := 4) (v := .ref 47) rfl rfl rfl rfl ?_
                              refine pm_R_op pm_M209 (pc' := 6) (st' := [.int 100, .ref 47]) rfl rfl rfl ?_
                              refine pm_R_lo pm_M209 (pc' := 7) rfl rfl rfl ?_
                              have B1536684 : sf_B 0 1 (m_1536676 23) := T_1536676.2.2.1 23
                              refine rf_R_get pm_M209 T_1536676 (pc' := 10) (v := .int (m_1536676 23)) rfl rfl rfl rfl ?_
                              refine sf_R_imul pm_M209 (pc' := 11) rfl rfl sf_k100 B1536684 (by decide) (by decide) (by decide) (fun z1536685 e1536686 B1536687 => ?_)
                              obtain ⟨f1536688, e1536689, b1536690⟩ := T_1536676.2.2.2.1 47 (by decide) (by decide)
                              refine rf_R_ild pm_M209 T_1536676 (pc' := 12) rfl e1536689 (by decide) (sf_in B1536687 (by decide) (by decide)) rfl (fun z1536691 ez1536692 => ?_)
                              have e1536693 : (z1536685).toInt = 100 * ((m_1536676 23)).toInt + 0 := by
                                have q0 := e1536686
                                simp only [(show (100 : Int32).toInt = 100 from rfl)] at q0
                                omega
                              have B1536694 : sf_B 0 10 z1536691 := ez1536692 ▸ rf_p47a b1536690 e1536693 B1536684 (by decide)
                              refine pm_R_ret pm_M209 (r := some (.int z1536691)) rfl (pm_ret_i _) ?_
                              show pm_R _ 224 124 [.ref 41, .int x1_1524689, .int x2_1536039, .int x3_1536676, g4_1536676] [.int z1536691, .int x3_1536676] _ _
                              refine pm_R_icmp pm_M224 (t := 161) (pc' := 127) (pm_q224_1 (Nat.le_of_ble_eq_true rfl)) rfl rfl (fun c1536695 => ?_) (fun c1536695 => ?_)
                              · skip
                                refine sf_R_iinc pm_M224 (pc' := 164) (ls' := fun z => [.ref 41, .int x1_1524689, .int z, .int x3_1536676, g4_1536676]) (pm_q224_1 (Nat.le_of_ble_eq_true rfl)) B1536055 rfl (by decide) (by decide) (by decide) (fun _ => rfl) rfl (fun z1536696 e1536697 B1536698 => ?_)
                                show pm_R _ 224 164 [.ref 41, .int x1_1524689, .int z1536696, .int x3_1536676, g4_1536676] [] _ _
                                refine pm_R_br pm_M224 (pc' := 107) (pm_q224_1 (Nat.le_of_ble_eq_true rfl)) rfl ?_
                                exact ih_1536039 _ (sf_up hN_1536039 e1536697 B1536055 (by decide) (by decide)) h_1536676 m_1536676 w_1536676 z1536696 (.int x3_1536676) (g4_1536676) T_1536676 F_1536676 W1536683 (sf_weak B1536698 (by decide) (by decide)) rfl Cg4_1536676 rfl
                              · have B1536699 : sf_B 0 9 x3_1536676 := sf_ltL (Int32.not_le.mp c1536695) Bx3_1536676 B1536694
                                have B1536700 : sf_B 1 10 z1536691 := sf_ltR (Int32.not_le.mp c1536695) Bx3_1536676 B1536694
                                refine pm_R_lo pm_M224 (pc' := 128) (pm_q224_1 (Nat.le_of_ble_eq_true rfl)) rfl rfl ?_
                                refine pm_R_lo pm_M224 (pc' := 130) (ls' := [.ref 41, .int x1_1524689, .int x2_1536039, .int x3_1536676, .int x2_1536039]) (st' := []) (pm_q224_1 (Nat.le_of_ble_eq_true rfl)) rfl rfl ?_
                                have L_1536808 : ∀ (N : Nat) (h_1536808 : pm_H) (m_1536808 : Nat → Int32) (w_1536808 : Int64) (x4_1536808 : Int32), rf_T m_1536808 w_1536808 h_1536808 → rf_F h h_1536808 → rf_W [] m_1536676 m_1536808 → sf_B 0 11 x4_1536808 → (11 - x4_1536808.toInt).toNat = N → pm_R (d + 3) 224 130 [.ref 41, .int x1_1524689, .int x2_1536039, .int x3_1536676, .int x4_1536808] [] h_1536808 Q := by
                                  intro N
                                  induction N using Nat.strongRecOn with
                                  | ind N ih_1536808 =>
                                    intro h_1536808 m_1536808 w_1536808 x4_1536808 T_1536808 F_1536808 W_1536808 Bx4_1536808 hN_1536808
                                    have B1536810 : sf_B 2 12 (m_1536808 24) := by rw [W_1536808 24 (by decide)]; exact B1536678
                                    have W1536811 : rf_W [] m m_1536808 := W1536679.trans W_1536808 (by decide)
                                    have W1536812 : rf_W [] m m_1536808 := W1536680.trans W_1536808 (by decide)
                                    have W1536813 : rf_W [] m_917652 m_1536808 := W1536681.trans W_1536808 (by decide)
                                    have W1536814 : rf_W [] m_1389481 m_1536808 := W1536682.trans W_1536808 (by decide)
                                    have W1536815 : rf_W [] m_1524689 m_1536808 := W1536683.trans W_1536808 (by decide)
                                    have W1536816 : rf_W [] m_1536039 m_1536808 := W_1536676.trans W_1536808 (by decide)
                                    refine pm_R_lo pm_M224 (pc' := 132) (pm_q224_1 (Nat.le_of_ble_eq_true rfl)) rfl rfl ?_
                                    refine pm_R_lo pm_M224 (pc' := 133) (pm_q224_1 (Nat.le_of_ble_eq_true rfl)) rfl rfl ?_
                                    refine pm_R_lo pm_M224 (pc' := 134) (pm_q224_1 (Nat.le_of_ble_eq_true rfl)) rfl rfl ?_
                                    refine sf_R_iadd pm_M224 (pc' := 135) (pm_q224_1 (Nat.le_of_ble_eq_true rfl)) rfl B1536055 B1524696 (by decide) (by decide) (fun z1536817 e1536818 B1536819 => ?_)
                                    have B1536820 : sf_B 1 11 z1536817 := sf_same e1536047 e1536818 B1536054
                                    refine pm_R_icmp pm_M224 (t := 155) (pc' := 138) (pm_q224_1 (Nat.le_of_ble_eq_true rfl)) rfl rfl (fun c1536821 => ?_) (fun c1536821 => ?_)
                                    · have B1536822 : sf_B 1 11 x4_1536808 := sf_leR c1536821 B1536820 Bx4_1536808
                                      refine sf_R_iinc pm_M224 (pc' := 158) (ls' := fun z => [.ref 41, .int x1_1524689, .int x2_1536039, .int z, .int x4_1536808]) (pm_q224_1 (Nat.le_of_ble_eq_true rfl)) B1536699 rfl (by decide) (by decide) (by decide) (fun _ => rfl) rfl (fun z1536823 e1536824 B1536825 => ?_)
                                      show pm_R _ 224 158 [.ref 41, .int x1_1524689, .int x2_1536039, .int z1536823, .int x4_1536808] [] _ _
                                      refine pm_R_br pm_M224 (pc' := 119) (pm_q224_1 (Nat.le_of_ble_eq_true rfl)) rfl ?_
                                      exact ih_1536676 _ (sf_up hN_1536676 e1536824 B1536699 (by decide) (by decide)) h_1536808 m_1536808 w_1536808 z1536823 (.int x4_1536808) T_1536808 F_1536808 W1536816 (sf_weak B1536825 (by decide) (by decide)) rfl rfl
                                    · have B1536826 : sf_B 0 10 x4_1536808 := sf_ltL (Int32.not_le.mp c1536821) Bx4_1536808 B1536820
                                      refine pm_R_lo pm_M224 (pc' := 139) (pm_q224_1 (Nat.le_of_ble_eq_true rfl)) rfl rfl ?_
                                      refine pm_R_lo pm_M224 (pc' := 140) (pm_q224_1 (Nat.le_of_ble_eq_true rfl)) rfl rfl ?_
                                      refine pm_R_lo pm_M224 (pc' := 141) (pm_q224_1 (Nat.le_of_ble_eq_true rfl)) rfl rfl ?_
                                      refine pm_R_lo pm_M224 (pc' := 143) (pm_q224_1 (Nat.le_of_ble_eq_true rfl)) rfl rfl ?_
                                      refine pm_R_lo pm_M224 (pc' := 144) (pm_q224_1 (Nat.le_of_ble_eq_true rfl)) rfl rfl ?_
                                      refine pm_R_lo pm_M224 (pc' := 145) (pm_q224_1 (Nat.le_of_ble_eq_true rfl)) rfl rfl ?_
                                      refine sf_R_iadd pm_M224 (pc' := 146) (pm_q224_1 (Nat.le_of_ble_eq_true rfl)) rfl B1536055 B1524696 (by decide) (by decide) (fun z1536827 e1536828 B1536829 => ?_)
                                      have B1536830 : sf_B 1 11 z1536827 := sf_same e1536818 e1536828 B1536820
                                      refine pm_R_cv pm_M224 (pc' := 149) (a := 41) (ra := [.int z1536827, .int x4_1536808, .int x2_1536039, .int x3_1536676]) (rest := []) (ls' := [.ref 41, .int x3_1536676, .int x2_1536039, .int x4_1536808, .int z1536827, pm_no, pm_no, pm_no, pm_no, pm_no, pm_no, pm_no]) (pm_q224_1 (Nat.le_of_ble_eq_true rfl)) rfl (Or.inl rfl) pm_M226 T_1536808.2.1 rfl (by decide) (Nat.lt_of_lt_of_le (by decide) T_1536808.1) rfl rfl (Nat.le_of_ble_eq_true rfl) rfl rfl ?_
                                      refine rf_c226 (d := d + 0) T_1536808 B1536699 (sf_weak B1536055 (by decide) (by decide)) B1536826 (sf_weak B1536830 (by decide) (by decide)) (fun m1536833 w1536834 h1536835 T1536836 F1536837 W1536838 => ?_)
                                      have F1536839 := F_1536808.trans F1536837
                                      have B1536840 : sf_B 2 12 (m1536833 24) := by rw [W1536838 24 (by decide)]; exact B1536810
                                      have W1536841 : rf_W [] m m1536833 := W1536811.trans W1536838 (by decide)
                                      have W1536842 : rf_W [] m m1536833 := W1536812.trans W1536838 (by decide)
                                      have W1536843 : rf_W [] m_917652 m1536833 := W1536813.trans W1536838 (by decide)
                                      have W1536844 : rf_W [] m_1389481 m1536833 := W1536814.trans W1536838 (by decide)
                                      have W1536845 : rf_W [] m_1524689 m1536833 := W1536815.trans W1536838 (by decide)
                                      have W1536846 : rf_W [] m_1536039 m1536833 := W1536816.trans W1536838 (by decide)
                                      have W1536847 : rf_W [] m_1536676 m1536833 := W_1536808.trans W1536838 (by decide)
                                      show pm_R _ 224 149 [.ref 41, .int x1_1524689, .int x2_1536039, .int x3_1536676, .int x4_1536808] [] _ _
                                      refine sf_R_iinc pm_M224 (pc' := 152) (ls' := fun z => [.ref 41, .int x1_1524689, .int x2_1536039, .int x3_1536676, .int z]) (pm_q224_1 (Nat.le_of_ble_eq_true rfl)) B1536826 rfl (by decide) (by decide) (by decide) (fun _ => rfl) rfl (fun z1536848 e1536849 B1536850 => ?_)
                                      show pm_R _ 224 152 [.ref 41, .int x1_1524689, .int x2_1536039, .int x3_1536676, .int z1536848] [] _ _
                                      refine pm_R_br pm_M224 (pc' := 130) (pm_q224_1 (Nat.le_of_ble_eq_true rfl)) rfl ?_
                                      exact ih_1536808 _ (sf_up hN_1536808 e1536849 B1536826 (by decide) (by decide)) h1536835 m1536833 w1536834 z1536848 T1536836 F1536839 W1536847 (sf_weak B1536850 (by decide) (by decide)) rfl
                                exact L_1536808 _ h_1536676 m_1536676 w_1536676 x2_1536039 T_1536676 F_1536676 (rf_W.refl _ _) (sf_weak B1536055 (by decide) (by decide)) rfl
                          exact L_1536676 _ h_1536039 m_1536039 w_1536039 0 (g4_1536039) T_1536039 F_1536039 (rf_W.refl _ _) (sf_weak sf_k0 (by decide) (by decide)) Cg4_1536039 rfl
                    exact L_1536039 _ h_1524689 m_1524689 w_1524689 0 (g3_1524689) (g4_1524689) T_1524689 F_1524689 (rf_W.refl _ _) (sf_weak sf_k0 (by decide) (by decide)) Cg3_1524689 Cg4_1524689 rfl
              exact L_1524689 _ h_1389481 m_1389481 w_1389481 1 (g2_1389481) (pm_no) (pm_no) T_1389481 F_1389481 (rf_W.refl _ _) (sf_weak sf_k1 (by decide) (by decide)) Cg2_1389481 rfl rfl rfl
            · have B1536851 : sf_B 0 11 x1_1389481 := sf_ltL (Int32.not_le.mp c1389486) Bx1_1389481 B1389485
              have B1536852 : sf_B 1 12 (m_1389481 24) := sf_ltR (Int32.not_le.mp c1389486) Bx1_1389481 B1389485
              refine pm_R_op pm_M224 (pc' := 35) (st' := [.int 0]) rfl rfl rfl ?_
              refine pm_R_lo pm_M224 (pc' := 36) (ls' := [.ref 41, .int x1_1389481, .int 0, pm_no, pm_no]) (st' := []) rfl rfl rfl ?_
              have L_1537769 : ∀ (N : Nat) (h_1537769 : pm_H) (m_1537769 : Nat → Int32) (w_1537769 : Int64) (x2_1537769 : Int32), rf_T m_1537769 w_1537769 h_1537769 → rf_F h h_1537769 → rf_W [] m_1389481 m_1537769 → sf_B 0 16 x2_1537769 → (16 - x2_1537769.toInt).toNat = N → pm_R (d + 3) 224 36 [.ref 41, .int x1_1389481, .int x2_1537769, pm_no, pm_no] [] h_1537769 Q := by
                intro N
                induction N using Nat.strongRecOn with
                | ind N ih_1537769 =>
                  intro h_1537769 m_1537769 w_1537769 x2_1537769 T_1537769 F_1537769 W_1537769 Bx2_1537769 hN_1537769
                  have B1537771 : sf_B 1 12 (m_1537769 24) := by rw [W_1537769 24 (by decide)]; exact B1536852
                  have W1537772 : rf_W [] m m_1537769 := W1389483.trans W_1537769 (by decide)
                  have W1537773 : rf_W [] m m_1537769 := W1389484.trans W_1537769 (by decide)
                  have W1537774 : rf_W [] m_917652 m_1537769 := W_1389481.trans W_1537769 (by decide)
                  refine pm_R_lo pm_M224 (pc' := 37) rfl rfl rfl ?_
                  refine pm_R_lo pm_M224 (pc' := 38) rfl rfl rfl ?_
                  refine pm_R_cv pm_M224 (pc' := 41) (a := 41) (ra := []) (rest := [.int x2_1537769]) (ls' := [.ref 41]) rfl rfl (Or.inl rfl) pm_M203 T_1537769.2.1 rfl (by decide) (Nat.lt_of_lt_of_le (by decide) T_1537769.1) rfl rfl (Nat.le_of_ble_eq_true rfl) rfl rfl ?_
                  refine pm_R_lo pm_M203 (pc' := 1) rfl rfl rfl ?_
                  refine rf_R_get pm_M203 T_1537769 (pc' := 4) (v := .ref 47) rfl rfl rfl rfl ?_
                  refine pm_R_op pm_M203 (pc' := 6) (st' := [.int 100, .ref 47]) rfl rfl rfl ?_
                  refine pm_R_lo pm_M203 (pc' := 7) rfl rfl rfl ?_
                  have B1537775 : sf_B 0 1 (m_1537769 23) := T_1537769.2.2.1 23
                  refine rf_R_get pm_M203 T_1537769 (pc' := 10) (v := .int (m_1537769 23)) rfl rfl rfl rfl ?_
                  refine sf_R_imul pm_M203 (pc' := 11) rfl rfl sf_k100 B1537775 (by decide) (by decide) (by decide) (fun z1537776 e1537777 B1537778 => ?_)
                  refine pm_R_op pm_M203 (pc' := 12) (st' := [.int 1, .int z1537776, .ref 47]) rfl rfl rfl ?_
                  refine sf_R_iadd pm_M203 (pc' := 13) rfl rfl B1537778 sf_k1 (by decide) (by decide) (fun z1537779 e1537780 B1537781 => ?_)
                  obtain ⟨f1537782, e1537783, b1537784⟩ := T_1537769.2.2.2.1 47 (by decide) (by decide)
                  refine rf_R_ild pm_M203 T_1537769 (pc' := 14) rfl e1537783 (by decide) (sf_in B1537781 (by decide) (by decide)) rfl (fun z1537785 ez1537786 => ?_)
                  have e1537787 : (z1537779).toInt = 100 * ((m_1537769 23)).toInt + 1 := by
                    have q0 := e1537777
                    have q1 := e1537780
                    simp only [(show (1 : Int32).toInt = 1 from rfl), (show (100 : Int32).toInt = 100 from rfl)] at q0 q1
                    omega
                  have B1537788 : sf_B 0 16 z1537785 := ez1537786 ▸ rf_p47b b1537784 e1537787 B1537775 (by decide)
                  refine pm_R_ret pm_M203 (r := some (.int z1537785)) rfl (pm_ret_i _) ?_
                  show pm_R _ 224 41 [.ref 41, .int x1_1389481, .int x2_1537769, pm_no, pm_no] [.int z1537785, .int x2_1537769] _ _
                  refine pm_R_icmp pm_M224 (t := 89) (pc' := 44) rfl rfl rfl (fun c1537789 => ?_) (fun c1537789 => ?_)
                  · skip
                    refine sf_R_iinc pm_M224 (pc' := 92) (ls' := fun z => [.ref 41, .int z, .int x2_1537769, pm_no, pm_no]) rfl B1536851 rfl (by decide) (by decide) (by decide) (fun _ => rfl) rfl (fun z1537790 e1537791 B1537792 => ?_)
                    show pm_R _ 224 92 [.ref 41, .int z1537790, .int x2_1537769, pm_no, pm_no] [] _ _
                    refine pm_R_br pm_M224 (pc' := 26) rfl rfl ?_
                    exact ih_1389481 _ (sf_up hN_1389481 e1537791 B1536851 (by decide) (by decide)) h_1537769 m_1537769 w_1537769 z1537790 (.int x2_1537769) T_1537769 F_1537769 W1537774 (sf_weak B1537792 (by decide) (by decide)) rfl rfl
                  · have B1537793 : sf_B 0 15 x2_1537769 := sf_ltL (Int32.not_le.mp c1537789) Bx2_1537769 B1537788
                    have B1537794 : sf_B 1 16 z1537785 := sf_ltR (Int32.not_le.mp c1537789) Bx2_1537769 B1537788
                    refine pm_R_lo pm_M224 (pc' := 45) rfl rfl rfl ?_
                    refine rf_R_get pm_M224 T_1537769 (pc' := 48) (v := .ref 56) rfl rfl rfl rfl ?_
                    refine pm_R_lo pm_M224 (pc' := 49) rfl rfl rfl ?_
                    refine pm_R_lo pm_M224 (pc' := 50) rfl rfl rfl ?_
                    refine pm_R_op pm_M224 (pc' := 51) (st' := [.int 1, .int x2_1537769, .ref 41, .ref 56]) rfl rfl rfl ?_
                    refine pm_R_cv pm_M224 (pc' := 54) (a := 41) (ra := [.int 1, .int x2_1537769]) (rest := [.ref 56]) (ls' := [.ref 41, .int x2_1537769, .int 1]) rfl rfl (Or.inl rfl) pm_M205 T_1537769.2.1 rfl (by decide) (Nat.lt_of_lt_of_le (by decide) T_1537769.1) rfl rfl (Nat.le_of_ble_eq_true rfl) rfl rfl ?_
                    refine pm_R_lo pm_M205 (pc' := 1) rfl rfl rfl ?_
                    refine rf_R_get pm_M205 T_1537769 (pc' := 4) (v := .ref 47) rfl rfl rfl rfl ?_
                    refine pm_R_op pm_M205 (pc' := 6) (st' := [.int 100, .ref 47]) rfl rfl rfl ?_
                    refine pm_R_lo pm_M205 (pc' := 7) rfl rfl rfl ?_
                    refine rf_R_get pm_M205 T_1537769 (pc' := 10) (v := .int (m_1537769 23)) rfl rfl rfl rfl ?_
                    refine sf_R_imul pm_M205 (pc' := 11) rfl rfl sf_k100 B1537775 (by decide) (by decide) (by decide) (fun z1537795 e1537796 B1537797 => ?_)
                    refine pm_R_op pm_M205 (pc' := 13) (st' := [.int 42, .int z1537795, .ref 47]) rfl rfl rfl ?_
                    refine sf_R_iadd pm_M205 (pc' := 14) rfl rfl B1537797 sf_k42 (by decide) (by decide) (fun z1537798 e1537799 B1537800 => ?_)
                    refine pm_R_op pm_M205 (pc' := 15) (st' := [.int 3, .int z1537798, .ref 47]) rfl rfl rfl ?_
                    refine pm_R_lo pm_M205 (pc' := 16) rfl rfl rfl ?_
                    refine sf_R_imul pm_M205 (pc' := 17) rfl rfl sf_k3 B1537793 (by decide) (by decide) (by decide) (fun z1537801 e1537802 B1537803 => ?_)
                    refine sf_R_iadd pm_M205 (pc' := 18) rfl rfl B1537800 B1537803 (by decide) (by decide) (fun z1537804 e1537805 B1537806 => ?_)
                    refine pm_R_lo pm_M205 (pc' := 19) rfl rfl rfl ?_
                    refine sf_R_iadd pm_M205 (pc' := 20) rfl rfl B1537806 sf_k1 (by decide) (by decide) (fun z1537807 e1537808 B1537809 => ?_)
                    refine rf_R_ild pm_M205 T_1537769 (pc' := 21) rfl e1537783 (by decide) (sf_in B1537809 (by decide) (by decide)) rfl (fun z1537810 ez1537811 => ?_)
                    have e1537812 : (z1537807).toInt = 100 * ((m_1537769 23)).toInt + 3 * (x2_1537769).toInt + 43 := by
                      have q0 := e1537796
                      have q1 := e1537799
                      have q2 := e1537802
                      have q3 := e1537805
                      have q4 := e1537808
                      simp only [(show (1 : Int32).toInt = 1 from rfl), (show (3 : Int32).toInt = 3 from rfl), (show (42 : Int32).toInt = 42 from rfl), (show (100 : Int32).toInt = 100 from rfl)] at q0 q1 q2 q3 q4
                      omega
                    have B1537813 : sf_B 0 5 z1537810 := ez1537811 ▸ rf_p47k b1537784 e1537812 B1537775 B1537793 (by decide) (by decide) (by decide)
                    refine pm_R_ret pm_M205 (r := some (.int z1537810)) rfl (pm_ret_i _) ?_
                    show pm_R _ 224 54 [.ref 41, .int x1_1389481, .int x2_1537769, pm_no, pm_no] [.int z1537810, .ref 56] _ _
                    refine pm_R_lo pm_M224 (pc' := 55) rfl rfl rfl ?_
                    refine pm_R_lo pm_M224 (pc' := 56) rfl rfl rfl ?_
                    refine pm_R_lo pm_M224 (pc' := 57) rfl rfl rfl ?_
                    refine pm_R_lo pm_M224 (pc' := 58) rfl rfl rfl ?_
                    refine pm_R_op pm_M224 (pc' := 59) (st' := [.int 2, .int x2_1537769, .ref 41, .int x1_1389481, .int x1_1389481, .int z1537810, .ref 56]) rfl rfl rfl ?_
                    refine pm_R_cv pm_M224 (pc' := 62) (a := 41) (ra := [.int 2, .int x2_1537769]) (rest := [.int x1_1389481, .int x1_1389481, .int z1537810, .ref 56]) (ls' := [.ref 41, .int x2_1537769, .int 2]) rfl rfl (Or.inl rfl) pm_M205 T_1537769.2.1 rfl (by decide) (Nat.lt_of_lt_of_le (by decide) T_1537769.1) rfl rfl (Nat.le_of_ble_eq_true rfl) rfl rfl ?_
                    refine pm_R_lo pm_M205 (pc' := 1) rfl rfl rfl ?_
                    refine rf_R_get pm_M205 T_1537769 (pc' := 4) (v := .ref 47) rfl rfl rfl rfl ?_
                    refine pm_R_op pm_M205 (pc' := 6) (st' := [.int 100, .ref 47]) rfl rfl rfl ?_
                    refine pm_R_lo pm_M205 (pc' := 7) rfl rfl rfl ?_
                    refine rf_R_get pm_M205 T_1537769 (pc' := 10) (v := .int (m_1537769 23)) rfl rfl rfl rfl ?_
                    refine sf_R_imul pm_M205 (pc' := 11) rfl rfl sf_k100 B1537775 (by decide) (by decide) (by decide) (fun z1537814 e1537815 B1537816 => ?_)
                    refine pm_R_op pm_M205 (pc' := 13) (st' := [.int 42, .int z1537814, .ref 47]) rfl rfl rfl ?_
                    refine sf_R_iadd pm_M205 (pc' := 14) rfl rfl B1537816 sf_k42 (by decide) (by decide) (fun z1537817 e1537818 B1537819 => ?_)
                    refine pm_R_op pm_M205 (pc' := 15) (st' := [.int 3, .int z1537817, .ref 47]) rfl rfl rfl ?_
                    refine pm_R_lo pm_M205 (pc' := 16) rfl rfl rfl ?_
                    refine sf_R_imul pm_M205 (pc' := 17) rfl rfl sf_k3 B1537793 (by decide) (by decide) (by decide) (fun z1537820 e1537821 B1537822 => ?_)
                    refine sf_R_iadd pm_M205 (pc' := 18) rfl rfl B1537819 B1537822 (by decide) (by decide) (fun z1537823 e1537824 B1537825 => ?_)
                    refine pm_R_lo pm_M205 (pc' := 19) rfl rfl rfl ?_
                    refine sf_R_iadd pm_M205 (pc' := 20) rfl rfl B1537825 sf_k2 (by decide) (by decide) (fun z1537826 e1537827 B1537828 => ?_)
                    refine rf_R_ild pm_M205 T_1537769 (pc' := 21) rfl e1537783 (by decide) (sf_in B1537828 (by decide) (by decide)) rfl (fun z1537829 ez1537830 => ?_)
                    have e1537831 : (z1537826).toInt = 100 * ((m_1537769 23)).toInt + 3 * (x2_1537769).toInt + 44 := by
                      have q0 := e1537815
                      have q1 := e1537818
                      have q2 := e1537821
                      have q3 := e1537824
                      have q4 := e1537827
                      simp only [(show (2 : Int32).toInt = 2 from rfl), (show (3 : Int32).toInt = 3 from rfl), (show (42 : Int32).toInt = 42 from rfl), (show (100 : Int32).toInt = 100 from rfl)] at q0 q1 q2 q3 q4
                      omega
                    have B1537832 : sf_B 0 49 z1537829 := ez1537830 ▸ rf_p47v b1537784 e1537831 B1537775 B1537793 (by decide) (by decide) (by decide)
                    refine pm_R_ret pm_M205 (r := some (.int z1537829)) rfl (pm_ret_i _) ?_
                    show pm_R _ 224 62 [.ref 41, .int x1_1389481, .int x2_1537769, pm_no, pm_no] [.int z1537829, .int x1_1389481, .int x1_1389481, .int z1537810, .ref 56] _ _
                    refine pm_R_cs pm_M224 (pc' := 65) (ra := [.int z1537829, .int x1_1389481, .int x1_1389481, .int z1537810]) (rest := [.ref 56]) (ls' := [.int z1537810, .int x1_1389481, .int x1_1389481, .int z1537829]) rfl rfl (Or.inl rfl) pm_M225 rfl rfl (Nat.le_of_ble_eq_true rfl) rfl rfl ?_
                    refine pm_R_op pm_M225 (pc' := 2) (st' := [.int 50]) rfl rfl rfl ?_
                    refine pm_R_lo pm_M225 (pc' := 3) rfl rfl rfl ?_
                    refine pm_R_lo pm_M225 (pc' := 4) rfl rfl rfl ?_
                    refine pm_R_lo pm_M225 (pc' := 5) rfl rfl rfl ?_
                    refine pm_R_cs pm_M225 (pc' := 8) (ra := [.int x1_1389481, .int x1_1389481, .int z1537810]) (rest := [.int 50]) (ls' := [.int z1537810, .int x1_1389481, .int x1_1389481]) rfl rfl (Or.inl rfl) pm_M207 rfl rfl (Nat.le_of_ble_eq_true rfl) rfl rfl ?_
                    refine pm_R_op pm_M207 (pc' := 3) (st' := [.int 144]) rfl rfl rfl ?_
                    refine pm_R_lo pm_M207 (pc' := 4) rfl rfl rfl ?_
                    refine sf_R_imul pm_M207 (pc' := 5) rfl rfl sf_k144 B1537813 (by decide) (by decide) (by decide) (fun z1537833 e1537834 B1537835 => ?_)
                    refine pm_R_op pm_M207 (pc' := 7) (st' := [.int 12, .int z1537833]) rfl rfl rfl ?_
                    refine pm_R_lo pm_M207 (pc' := 8) rfl rfl rfl ?_
                    refine sf_R_imul pm_M207 (pc' := 9) rfl rfl sf_k12 B1536851 (by decide) (by decide) (by decide) (fun z1537836 e1537837 B1537838 => ?_)
                    refine sf_R_iadd pm_M207 (pc' := 10) rfl rfl B1537835 B1537838 (by decide) (by decide) (fun z1537839 e1537840 B1537841 => ?_)
                    refine pm_R_lo pm_M207 (pc' := 11) rfl rfl rfl ?_
                    refine sf_R_iadd pm_M207 (pc' := 12) rfl rfl B1537841 B1536851 (by decide) (by decide) (fun z1537842 e1537843 B1537844 => ?_)
                    refine pm_R_ret pm_M207 (r := some (.int z1537842)) rfl (pm_ret_i _) ?_
                    show pm_R _ 225 8 [.int z1537810, .int x1_1389481, .int x1_1389481, .int z1537829] [.int z1537842, .int 50] _ _
                    refine sf_R_imul pm_M225 (pc' := 9) rfl rfl sf_k50 B1537844 (by decide) (by decide) (by decide) (fun z1537845 e1537846 B1537847 => ?_)
                    refine pm_R_lo pm_M225 (pc' := 10) rfl rfl rfl ?_
                    refine sf_R_iadd pm_M225 (pc' := 11) rfl rfl B1537847 B1537832 (by decide) (by decide) (fun z1537848 e1537849 B1537850 => ?_)
                    refine pm_R_ret pm_M225 (r := some (.int z1537848)) rfl (pm_ret_i _) ?_
                    show pm_R _ 224 65 [.ref 41, .int x1_1389481, .int x2_1537769, pm_no, pm_no] [.int z1537848, .ref 56] _ _
                    refine pm_R_op pm_M224 (pc' := 66) (st' := [.int z1537848, .ref 56, .int z1537848, .ref 56]) rfl rfl rfl ?_
                    obtain ⟨f1537851, e1537852⟩ := T_1537769.2.2.2.1 56 (by decide) (by decide)
                    refine rf_R_lld pm_M224 T_1537769 (pc' := 67) rfl e1537852 (by decide) (by decide) (sf_in B1537850 (by decide) (by decide)) rfl (fun z1537854 ez1537855 => ?_)
                    refine pm_R_lo pm_M224 (pc' := 68) rfl rfl rfl ?_
                    refine pm_R_lo pm_M224 (pc' := 69) rfl rfl rfl ?_
                    refine pm_R_lo pm_M224 (pc' := 70) rfl rfl rfl ?_
                    refine pm_R_cv pm_M224 (pc' := 73) (a := 41) (ra := [.int x1_1389481, .int x2_1537769]) (rest := [.long z1537854, .int z1537848, .ref 56]) (ls' := [.ref 41, .int x2_1537769, .int x1_1389481]) rfl rfl (Or.inl rfl) pm_M204 T_1537769.2.1 rfl (by decide) (Nat.lt_of_lt_of_le (by decide) T_1537769.1) rfl rfl (Nat.le_of_ble_eq_true rfl) rfl rfl ?_
                    refine pm_R_lo pm_M204 (pc' := 1) rfl rfl rfl ?_
                    refine rf_R_get pm_M204 T_1537769 (pc' := 4) (v := .ref 53) rfl rfl rfl rfl ?_
                    refine pm_R_lo pm_M204 (pc' := 5) rfl rfl rfl ?_
                    obtain ⟨f1537856, e1537857⟩ := T_1537769.2.2.2.1 53 (by decide) (by decide)
                    refine rf_R_ild pm_M204 T_1537769 (pc' := 6) rfl e1537857 (by decide) (sf_in B1536851 (by decide) (by decide)) rfl (fun z1537859 ez1537860 => ?_)
                    refine sf_R_lany pm_M204 (pc' := 7) (st := []) rfl rfl rfl (fun z1537861 => ?_)
                    refine pm_R_lo pm_M204 (pc' := 8) rfl rfl rfl ?_
                    refine pm_R_lo pm_M204 (pc' := 9) rfl rfl rfl ?_
                    refine pm_R_op pm_M204 (pc' := 10) (st' := [.int 0, .int x2_1537769, .ref 41, .long z1537861]) rfl rfl rfl ?_
                    refine pm_R_cv pm_M204 (pc' := 13) (a := 41) (ra := [.int 0, .int x2_1537769]) (rest := [.long z1537861]) (ls' := [.ref 41, .int x2_1537769, .int 0]) rfl rfl (Or.inl rfl) pm_M205 T_1537769.2.1 rfl (by decide) (Nat.lt_of_lt_of_le (by decide) T_1537769.1) rfl rfl (Nat.le_of_ble_eq_true rfl) rfl rfl ?_
                    refine pm_R_lo pm_M205 (pc' := 1) rfl rfl rfl ?_
                    refine rf_R_get pm_M205 T_1537769 (pc' := 4) (v := .ref 47) rfl rfl rfl rfl ?_
                    refine pm_R_op pm_M205 (pc' := 6) (st' := [.int 100, .ref 47]) rfl rfl rfl ?_
                    refine pm_R_lo pm_M205 (pc' := 7) rfl rfl rfl ?_
                    refine rf_R_get pm_M205 T_1537769 (pc' := 10) (v := .int (m_1537769 23)) rfl rfl rfl rfl ?_
                    refine sf_R_imul pm_M205 (pc' := 11) rfl rfl sf_k100 B1537775 (by decide) (by decide) (by decide) (fun z1537862 e1537863 B1537864 => ?_)
                    refine pm_R_op pm_M205 (pc' := 13) (st' := [.int 42, .int z1537862, .ref 47]) rfl rfl rfl ?_
                    refine sf_R_iadd pm_M205 (pc' := 14) rfl rfl B1537864 sf_k42 (by decide) (by decide) (fun z1537865 e1537866 B1537867 => ?_)
                    refine pm_R_op pm_M205 (pc' := 15) (st' := [.int 3, .int z1537865, .ref 47]) rfl rfl rfl ?_
                    refine pm_R_lo pm_M205 (pc' := 16) rfl rfl rfl ?_
                    refine sf_R_imul pm_M205 (pc' := 17) rfl rfl sf_k3 B1537793 (by decide) (by decide) (by decide) (fun z1537868 e1537869 B1537870 => ?_)
                    refine sf_R_iadd pm_M205 (pc' := 18) rfl rfl B1537867 B1537870 (by decide) (by decide) (fun z1537871 e1537872 B1537873 => ?_)
                    refine pm_R_lo pm_M205 (pc' := 19) rfl rfl rfl ?_
                    refine sf_R_iadd pm_M205 (pc' := 20) rfl rfl B1537873 sf_k0 (by decide) (by decide) (fun z1537874 e1537875 B1537876 => ?_)
                    refine rf_R_ild pm_M205 T_1537769 (pc' := 21) rfl e1537783 (by decide) (sf_in B1537876 (by decide) (by decide)) rfl (fun z1537877 ez1537878 => ?_)
                    have e1537879 : (z1537874).toInt = 100 * ((m_1537769 23)).toInt + 3 * (x2_1537769).toInt + 42 := by
                      have q0 := e1537863
                      have q1 := e1537866
                      have q2 := e1537869
                      have q3 := e1537872
                      have q4 := e1537875
                      simp only [(show (0 : Int32).toInt = 0 from rfl), (show (3 : Int32).toInt = 3 from rfl), (show (42 : Int32).toInt = 42 from rfl), (show (100 : Int32).toInt = 100 from rfl)] at q0 q1 q2 q3 q4
                      omega
                    have B1537880 : sf_B 0 9 z1537877 := ez1537878 ▸ rf_p47s b1537784 e1537879 B1537775 B1537793 (by decide) (by decide) (by decide)
                    refine pm_R_ret pm_M205 (r := some (.int z1537877)) rfl (pm_ret_i _) ?_
                    show pm_R _ 204 13 [.ref 41, .int x2_1537769, .int x1_1389481] [.int z1537877, .long z1537861] _ _
                    refine pm_R_cs pm_M204 (pc' := 16) (ra := [.int z1537877, .long z1537861]) (rest := []) (ls' := [.long z1537861, pm_no, .int z1537877]) rfl rfl (Or.inl rfl) pm_M206 rfl rfl (Nat.le_of_ble_eq_true rfl) rfl rfl ?_
                    refine pm_R_lo pm_M206 (pc' := 1) rfl rfl rfl ?_
                    refine pm_R_lo pm_M206 (pc' := 2) rfl rfl rfl ?_
                    refine sf_R_lany pm_M206 (pc' := 3) (st := []) rfl rfl rfl (fun z1537881 => ?_)
                    refine pm_R_op pm_M206 (pc' := 4) (st' := [.long 1, .long z1537881]) rfl rfl rfl ?_
                    refine sf_R_lany pm_M206 (pc' := 5) (st := []) rfl rfl rfl (fun z1537882 => ?_)
                    refine pm_R_op pm_M206 (pc' := 6) (st' := [.long 1, .long z1537882]) rfl rfl rfl ?_
                    refine sf_R_lcmp pm_M206 (pc' := 7) rfl rfl (fun z1537883 e1537884 => ?_)
                    refine pm_R_ifc pm_M206 (t := 14) (pc' := 10) rfl rfl rfl (fun c1537885 => ?_) (fun c1537885 => ?_)
                    · have k1537886 := sf_lneC e1537884 c1537885
                      refine pm_R_op pm_M206 (pc' := 15) (st' := [.int 0]) rfl rfl rfl ?_
                      refine pm_R_ret pm_M206 (r := some (.int 0)) rfl rfl ?_
                      show pm_R _ 204 16 [.ref 41, .int x2_1537769, .int x1_1389481] [.int 0] _ _
                      refine pm_R_br pm_M204 (pc' := 39) (st' := []) rfl rfl ?_
                      refine pm_R_op pm_M204 (pc' := 40) (st' := [.int 0]) rfl rfl rfl ?_
                      refine pm_R_ret pm_M204 (r := some (.int 0)) rfl rfl ?_
                      show pm_R _ 224 73 [.ref 41, .int x1_1389481, .int x2_1537769, pm_no, pm_no] [.int 0, .long z1537854, .int z1537848, .ref 56] _ _
                      refine pm_R_br pm_M224 (pc' := 80) (st' := [.long z1537854, .int z1537848, .ref 56]) rfl rfl ?_
                      refine pm_R_op pm_M224 (pc' := 81) (st' := [.long 0, .long z1537854, .int z1537848, .ref 56]) rfl rfl rfl ?_
                      refine sf_R_lany pm_M224 (pc' := 82) (st := [.int z1537848, .ref 56]) rfl rfl rfl (fun z1537887 => ?_)
                      refine rf_R_lst pm_M224 T_1537769 (pc' := 83) rfl e1537852 (by decide) (by decide) (sf_in B1537850 (by decide) (by decide)) ⟨_, rfl⟩ rfl (fun h1537888 T1537889 F1537890 => ?_)
                      have F1537891 := F_1537769.trans F1537890
                      refine sf_R_iinc pm_M224 (pc' := 86) (ls' := fun z => [.ref 41, .int x1_1389481, .int z, pm_no, pm_no]) rfl B1537793 rfl (by decide) (by decide) (by decide) (fun _ => rfl) rfl (fun z1537892 e1537893 B1537894 => ?_)
                      show pm_R _ 224 86 [.ref 41, .int x1_1389481, .int z1537892, pm_no, pm_no] [] _ _
                      refine pm_R_br pm_M224 (pc' := 36) rfl rfl ?_
                      exact ih_1537769 _ (sf_up hN_1537769 e1537893 B1537793 (by decide) (by decide)) h1537888 m_1537769 w_1537769 z1537892 T1537889 F1537891 W_1537769 (sf_weak B1537894 (by decide) (by decide)) rfl
                    · have B1537895 : sf_B 0 0 z1537883 := sf_eqL (Classical.not_not.mp c1537885) sf_k0
                      refine pm_R_op pm_M206 (pc' := 11) (st' := [.int 1]) rfl rfl rfl ?_
                      refine pm_R_br pm_M206 (pc' := 15) rfl rfl ?_
                      refine pm_R_ret pm_M206 (r := some (.int 1)) rfl rfl ?_
                      show pm_R _ 204 16 [.ref 41, .int x2_1537769, .int x1_1389481] [.int 1] _ _
                      refine pm_R_br pm_M204 (pc' := 19) (st' := []) rfl rfl ?_
                      refine pm_R_lo pm_M204 (pc' := 20) rfl rfl rfl ?_
                      have B1537896 : sf_B (-1) 11 (m_1537769 26) := T_1537769.2.2.1 26
                      refine rf_R_get pm_M204 T_1537769 (pc' := 23) (v := .int (m_1537769 26)) rfl rfl rfl rfl ?_
                      refine pm_R_lo pm_M204 (pc' := 24) rfl rfl rfl ?_
                      refine pm_R_icmp pm_M204 (t := 35) (pc' := 27) rfl rfl rfl (fun c1537897 => ?_) (fun c1537897 => ?_)
                      · skip
                        refine pm_R_op pm_M204 (pc' := 36) (st' := [.int 1]) rfl rfl rfl ?_
                        refine pm_R_br pm_M204 (pc' := 40) rfl rfl ?_
                        refine pm_R_ret pm_M204 (r := some (.int 1)) rfl rfl ?_
                        show pm_R _ 224 73 [.ref 41, .int x1_1389481, .int x2_1537769, pm_no, pm_no] [.int 1, .long z1537854, .int z1537848, .ref 56] _ _
                        refine pm_R_br pm_M224 (pc' := 76) (st' := [.long z1537854, .int z1537848, .ref 56]) rfl rfl ?_
                        refine pm_R_op pm_M224 (pc' := 77) (st' := [.long 1, .long z1537854, .int z1537848, .ref 56]) rfl rfl rfl ?_
                        refine pm_R_br pm_M224 (pc' := 81) rfl rfl ?_
                        refine sf_R_lany pm_M224 (pc' := 82) (st := [.int z1537848, .ref 56]) rfl rfl rfl (fun z1537898 => ?_)
                        refine rf_R_lst pm_M224 T_1537769 (pc' := 83) rfl e1537852 (by decide) (by decide) (sf_in B1537850 (by decide) (by decide)) ⟨_, rfl⟩ rfl (fun h1537899 T1537900 F1537901 => ?_)
                        have F1537902 := F_1537769.trans F1537901
                        refine sf_R_iinc pm_M224 (pc' := 86) (ls' := fun z => [.ref 41, .int x1_1389481, .int z, pm_no, pm_no]) rfl B1537793 rfl (by decide) (by decide) (by decide) (fun _ => rfl) rfl (fun z1537903 e1537904 B1537905 => ?_)
                        show pm_R _ 224 86 [.ref 41, .int x1_1389481, .int z1537903, pm_no, pm_no] [] _ _
                        refine pm_R_br pm_M224 (pc' := 36) rfl rfl ?_
                        exact ih_1537769 _ (sf_up hN_1537769 e1537904 B1537793 (by decide) (by decide)) h1537899 m_1537769 w_1537769 z1537903 T1537900 F1537902 W_1537769 (sf_weak B1537905 (by decide) (by decide)) rfl
                      · have B1537906 : sf_B 0 11 (m_1537769 26) := sf_eqL (Classical.not_not.mp c1537897) B1536851
                        refine pm_R_lo pm_M204 (pc' := 28) rfl rfl rfl ?_
                        have B1537907 : sf_B 0 15 (m_1537769 27) := T_1537769.2.2.1 27
                        refine rf_R_get pm_M204 T_1537769 (pc' := 31) (v := .int (m_1537769 27)) rfl rfl rfl rfl ?_
                        refine pm_R_lo pm_M204 (pc' := 32) rfl rfl rfl ?_
                        refine pm_R_icmp pm_M204 (t := 39) (pc' := 35) rfl rfl rfl (fun c1537908 => ?_) (fun c1537908 => ?_)
                        · skip
                          refine pm_R_op pm_M204 (pc' := 40) (st' := [.int 0]) rfl rfl rfl ?_
                          refine pm_R_ret pm_M204 (r := some (.int 0)) rfl rfl ?_
                          show pm_R _ 224 73 [.ref 41, .int x1_1389481, .int x2_1537769, pm_no, pm_no] [.int 0, .long z1537854, .int z1537848, .ref 56] _ _
                          refine pm_R_br pm_M224 (pc' := 80) (st' := [.long z1537854, .int z1537848, .ref 56]) rfl rfl ?_
                          refine pm_R_op pm_M224 (pc' := 81) (st' := [.long 0, .long z1537854, .int z1537848, .ref 56]) rfl rfl rfl ?_
                          refine sf_R_lany pm_M224 (pc' := 82) (st := [.int z1537848, .ref 56]) rfl rfl rfl (fun z1537909 => ?_)
                          refine rf_R_lst pm_M224 T_1537769 (pc' := 83) rfl e1537852 (by decide) (by decide) (sf_in B1537850 (by decide) (by decide)) ⟨_, rfl⟩ rfl (fun h1537910 T1537911 F1537912 => ?_)
                          have F1537913 := F_1537769.trans F1537912
                          refine sf_R_iinc pm_M224 (pc' := 86) (ls' := fun z => [.ref 41, .int x1_1389481, .int z, pm_no, pm_no]) rfl B1537793 rfl (by decide) (by decide) (by decide) (fun _ => rfl) rfl (fun z1537914 e1537915 B1537916 => ?_)
                          show pm_R _ 224 86 [.ref 41, .int x1_1389481, .int z1537914, pm_no, pm_no] [] _ _
                          refine pm_R_br pm_M224 (pc' := 36) rfl rfl ?_
                          exact ih_1537769 _ (sf_up hN_1537769 e1537915 B1537793 (by decide) (by decide)) h1537910 m_1537769 w_1537769 z1537914 T1537911 F1537913 W_1537769 (sf_weak B1537916 (by decide) (by decide)) rfl
                        · refine pm_R_op pm_M204 (pc' := 36) (st' := [.int 1]) rfl rfl rfl ?_
                          refine pm_R_br pm_M204 (pc' := 40) rfl rfl ?_
                          refine pm_R_ret pm_M204 (r := some (.int 1)) rfl rfl ?_
                          show pm_R _ 224 73 [.ref 41, .int x1_1389481, .int x2_1537769, pm_no, pm_no] [.int 1, .long z1537854, .int z1537848, .ref 56] _ _
                          refine pm_R_br pm_M224 (pc' := 76) (st' := [.long z1537854, .int z1537848, .ref 56]) rfl rfl ?_
                          refine pm_R_op pm_M224 (pc' := 77) (st' := [.long 1, .long z1537854, .int z1537848, .ref 56]) rfl rfl rfl ?_
                          refine pm_R_br pm_M224 (pc' := 81) rfl rfl ?_
                          refine sf_R_lany pm_M224 (pc' := 82) (st := [.int z1537848, .ref 56]) rfl rfl rfl (fun z1537917 => ?_)
                          refine rf_R_lst pm_M224 T_1537769 (pc' := 83) rfl e1537852 (by decide) (by decide) (sf_in B1537850 (by decide) (by decide)) ⟨_, rfl⟩ rfl (fun h1537918 T1537919 F1537920 => ?_)
                          have F1537921 := F_1537769.trans F1537920
                          refine sf_R_iinc pm_M224 (pc' := 86) (ls' := fun z => [.ref 41, .int x1_1389481, .int z, pm_no, pm_no]) rfl B1537793 rfl (by decide) (by decide) (by decide) (fun _ => rfl) rfl (fun z1537922 e1537923 B1537924 => ?_)
                          show pm_R _ 224 86 [.ref 41, .int x1_1389481, .int z1537922, pm_no, pm_no] [] _ _
                          refine pm_R_br pm_M224 (pc' := 36) rfl rfl ?_
                          exact ih_1537769 _ (sf_up hN_1537769 e1537923 B1537793 (by decide) (by decide)) h1537918 m_1537769 w_1537769 z1537922 T1537919 F1537921 W_1537769 (sf_weak B1537924 (by decide) (by decide)) rfl
              exact L_1537769 _ h_1389481 m_1389481 w_1389481 0 T_1389481 F_1389481 (rf_W.refl _ _) (sf_weak sf_k0 (by decide) (by decide)) rfl
        exact L_1389481 _ h_917652 m_917652 w_917652 0 (pm_no) T_917652 F_917652 (rf_W.refl _ _) (sf_weak sf_k0 (by decide) (by decide)) rfl rfl
      · have B1537925 : sf_B 0 43199 x1_917652 := sf_ltL (Int32.not_le.mp c917658) Bx1_917652 sf_k43200
        refine pm_R_lo pm_M224 (pc' := 12) rfl rfl rfl ?_
        refine rf_R_get pm_M224 T_917652 (pc' := 15) (v := .ref 56) rfl rfl rfl rfl ?_
        refine pm_R_lo pm_M224 (pc' := 16) rfl rfl rfl ?_
        refine pm_R_op pm_M224 (pc' := 17) (st' := [.long 0, .int x1_917652, .ref 56]) rfl rfl rfl ?_
        refine rf_R_lst pm_M224 T_917652 (pc' := 18) rfl e917656 (by decide) (by decide) (sf_in B1537925 (by decide) (by decide)) ⟨_, rfl⟩ rfl (fun h1537926 T1537927 F1537928 => ?_)
        have F1537929 := F_917652.trans F1537928
        refine sf_R_iinc pm_M224 (pc' := 21) (ls' := fun z => [.ref 41, .int z, pm_no, pm_no, pm_no]) rfl B1537925 rfl (by decide) (by decide) (by decide) (fun _ => rfl) rfl (fun z1537930 e1537931 B1537932 => ?_)
        show pm_R _ 224 21 [.ref 41, .int z1537930, pm_no, pm_no, pm_no] [] _ _
        refine pm_R_br pm_M224 (pc' := 2) rfl rfl ?_
        exact ih_917652 _ (sf_up hN_917652 e1537931 B1537925 (by decide) (by decide)) h1537926 m_917652 w_917652 z1537930 T1537927 F1537929 W_917652 (sf_weak B1537932 (by decide) (by decide)) rfl
  exact L_917652 _ h m w 0 T (rf_F.refl h) (rf_W.refl _ _) (sf_weak sf_k0 (by decide) (by decide)) rfl
