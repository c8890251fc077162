theorem sf_aux77 (v0 v1 v2 : Int) (q0 : v0 ≤ v1) (q1 : v1 ≤ v2) : v1 ≤ v2 := by omega
theorem sf_aux78 (v0 v1 : Int) (q0 : v0 = v1) (q1 : v0 = 0) : v1 = 0 := by omega
theorem sf_aux79 (v0 v1 v2 v3 : Int) (q0 : v0 = v1) (q1 : v2 ≤ v1) (q2 : v0 ≤ v3) : v1 ≤ v3 := by omega
theorem sf_aux80 (v0 v1 v2 : Int) (q0 : v0 ≤ v1) (q1 : v2 ≤ v1) : v0 ≤ v1 := by omega
theorem sf_aux81 (v0 v1 : Int) (q0 : v0 ≤ v1) : v1 ≤ v1 := by omega
theorem sf_aux82 (v0 v1 : Int) (q0 : v0 = v1) (q1 : v1 = 0) : v0 = 0 := by omega
theorem sf_aux83 (v0 v1 v2 v3 : Int) (q0 : v0 = v1) (q1 : v2 ≤ v1) (q2 : v3 ≤ v1) : v2 ≤ v0 := by omega
theorem sf_aux84 (v0 v1 v2 : Int) (q0 : v0 = v1) (q1 : v2 ≤ v1) : v1 ≤ v0 := by omega
set_option maxRecDepth 100000 in
set_option maxHeartbeats 4000000 in
/-- SilentTableModel.rowText -/
theorem rf_c181 {d : Nat} {m : Nat → Int32} {w : Int64} {h : pm_H} {Q : Option Value → pm_H → Prop}  (T : rf_T m w h) (X : rf_I 1 (m 17) h) (K0 : ∀ (m_q : Nat → Int32) (w_q : Int64) (h_q : pm_H), rf_T m_q w_q h_q → rf_G [41, 51, 52] h h_q → rf_W [10, 12, 13, 14, 16, 17, 18, 22] m m_q → (m 10).toInt ≤ (m_q 10).toInt → Q (some (.int 0)) h_q) (K1 : ∀ (m_q : Nat → Int32) (w_q : Int64) (h_q : pm_H), rf_T m_q w_q h_q → rf_G [41, 51, 52] h h_q → rf_W [10, 12, 13, 14, 16, 17, 18, 22] m m_q → rf_I 1 (m_q 17) h_q → (m 10).toInt ≤ (m_q 10).toInt → Q (some (.int 1)) h_q) : pm_R (d + 3) 181 0 [.ref 41] [] h Q := by
  have B1 : sf_B 0 600 (m 10) := T.2.2.1 10
  obtain ⟨f2, e3, ct4, bd5⟩ := X
  have B6 : sf_B 0 4 (m 17) := T.2.2.1 17
  have L_394 : ∀ (N : Nat) (h_394 : pm_H) (m_394 : Nat → Int32) (w_394 : Int64), rf_T m_394 w_394 h_394 → rf_G [41, 51, 52] h h_394 → rf_W [10, 12, 13, 14, 16, 17, 18, 22] m m_394 → rf_I 1 (m_394 17) h_394 ∧ (m 10).toInt ≤ (m_394 10).toInt → ((600 - (m_394 10).toInt).toNat + (if (m_394 13).toInt = 0 then 0 else 1)) = N → pm_R (d + 3) 181 0 [.ref 41] [] h_394 Q := by
    intro N
    induction N using Nat.strongRecOn with
    | ind N ih_394 =>
      intro h_394 m_394 w_394 T_394 F_394 W_394 X_394 hN_394
      have W397 : rf_W [10, 12, 13, 14, 16, 17, 18, 22] m m_394 := (rf_W.refl [10, 12, 13, 14, 16, 17, 18, 22] m).trans W_394 (by decide)
      obtain ⟨f398, e399, ct400, bd401⟩ := X_394.1
      have B402 : sf_B 0 4 (m_394 17) := T_394.2.2.1 17
      have B403 : sf_B 0 600 (m_394 10) := T_394.2.2.1 10
      refine pm_R_lo pm_M181 (pc_q := 1) rfl rfl rfl ?_
      have B404 : sf_B 0 4 (m_394 13) := T_394.2.2.1 13
      refine rf_R_get pm_M181 T_394 (pc_q := 4) (v := .int (m_394 13)) rfl rfl rfl rfl ?_
      refine pm_R_ifc pm_M181 (t := 61) (pc_q := 7) rfl rfl rfl (fun c405 => ?_) (fun c405 => ?_)
      · have B406 : sf_B 0 0 (m_394 13) := sf_eqL c405 sf_k0
        refine pm_R_op pm_M181 (pc_q := 62) (st_q := [.int 1]) rfl rfl rfl ?_
        exact pm_R_ret pm_M181 (r := some (.int 1)) rfl rfl (K1 m_394 w_394 h_394 T_394 F_394 W397 (⟨f398, e399, ct400, fun z => (bd401 z)⟩) (sf_aux51 _ _ X_394.2))
      · have B407 : sf_B 1 4 (m_394 13) := sf_neL0 c405 sf_k0 B404
        refine pm_R_lo pm_M181 (pc_q := 8) rfl rfl rfl ?_
        refine rf_R_get pm_M181 T_394 (pc_q := 11) (v := .int (m_394 13)) rfl rfl rfl rfl ?_
        refine pm_R_op pm_M181 (pc_q := 12) (st_q := [.int 3, .int (m_394 13)]) rfl rfl rfl ?_
        refine pm_R_icmp pm_M181 (t := 35) (pc_q := 15) rfl rfl rfl (fun c408 => ?_) (fun c408 => ?_)
        · skip
          refine pm_R_lo pm_M181 (pc_q := 36) rfl rfl rfl ?_
          refine pm_R_op pm_M181 (pc_q := 37) (st_q := [.int 0, .ref 41]) rfl rfl rfl ?_
          refine pm_R_op pm_M181 (pc_q := 39) (st_q := [.int 9, .int 0, .ref 41]) rfl rfl rfl ?_
          refine pm_R_op pm_M181 (pc_q := 40) (st_q := [.int (-1), .int 9, .int 0, .ref 41]) rfl rfl rfl ?_
          refine pm_R_cv pm_M181 (pc_q := 43) (a := 41) (ra := [.int (-1), .int 9, .int 0]) (rest := []) (ls_q := [.ref 41, .int 0, .int 9, .int (-1)]) rfl rfl (Or.inl rfl) pm_M183 T_394.2.1 rfl (by decide) (Nat.lt_of_lt_of_le (by decide) T_394.1) rfl rfl (Nat.le_of_ble_eq_true rfl) rfl rfl ?_
          obtain ⟨f409, e410, b411⟩ := T_394.2.2.2.1 52 (by decide) (by decide)
          have B412 : sf_B 0 1 (m_394 22) := T_394.2.2.1 22
          refine rf_c183_0_9 (d := d + 0) T_394  (fun m415 w416 h417 T418 F419 W420 X421 => ?_) (fun m424 w425 h426 T427 F428 W429 X430 X431 X432 X433 X434 => ?_) (fun m437 w438 h439 T440 F441 W442 X443 X444 X445 B446 B447 => ?_)
          · have F448 := F_394.trans F419 (by decide)
            have W449 : rf_W [10, 12, 13, 14, 16, 17, 18, 22] m m415 := W397.trans W420 (by decide)
            have W450 : rf_W [10, 12, 13, 14, 16, 17, 18, 22] m m415 := W_394.trans W420 (by decide)
            have B451 : sf_B 0 600 (m415 10) := T418.2.2.1 10
            have B452 : sf_B 0 4 (m415 13) := T418.2.2.1 13
            have B453 : sf_B 0 4 (m415 17) := T418.2.2.1 17
            have B454 : sf_B 0 1 (m415 22) := T418.2.2.1 22
            show pm_R _ 181 43 [.ref 41] [.int 0] _ _
            have R455 : (m 10).toInt ≤ (m415 10).toInt := (sf_aux70 _ _ _ X_394.2 X421)
            have R456 : (m_394 10).toInt ≤ (m415 10).toInt := (sf_aux77 _ _ _ X_394.2 X421)
            refine pm_R_br pm_M181 (pc_q := 46) (st_q := []) rfl rfl ?_
            refine pm_R_op pm_M181 (pc_q := 47) (st_q := [.int 0]) rfl rfl rfl ?_
            exact pm_R_ret pm_M181 (r := some (.int 0)) rfl rfl (K0 m415 w416 h417 T418 F448 W449 (sf_aux80 _ _ _ R455 R456))
          · have F457 := F_394.trans F428 (by decide)
            have W458 : rf_W [10, 12, 13, 14, 16, 17, 18, 22] m m424 := W397.trans W429 (by decide)
            have W459 : rf_W [10, 12, 13, 14, 16, 17, 18, 22] m m424 := W_394.trans W429 (by decide)
            have B460 : sf_B 0 600 (m424 10) := T427.2.2.1 10
            have B461 : sf_B 0 4 (m424 13) := T427.2.2.1 13
            have B462 : sf_B 0 4 (m424 17) := T427.2.2.1 17
            have B463 : sf_B 0 1 (m424 22) := T427.2.2.1 22
            show pm_R _ 181 43 [.ref 41] [.int 1] _ _
            have R464 : (m 10).toInt ≤ (m424 10).toInt := (sf_aux70 _ _ _ X_394.2 X434)
            have R465 : (m_394 10).toInt ≤ (m424 10).toInt := (sf_aux77 _ _ _ X_394.2 X434)
            obtain ⟨v466, B467, e468⟩ := X430 _ e410
            refine pm_R_br pm_M181 (pc_q := 48) (st_q := []) rfl rfl ?_
            refine pm_R_lo pm_M181 (pc_q := 49) rfl rfl rfl ?_
            refine pm_R_op pm_M181 (pc_q := 50) (st_q := [.int 0, .ref 41]) rfl rfl rfl ?_
            refine pm_R_op pm_M181 (pc_q := 51) (st_q := [.int 1, .int 0, .ref 41]) rfl rfl rfl ?_
            refine pm_R_op pm_M181 (pc_q := 52) (st_q := [.int 1, .int 1, .int 0, .ref 41]) rfl rfl rfl ?_
            refine pm_R_op pm_M181 (pc_q := 54) (st_q := [.int 12, .int 1, .int 1, .int 0, .ref 41]) rfl rfl rfl ?_
            refine pm_R_op pm_M181 (pc_q := 55) (st_q := [.int 0, .int 12, .int 1, .int 1, .int 0, .ref 41]) rfl rfl rfl ?_
            refine pm_R_cv pm_M181 (pc_q := 58) (a := 41) (ra := [.int 0, .int 12, .int 1, .int 1, .int 0]) (rest := []) (ls_q := [.ref 41, .int 0, .int 1, .int 1, .int 12, .int 0, pm_no, pm_no]) rfl rfl (Or.inl rfl) pm_M185 T427.2.1 rfl (by decide) (Nat.lt_of_lt_of_le (by decide) T427.1) rfl rfl (Nat.le_of_ble_eq_true rfl) rfl rfl ?_
            have e469 := (F428.cell (by decide) e399)
            refine rf_c185_o (d := d + 2) T427 (⟨f398, e469, ct400, fun z => (bd401 (sf_aux78 _ _ X431 z))⟩) (fun _ g eg => by rw [e468] at eg; cases eg; exact sf_eqL sf_upd_eq B467) (fun m472 w473 h474 T475 F476 W477 X478 => ?_)
            have F479 := F457.trans F476 (by decide)
            have B480 : sf_B 0 600 (m472 10) := by rw [W477 10 (by decide)]; exact B460
            have ek481 : (m472 10).toInt = ((m424 10)).toInt := by rw [W477 10 (by decide)]
            have B482 : sf_B 0 4 (m472 13) := by rw [W477 13 (by decide)]; exact B461
            have ek483 : (m472 13).toInt = ((m424 13)).toInt := by rw [W477 13 (by decide)]
            have B484 : sf_B 0 4 (m472 17) := by rw [W477 17 (by decide)]; exact (sf_eqT X431 B402)
            have ek485 : (m472 17).toInt = ((m_394 17)).toInt := by rw [W477 17 (by decide)]; exact X431
            have B486 : sf_B 0 1 (m472 22) := by rw [W477 22 (by decide)]; exact (sf_eqT X432 B412)
            have ek487 : (m472 22).toInt = ((m_394 22)).toInt := by rw [W477 22 (by decide)]; exact X432
            have W488 : rf_W [10, 12, 13, 14, 16, 17, 18, 22] m m472 := W458.trans W477 (by decide)
            have W489 : rf_W [10, 12, 13, 14, 16, 17, 18, 22] m m472 := W459.trans W477 (by decide)
            show pm_R _ 181 58 [.ref 41] [] _ _
            obtain ⟨f490, e491, ct492, bd493⟩ := X478
            refine pm_R_br pm_M181 (pc_q := 0) rfl rfl ?_
            exact ih_394 _ (rf_mu hN_394 (sf_ne0 c405) (sf_aux81 _ _ X_394.2) (sf_aux39 _ _ _ ek481 X434) (X433.imp (fun q => (sf_aux42 _ _ _ ek481 q)) (fun q => (sf_aux82 _ _ ek483 q))) B480.2) h474 m472 w473  T475 F479 W489  ⟨⟨f490, e491, ct492, fun z => (bd493 z)⟩, (sf_aux83 _ _ _ _ ek481 R464 R465)⟩ rfl
          · have F494 := F_394.trans F441 (by decide)
            have W495 : rf_W [10, 12, 13, 14, 16, 17, 18, 22] m m437 := W397.trans W442 (by decide)
            have W496 : rf_W [10, 12, 13, 14, 16, 17, 18, 22] m m437 := W_394.trans W442 (by decide)
            have B497 : sf_B 0 600 (m437 10) := T440.2.2.1 10
            have B498 : sf_B 0 4 (m437 13) := T440.2.2.1 13
            have B499 : sf_B 0 4 (m437 17) := T440.2.2.1 17
            have B500 : sf_B 0 1 (m437 22) := T440.2.2.1 22
            show pm_R _ 181 43 [.ref 41] [.int 1] _ _
            have R501 : (m 10).toInt ≤ (m437 10).toInt := (sf_aux70 _ _ _ X_394.2 X445)
            have R502 : (m_394 10).toInt ≤ (m437 10).toInt := (sf_aux77 _ _ _ X_394.2 X445)
            obtain ⟨v503, B504, e505⟩ := X443 _ e410
            refine pm_R_br pm_M181 (pc_q := 48) (st_q := []) rfl rfl ?_
            refine pm_R_lo pm_M181 (pc_q := 49) rfl rfl rfl ?_
            refine pm_R_op pm_M181 (pc_q := 50) (st_q := [.int 0, .ref 41]) rfl rfl rfl ?_
            refine pm_R_op pm_M181 (pc_q := 51) (st_q := [.int 1, .int 0, .ref 41]) rfl rfl rfl ?_
            refine pm_R_op pm_M181 (pc_q := 52) (st_q := [.int 1, .int 1, .int 0, .ref 41]) rfl rfl rfl ?_
            refine pm_R_op pm_M181 (pc_q := 54) (st_q := [.int 12, .int 1, .int 1, .int 0, .ref 41]) rfl rfl rfl ?_
            refine pm_R_op pm_M181 (pc_q := 55) (st_q := [.int 0, .int 12, .int 1, .int 1, .int 0, .ref 41]) rfl rfl rfl ?_
            refine pm_R_cv pm_M181 (pc_q := 58) (a := 41) (ra := [.int 0, .int 12, .int 1, .int 1, .int 0]) (rest := []) (ls_q := [.ref 41, .int 0, .int 1, .int 1, .int 12, .int 0, pm_no, pm_no]) rfl rfl (Or.inl rfl) pm_M185 T440.2.1 rfl (by decide) (Nat.lt_of_lt_of_le (by decide) T440.1) rfl rfl (Nat.le_of_ble_eq_true rfl) rfl rfl ?_
            have e506 := (F441.cell (by decide) e399)
            refine rf_c185_o (d := d + 2) T440 (⟨f398, e506, ct400, fun z => (sf_pos B446 (by decide) z)⟩) (fun z => sf_pos B446 (by decide) z) (fun m509 w510 h511 T512 F513 W514 X515 => ?_)
            have F516 := F494.trans F513 (by decide)
            have B517 : sf_B 0 600 (m509 10) := by rw [W514 10 (by decide)]; exact B497
            have ek518 : (m509 10).toInt = ((m437 10)).toInt := by rw [W514 10 (by decide)]
            have B519 : sf_B 0 4 (m509 13) := by rw [W514 13 (by decide)]; exact B498
            have ek520 : (m509 13).toInt = ((m437 13)).toInt := by rw [W514 13 (by decide)]
            have B521 : sf_B 1 4 (m509 17) := by rw [W514 17 (by decide)]; exact B446
            have ek522 : (m509 17).toInt = ((m437 17)).toInt := by rw [W514 17 (by decide)]
            have B523 : sf_B 0 0 (m509 22) := by rw [W514 22 (by decide)]; exact B447
            have ek524 : (m509 22).toInt = ((m437 22)).toInt := by rw [W514 22 (by decide)]
            have W525 : rf_W [10, 12, 13, 14, 16, 17, 18, 22] m m509 := W495.trans W514 (by decide)
            have W526 : rf_W [10, 12, 13, 14, 16, 17, 18, 22] m m509 := W496.trans W514 (by decide)
            show pm_R _ 181 58 [.ref 41] [] _ _
            obtain ⟨f527, e528, ct529, bd530⟩ := X515
            refine pm_R_br pm_M181 (pc_q := 0) rfl rfl ?_
            exact ih_394 _ (rf_mu hN_394 (sf_ne0 c405) (sf_aux81 _ _ X_394.2) (sf_aux39 _ _ _ ek518 X445) (X444.imp (fun q => (sf_aux42 _ _ _ ek518 q)) (fun q => (sf_aux82 _ _ ek520 q))) B517.2) h511 m509 w510  T512 F516 W526  ⟨⟨f527, e528, ct529, fun z => (sf_pos B521 (by decide) z)⟩, (sf_aux83 _ _ _ _ ek518 R501 R502)⟩ rfl
        · have B531 : sf_B 3 3 (m_394 13) := sf_eqL (Classical.not_not.mp c408) sf_k3
          refine pm_R_lo pm_M181 (pc_q := 16) rfl rfl rfl ?_
          refine rf_R_get pm_M181 T_394 (pc_q := 19) (v := .ref 51) rfl rfl rfl rfl ?_
          refine pm_R_op pm_M181 (pc_q := 20) (st_q := [.int 0, .ref 51]) rfl rfl rfl ?_
          refine pm_R_iald pm_M181 (pc_q := 21) (v := (f398 0)) rfl e399 (Nat.lt_of_lt_of_le (by decide) T_394.1) rfl rfl rfl ?_
          refine pm_R_op pm_M181 (pc_q := 23) (st_q := [.int 12, .int (f398 0)]) rfl rfl rfl ?_
          refine pm_R_icmp pm_M181 (t := 35) (pc_q := 26) rfl rfl rfl (fun c534 => ?_) (fun c534 => ?_)
          · have B535 : sf_B 0 11 (f398 0) := sf_neH0 c534 sf_k12 ct400
            refine pm_R_lo pm_M181 (pc_q := 36) rfl rfl rfl ?_
            refine pm_R_op pm_M181 (pc_q := 37) (st_q := [.int 0, .ref 41]) rfl rfl rfl ?_
            refine pm_R_op pm_M181 (pc_q := 39) (st_q := [.int 9, .int 0, .ref 41]) rfl rfl rfl ?_
            refine pm_R_op pm_M181 (pc_q := 40) (st_q := [.int (-1), .int 9, .int 0, .ref 41]) rfl rfl rfl ?_
            refine pm_R_cv pm_M181 (pc_q := 43) (a := 41) (ra := [.int (-1), .int 9, .int 0]) (rest := []) (ls_q := [.ref 41, .int 0, .int 9, .int (-1)]) rfl rfl (Or.inl rfl) pm_M183 T_394.2.1 rfl (by decide) (Nat.lt_of_lt_of_le (by decide) T_394.1) rfl rfl (Nat.le_of_ble_eq_true rfl) rfl rfl ?_
            obtain ⟨f536, e537, b538⟩ := T_394.2.2.2.1 52 (by decide) (by decide)
            have B539 : sf_B 0 1 (m_394 22) := T_394.2.2.1 22
            refine rf_c183_0_9 (d := d + 0) T_394  (fun m542 w543 h544 T545 F546 W547 X548 => ?_) (fun m551 w552 h553 T554 F555 W556 X557 X558 X559 X560 X561 => ?_) (fun m564 w565 h566 T567 F568 W569 X570 X571 X572 B573 B574 => ?_)
            · have F575 := F_394.trans F546 (by decide)
              have W576 : rf_W [10, 12, 13, 14, 16, 17, 18, 22] m m542 := W397.trans W547 (by decide)
              have W577 : rf_W [10, 12, 13, 14, 16, 17, 18, 22] m m542 := W_394.trans W547 (by decide)
              have B578 : sf_B 0 600 (m542 10) := T545.2.2.1 10
              have B579 : sf_B 0 4 (m542 13) := T545.2.2.1 13
              have B580 : sf_B 0 4 (m542 17) := T545.2.2.1 17
              have B581 : sf_B 0 1 (m542 22) := T545.2.2.1 22
              show pm_R _ 181 43 [.ref 41] [.int 0] _ _
              have R582 : (m 10).toInt ≤ (m542 10).toInt := (sf_aux70 _ _ _ X_394.2 X548)
              have R583 : (m_394 10).toInt ≤ (m542 10).toInt := (sf_aux77 _ _ _ X_394.2 X548)
              refine pm_R_br pm_M181 (pc_q := 46) (st_q := []) rfl rfl ?_
              refine pm_R_op pm_M181 (pc_q := 47) (st_q := [.int 0]) rfl rfl rfl ?_
              exact pm_R_ret pm_M181 (r := some (.int 0)) rfl rfl (K0 m542 w543 h544 T545 F575 W576 (sf_aux80 _ _ _ R582 R583))
            · have F584 := F_394.trans F555 (by decide)
              have W585 : rf_W [10, 12, 13, 14, 16, 17, 18, 22] m m551 := W397.trans W556 (by decide)
              have W586 : rf_W [10, 12, 13, 14, 16, 17, 18, 22] m m551 := W_394.trans W556 (by decide)
              have B587 : sf_B 0 600 (m551 10) := T554.2.2.1 10
              have B588 : sf_B 0 4 (m551 13) := T554.2.2.1 13
              have B589 : sf_B 0 4 (m551 17) := T554.2.2.1 17
              have B590 : sf_B 0 1 (m551 22) := T554.2.2.1 22
              show pm_R _ 181 43 [.ref 41] [.int 1] _ _
              have R591 : (m 10).toInt ≤ (m551 10).toInt := (sf_aux70 _ _ _ X_394.2 X561)
              have R592 : (m_394 10).toInt ≤ (m551 10).toInt := (sf_aux77 _ _ _ X_394.2 X561)
              obtain ⟨v593, B594, e595⟩ := X557 _ e537
              refine pm_R_br pm_M181 (pc_q := 48) (st_q := []) rfl rfl ?_
              refine pm_R_lo pm_M181 (pc_q := 49) rfl rfl rfl ?_
              refine pm_R_op pm_M181 (pc_q := 50) (st_q := [.int 0, .ref 41]) rfl rfl rfl ?_
              refine pm_R_op pm_M181 (pc_q := 51) (st_q := [.int 1, .int 0, .ref 41]) rfl rfl rfl ?_
              refine pm_R_op pm_M181 (pc_q := 52) (st_q := [.int 1, .int 1, .int 0, .ref 41]) rfl rfl rfl ?_
              refine pm_R_op pm_M181 (pc_q := 54) (st_q := [.int 12, .int 1, .int 1, .int 0, .ref 41]) rfl rfl rfl ?_
              refine pm_R_op pm_M181 (pc_q := 55) (st_q := [.int 0, .int 12, .int 1, .int 1, .int 0, .ref 41]) rfl rfl rfl ?_
              refine pm_R_cv pm_M181 (pc_q := 58) (a := 41) (ra := [.int 0, .int 12, .int 1, .int 1, .int 0]) (rest := []) (ls_q := [.ref 41, .int 0, .int 1, .int 1, .int 12, .int 0, pm_no, pm_no]) rfl rfl (Or.inl rfl) pm_M185 T554.2.1 rfl (by decide) (Nat.lt_of_lt_of_le (by decide) T554.1) rfl rfl (Nat.le_of_ble_eq_true rfl) rfl rfl ?_
              have e596 := (F555.cell (by decide) e399)
              refine rf_c185_o (d := d + 2) T554 (⟨f398, e596, ct400, fun z => (bd401 (sf_aux78 _ _ X558 z))⟩) (fun _ g eg => by rw [e595] at eg; cases eg; exact sf_eqL sf_upd_eq B594) (fun m599 w600 h601 T602 F603 W604 X605 => ?_)
              have F606 := F584.trans F603 (by decide)
              have B607 : sf_B 0 600 (m599 10) := by rw [W604 10 (by decide)]; exact B587
              have ek608 : (m599 10).toInt = ((m551 10)).toInt := by rw [W604 10 (by decide)]
              have B609 : sf_B 0 4 (m599 13) := by rw [W604 13 (by decide)]; exact B588
              have ek610 : (m599 13).toInt = ((m551 13)).toInt := by rw [W604 13 (by decide)]
              have B611 : sf_B 0 4 (m599 17) := by rw [W604 17 (by decide)]; exact (sf_eqT X558 B402)
              have ek612 : (m599 17).toInt = ((m_394 17)).toInt := by rw [W604 17 (by decide)]; exact X558
              have B613 : sf_B 0 1 (m599 22) := by rw [W604 22 (by decide)]; exact (sf_eqT X559 B539)
              have ek614 : (m599 22).toInt = ((m_394 22)).toInt := by rw [W604 22 (by decide)]; exact X559
              have W615 : rf_W [10, 12, 13, 14, 16, 17, 18, 22] m m599 := W585.trans W604 (by decide)
              have W616 : rf_W [10, 12, 13, 14, 16, 17, 18, 22] m m599 := W586.trans W604 (by decide)
              show pm_R _ 181 58 [.ref 41] [] _ _
              obtain ⟨f617, e618, ct619, bd620⟩ := X605
              refine pm_R_br pm_M181 (pc_q := 0) rfl rfl ?_
              exact ih_394 _ (rf_mu hN_394 (sf_ne0 c405) (sf_aux81 _ _ X_394.2) (sf_aux39 _ _ _ ek608 X561) (X560.imp (fun q => (sf_aux42 _ _ _ ek608 q)) (fun q => (sf_aux82 _ _ ek610 q))) B607.2) h601 m599 w600  T602 F606 W616  ⟨⟨f617, e618, ct619, fun z => (bd620 z)⟩, (sf_aux83 _ _ _ _ ek608 R591 R592)⟩ rfl
            · have F621 := F_394.trans F568 (by decide)
              have W622 : rf_W [10, 12, 13, 14, 16, 17, 18, 22] m m564 := W397.trans W569 (by decide)
              have W623 : rf_W [10, 12, 13, 14, 16, 17, 18, 22] m m564 := W_394.trans W569 (by decide)
              have B624 : sf_B 0 600 (m564 10) := T567.2.2.1 10
              have B625 : sf_B 0 4 (m564 13) := T567.2.2.1 13
              have B626 : sf_B 0 4 (m564 17) := T567.2.2.1 17
              have B627 : sf_B 0 1 (m564 22) := T567.2.2.1 22
              show pm_R _ 181 43 [.ref 41] [.int 1] _ _
              have R628 : (m 10).toInt ≤ (m564 10).toInt := (sf_aux70 _ _ _ X_394.2 X572)
              have R629 : (m_394 10).toInt ≤ (m564 10).toInt := (sf_aux77 _ _ _ X_394.2 X572)
              obtain ⟨v630, B631, e632⟩ := X570 _ e537
              refine pm_R_br pm_M181 (pc_q := 48) (st_q := []) rfl rfl ?_
              refine pm_R_lo pm_M181 (pc_q := 49) rfl rfl rfl ?_
              refine pm_R_op pm_M181 (pc_q := 50) (st_q := [.int 0, .ref 41]) rfl rfl rfl ?_
              refine pm_R_op pm_M181 (pc_q := 51) (st_q := [.int 1, .int 0, .ref 41]) rfl rfl rfl ?_
              refine pm_R_op pm_M181 (pc_q := 52) (st_q := [.int 1, .int 1, .int 0, .ref 41]) rfl rfl rfl ?_
              refine pm_R_op pm_M181 (pc_q := 54) (st_q := [.int 12, .int 1, .int 1, .int 0, .ref 41]) rfl rfl rfl ?_
              refine pm_R_op pm_M181 (pc_q := 55) (st_q := [.int 0, .int 12, .int 1, .int 1, .int 0, .ref 41]) rfl rfl rfl ?_
              refine pm_R_cv pm_M181 (pc_q := 58) (a := 41) (ra := [.int 0, .int 12, .int 1, .int 1, .int 0]) (rest := []) (ls_q := [.ref 41, .int 0, .int 1, .int 1, .int 12, .int 0, pm_no, pm_no]) rfl rfl (Or.inl rfl) pm_M185 T567.2.1 rfl (by decide) (Nat.lt_of_lt_of_le (by decide) T567.1) rfl rfl (Nat.le_of_ble_eq_true rfl) rfl rfl ?_
              have e633 := (F568.cell (by decide) e399)
              refine rf_c185_o (d := d + 2) T567 (⟨f398, e633, ct400, fun z => (sf_pos B573 (by decide) z)⟩) (fun z => sf_pos B573 (by decide) z) (fun m636 w637 h638 T639 F640 W641 X642 => ?_)
              have F643 := F621.trans F640 (by decide)
              have B644 : sf_B 0 600 (m636 10) := by rw [W641 10 (by decide)]; exact B624
              have ek645 : (m636 10).toInt = ((m564 10)).toInt := by rw [W641 10 (by decide)]
              have B646 : sf_B 0 4 (m636 13) := by rw [W641 13 (by decide)]; exact B625
              have ek647 : (m636 13).toInt = ((m564 13)).toInt := by rw [W641 13 (by decide)]
              have B648 : sf_B 1 4 (m636 17) := by rw [W641 17 (by decide)]; exact B573
              have ek649 : (m636 17).toInt = ((m564 17)).toInt := by rw [W641 17 (by decide)]
              have B650 : sf_B 0 0 (m636 22) := by rw [W641 22 (by decide)]; exact B574
              have ek651 : (m636 22).toInt = ((m564 22)).toInt := by rw [W641 22 (by decide)]
              have W652 : rf_W [10, 12, 13, 14, 16, 17, 18, 22] m m636 := W622.trans W641 (by decide)
              have W653 : rf_W [10, 12, 13, 14, 16, 17, 18, 22] m m636 := W623.trans W641 (by decide)
              show pm_R _ 181 58 [.ref 41] [] _ _
              obtain ⟨f654, e655, ct656, bd657⟩ := X642
              refine pm_R_br pm_M181 (pc_q := 0) rfl rfl ?_
              exact ih_394 _ (rf_mu hN_394 (sf_ne0 c405) (sf_aux81 _ _ X_394.2) (sf_aux39 _ _ _ ek645 X572) (X571.imp (fun q => (sf_aux42 _ _ _ ek645 q)) (fun q => (sf_aux82 _ _ ek647 q))) B644.2) h638 m636 w637  T639 F643 W653  ⟨⟨f654, e655, ct656, fun z => (sf_pos B648 (by decide) z)⟩, (sf_aux83 _ _ _ _ ek645 R628 R629)⟩ rfl
          · have B658 : sf_B 12 12 (f398 0) := sf_eqL (Classical.not_not.mp c534) sf_k12
            refine pm_R_lo pm_M181 (pc_q := 27) rfl rfl rfl ?_
            refine pm_R_op pm_M181 (pc_q := 28) (st_q := [.int 3, .ref 41]) rfl rfl rfl ?_
            refine pm_R_lo pm_M181 (pc_q := 29) rfl rfl rfl ?_
            have B659 : sf_B 0 600 (m_394 12) := T_394.2.2.1 12
            refine rf_R_get pm_M181 T_394 (pc_q := 32) (v := .int (m_394 12)) rfl rfl rfl rfl ?_
            refine pm_R_cv pm_M181 (pc_q := 35) (a := 41) (ra := [.int (m_394 12), .int 3]) (rest := []) (ls_q := [.ref 41, .int 3, .int (m_394 12)]) rfl rfl (Or.inl rfl) pm_M182 T_394.2.1 rfl (by decide) (Nat.lt_of_lt_of_le (by decide) T_394.1) rfl rfl (Nat.le_of_ble_eq_true rfl) rfl rfl ?_
            refine rf_c182 (d := d + 2) T_394 (sf_weak sf_k3 (by decide) (by decide)) B659 (fun m662 w663 h664 T665 F666 W667 B668 => ?_)
            have F669 := F_394.trans F666 (by decide)
            have B670 : sf_B 0 600 (m662 10) := by rw [W667 10 (by decide)]; exact B403
            have ek671 : (m662 10).toInt = ((m_394 10)).toInt := by rw [W667 10 (by decide)]
            have B672 : sf_B 3 3 (m662 13) := by rw [W667 13 (by decide)]; exact B531
            have ek673 : (m662 13).toInt = ((m_394 13)).toInt := by rw [W667 13 (by decide)]
            have W674 : rf_W [10, 12, 13, 14, 16, 17, 18, 22] m m662 := W397.trans W667 (by decide)
            have W675 : rf_W [10, 12, 13, 14, 16, 17, 18, 22] m m662 := W_394.trans W667 (by decide)
            have B676 : sf_B 0 4 (m662 17) := T665.2.2.1 17
            have B677 : sf_B 0 1 (m662 22) := T665.2.2.1 22
            show pm_R _ 181 35 [.ref 41] [] _ _
            refine pm_R_lo pm_M181 (pc_q := 36) rfl rfl rfl ?_
            refine pm_R_op pm_M181 (pc_q := 37) (st_q := [.int 0, .ref 41]) rfl rfl rfl ?_
            refine pm_R_op pm_M181 (pc_q := 39) (st_q := [.int 9, .int 0, .ref 41]) rfl rfl rfl ?_
            refine pm_R_op pm_M181 (pc_q := 40) (st_q := [.int (-1), .int 9, .int 0, .ref 41]) rfl rfl rfl ?_
            refine pm_R_cv pm_M181 (pc_q := 43) (a := 41) (ra := [.int (-1), .int 9, .int 0]) (rest := []) (ls_q := [.ref 41, .int 0, .int 9, .int (-1)]) rfl rfl (Or.inl rfl) pm_M183 T665.2.1 rfl (by decide) (Nat.lt_of_lt_of_le (by decide) T665.1) rfl rfl (Nat.le_of_ble_eq_true rfl) rfl rfl ?_
            obtain ⟨f678, e679, b680⟩ := T665.2.2.2.1 52 (by decide) (by decide)
            refine rf_c183_0_9 (d := d + 0) T665  (fun m683 w684 h685 T686 F687 W688 X689 => ?_) (fun m692 w693 h694 T695 F696 W697 X698 X699 X700 X701 X702 => ?_) (fun m705 w706 h707 T708 F709 W710 X711 X712 X713 B714 B715 => ?_)
            · have F716 := F669.trans F687 (by decide)
              have W717 : rf_W [10, 12, 13, 14, 16, 17, 18, 22] m m683 := W674.trans W688 (by decide)
              have W718 : rf_W [10, 12, 13, 14, 16, 17, 18, 22] m m683 := W675.trans W688 (by decide)
              have B719 : sf_B 0 600 (m683 10) := T686.2.2.1 10
              have B720 : sf_B 0 4 (m683 13) := T686.2.2.1 13
              have B721 : sf_B 0 4 (m683 17) := T686.2.2.1 17
              have B722 : sf_B 0 1 (m683 22) := T686.2.2.1 22
              show pm_R _ 181 43 [.ref 41] [.int 0] _ _
              have R723 : (m 10).toInt ≤ (m683 10).toInt := (sf_aux76 _ _ _ _ ek671 X_394.2 X689)
              have R724 : (m_394 10).toInt ≤ (m683 10).toInt := (sf_aux79 _ _ _ _ ek671 X_394.2 X689)
              refine pm_R_br pm_M181 (pc_q := 46) (st_q := []) rfl rfl ?_
              refine pm_R_op pm_M181 (pc_q := 47) (st_q := [.int 0]) rfl rfl rfl ?_
              exact pm_R_ret pm_M181 (r := some (.int 0)) rfl rfl (K0 m683 w684 h685 T686 F716 W717 (sf_aux80 _ _ _ R723 R724))
            · have F725 := F669.trans F696 (by decide)
              have W726 : rf_W [10, 12, 13, 14, 16, 17, 18, 22] m m692 := W674.trans W697 (by decide)
              have W727 : rf_W [10, 12, 13, 14, 16, 17, 18, 22] m m692 := W675.trans W697 (by decide)
              have B728 : sf_B 0 600 (m692 10) := T695.2.2.1 10
              have B729 : sf_B 0 4 (m692 13) := T695.2.2.1 13
              have B730 : sf_B 0 4 (m692 17) := T695.2.2.1 17
              have B731 : sf_B 0 1 (m692 22) := T695.2.2.1 22
              show pm_R _ 181 43 [.ref 41] [.int 1] _ _
              have R732 : (m 10).toInt ≤ (m692 10).toInt := (sf_aux76 _ _ _ _ ek671 X_394.2 X702)
              have R733 : (m_394 10).toInt ≤ (m692 10).toInt := (sf_aux79 _ _ _ _ ek671 X_394.2 X702)
              obtain ⟨v734, B735, e736⟩ := X698 _ e679
              refine pm_R_br pm_M181 (pc_q := 48) (st_q := []) rfl rfl ?_
              refine pm_R_lo pm_M181 (pc_q := 49) rfl rfl rfl ?_
              refine pm_R_op pm_M181 (pc_q := 50) (st_q := [.int 0, .ref 41]) rfl rfl rfl ?_
              refine pm_R_op pm_M181 (pc_q := 51) (st_q := [.int 1, .int 0, .ref 41]) rfl rfl rfl ?_
              refine pm_R_op pm_M181 (pc_q := 52) (st_q := [.int 1, .int 1, .int 0, .ref 41]) rfl rfl rfl ?_
              refine pm_R_op pm_M181 (pc_q := 54) (st_q := [.int 12, .int 1, .int 1, .int 0, .ref 41]) rfl rfl rfl ?_
              refine pm_R_op pm_M181 (pc_q := 55) (st_q := [.int 0, .int 12, .int 1, .int 1, .int 0, .ref 41]) rfl rfl rfl ?_
              refine pm_R_cv pm_M181 (pc_q := 58) (a := 41) (ra := [.int 0, .int 12, .int 1, .int 1, .int 0]) (rest := []) (ls_q := [.ref 41, .int 0, .int 1, .int 1, .int 12, .int 0, pm_no, pm_no]) rfl rfl (Or.inl rfl) pm_M185 T695.2.1 rfl (by decide) (Nat.lt_of_lt_of_le (by decide) T695.1) rfl rfl (Nat.le_of_ble_eq_true rfl) rfl rfl ?_
              have e737 := (F696.cell (by decide) (F666.cell (by decide) e399))
              refine rf_c185_o (d := d + 2) T695 (⟨f398, e737, ct400, fun z => (sf_pos (sf_eqT X699 B668) (by decide) z)⟩) (fun z => sf_pos (sf_eqT X699 B668) (by decide) z) (fun m740 w741 h742 T743 F744 W745 X746 => ?_)
              have F747 := F725.trans F744 (by decide)
              have B748 : sf_B 0 600 (m740 10) := by rw [W745 10 (by decide)]; exact B728
              have ek749 : (m740 10).toInt = ((m692 10)).toInt := by rw [W745 10 (by decide)]
              have B750 : sf_B 0 4 (m740 13) := by rw [W745 13 (by decide)]; exact B729
              have ek751 : (m740 13).toInt = ((m692 13)).toInt := by rw [W745 13 (by decide)]
              have B752 : sf_B 1 4 (m740 17) := by rw [W745 17 (by decide)]; exact (sf_eqT X699 B668)
              have ek753 : (m740 17).toInt = ((m662 17)).toInt := by rw [W745 17 (by decide)]; exact X699
              have B754 : sf_B 0 1 (m740 22) := by rw [W745 22 (by decide)]; exact (sf_eqT X700 B677)
              have ek755 : (m740 22).toInt = ((m662 22)).toInt := by rw [W745 22 (by decide)]; exact X700
              have W756 : rf_W [10, 12, 13, 14, 16, 17, 18, 22] m m740 := W726.trans W745 (by decide)
              have W757 : rf_W [10, 12, 13, 14, 16, 17, 18, 22] m m740 := W727.trans W745 (by decide)
              show pm_R _ 181 58 [.ref 41] [] _ _
              obtain ⟨f758, e759, ct760, bd761⟩ := X746
              refine pm_R_br pm_M181 (pc_q := 0) rfl rfl ?_
              exact ih_394 _ (rf_mu hN_394 (sf_ne0 c405) (sf_aux84 _ _ _ ek671 X_394.2) (sf_aux39 _ _ _ ek749 X702) (X701.imp (fun q => (sf_aux42 _ _ _ ek749 q)) (fun q => (sf_aux82 _ _ ek751 q))) B748.2) h742 m740 w741  T743 F747 W757  ⟨⟨f758, e759, ct760, fun z => (sf_pos B752 (by decide) z)⟩, (sf_aux83 _ _ _ _ ek749 R732 R733)⟩ rfl
            · have F762 := F669.trans F709 (by decide)
              have W763 : rf_W [10, 12, 13, 14, 16, 17, 18, 22] m m705 := W674.trans W710 (by decide)
              have W764 : rf_W [10, 12, 13, 14, 16, 17, 18, 22] m m705 := W675.trans W710 (by decide)
              have B765 : sf_B 0 600 (m705 10) := T708.2.2.1 10
              have B766 : sf_B 0 4 (m705 13) := T708.2.2.1 13
              have B767 : sf_B 0 4 (m705 17) := T708.2.2.1 17
              have B768 : sf_B 0 1 (m705 22) := T708.2.2.1 22
              show pm_R _ 181 43 [.ref 41] [.int 1] _ _
              have R769 : (m 10).toInt ≤ (m705 10).toInt := (sf_aux76 _ _ _ _ ek671 X_394.2 X713)
              have R770 : (m_394 10).toInt ≤ (m705 10).toInt := (sf_aux79 _ _ _ _ ek671 X_394.2 X713)
              obtain ⟨v771, B772, e773⟩ := X711 _ e679
              refine pm_R_br pm_M181 (pc_q := 48) (st_q := []) rfl rfl ?_
              refine pm_R_lo pm_M181 (pc_q := 49) rfl rfl rfl ?_
              refine pm_R_op pm_M181 (pc_q := 50) (st_q := [.int 0, .ref 41]) rfl rfl rfl ?_
              refine pm_R_op pm_M181 (pc_q := 51) (st_q := [.int 1, .int 0, .ref 41]) rfl rfl rfl ?_
              refine pm_R_op pm_M181 (pc_q := 52) (st_q := [.int 1, .int 1, .int 0, .ref 41]) rfl rfl rfl ?_
              refine pm_R_op pm_M181 (pc_q := 54) (st_q := [.int 12, .int 1, .int 1, .int 0, .ref 41]) rfl rfl rfl ?_
              refine pm_R_op pm_M181 (pc_q := 55) (st_q := [.int 0, .int 12, .int 1, .int 1, .int 0, .ref 41]) rfl rfl rfl ?_
              refine pm_R_cv pm_M181 (pc_q := 58) (a := 41) (ra := [.int 0, .int 12, .int 1, .int 1, .int 0]) (rest := []) (ls_q := [.ref 41, .int 0, .int 1, .int 1, .int 12, .int 0, pm_no, pm_no]) rfl rfl (Or.inl rfl) pm_M185 T708.2.1 rfl (by decide) (Nat.lt_of_lt_of_le (by decide) T708.1) rfl rfl (Nat.le_of_ble_eq_true rfl) rfl rfl ?_
              have e774 := (F709.cell (by decide) (F666.cell (by decide) e399))
              refine rf_c185_o (d := d + 2) T708 (⟨f398, e774, ct400, fun z => (sf_pos B714 (by decide) z)⟩) (fun z => sf_pos B714 (by decide) z) (fun m777 w778 h779 T780 F781 W782 X783 => ?_)
              have F784 := F762.trans F781 (by decide)
              have B785 : sf_B 0 600 (m777 10) := by rw [W782 10 (by decide)]; exact B765
              have ek786 : (m777 10).toInt = ((m705 10)).toInt := by rw [W782 10 (by decide)]
              have B787 : sf_B 0 4 (m777 13) := by rw [W782 13 (by decide)]; exact B766
              have ek788 : (m777 13).toInt = ((m705 13)).toInt := by rw [W782 13 (by decide)]
              have B789 : sf_B 1 4 (m777 17) := by rw [W782 17 (by decide)]; exact B714
              have ek790 : (m777 17).toInt = ((m705 17)).toInt := by rw [W782 17 (by decide)]
              have B791 : sf_B 0 0 (m777 22) := by rw [W782 22 (by decide)]; exact B715
              have ek792 : (m777 22).toInt = ((m705 22)).toInt := by rw [W782 22 (by decide)]
              have W793 : rf_W [10, 12, 13, 14, 16, 17, 18, 22] m m777 := W763.trans W782 (by decide)
              have W794 : rf_W [10, 12, 13, 14, 16, 17, 18, 22] m m777 := W764.trans W782 (by decide)
              show pm_R _ 181 58 [.ref 41] [] _ _
              obtain ⟨f795, e796, ct797, bd798⟩ := X783
              refine pm_R_br pm_M181 (pc_q := 0) rfl rfl ?_
              exact ih_394 _ (rf_mu hN_394 (sf_ne0 c405) (sf_aux84 _ _ _ ek671 X_394.2) (sf_aux39 _ _ _ ek786 X713) (X712.imp (fun q => (sf_aux42 _ _ _ ek786 q)) (fun q => (sf_aux82 _ _ ek788 q))) B785.2) h779 m777 w778  T780 F784 W794  ⟨⟨f795, e796, ct797, fun z => (sf_pos B789 (by decide) z)⟩, (sf_aux83 _ _ _ _ ek786 R769 R770)⟩ rfl
  exact L_394 _ h m w  T (rf_G.refl [41, 51, 52] h) (rf_W.refl _ _)  ⟨⟨f2, e3, ct4, fun z => (bd5 z)⟩, (sf_aux50 _ )⟩ rfl

theorem sf_aux85 (v0 v1 v2 v3 : Int) (q0 : v0 ≤ v1) (q1 : v2 ≤ v1) (q2 : v1 ≤ v3) : v0 ≤ v3 := by omega
theorem sf_aux86 (v0 v1 v2 v3 : Int) (q0 : v0 ≤ v1) (q1 : v2 ≤ v1) (q2 : v1 ≤ v3) : v2 ≤ v3 := by omega
theorem sf_aux87 (v0 v1 v2 : Int) (q0 : v0 ≤ v1) (q1 : v2 ≤ v1) : v2 ≤ v1 := by omega
theorem sf_aux88 (v0 : Int) (q0 : v0 = 0) : v0 = 0 := by omega
set_option maxRecDepth 100000 in
set_option maxHeartbeats 4000000 in
/-- SilentTableModel.lines -/
theorem rf_c186_0 {d : Nat} {m : Nat → Int32} {w : Int64} {h : pm_H} {Q : Option Value → pm_H → Prop}  (T : rf_T m w h) (X : rf_I 0 (m 17) h) (K0 : ∀ (m_q : Nat → Int32) (w_q : Int64) (h_q : pm_H), rf_T m_q w_q h_q → rf_G [41, 51, 52] h h_q → rf_W [10, 12, 13, 14, 16, 17, 18, 21, 22] m m_q → (m 10).toInt ≤ (m_q 10).toInt → Q (some (.int 0)) h_q) (K1 : ∀ (m_q : Nat → Int32) (w_q : Int64) (h_q : pm_H), rf_T m_q w_q h_q → rf_G [41, 51, 52] h h_q → rf_W [10, 12, 13, 14, 16, 17, 18, 21, 22] m m_q → rf_I 0 (m_q 17) h_q → (m 10).toInt ≤ (m_q 10).toInt → Q (some (.int 1)) h_q) : pm_R (d + 5) 186 0 [.ref 41, .int 0, pm_no, pm_no, pm_no, pm_no] [] h Q := by
  have B1 : sf_B 0 600 (m 10) := T.2.2.1 10
  obtain ⟨f2, e3, ct4, bd5⟩ := X
  have B6 : sf_B 0 4 (m 17) := T.2.2.1 17
  refine pm_R_op pm_M186 (pc_q := 1) (st_q := [.int 1]) rfl rfl rfl ?_
  refine pm_R_lo pm_M186 (pc_q := 2) (ls_q := [.ref 41, .int 0, .int 1, pm_no, pm_no, pm_no]) (st_q := []) rfl rfl rfl ?_
  have L_219 : ∀ (N : Nat) (h_219 : pm_H) (m_219 : Nat → Int32) (w_219 : Int64) (x2_219 : Int32) (g3_219 : Value) (g4_219 : Value) (g5_219 : Value), rf_T m_219 w_219 h_219 → rf_G [41, 51, 52] h h_219 → rf_W [10, 12, 13, 14, 16, 17, 18, 21, 22] m m_219 → sf_B 1 1 x2_219 → g3_219.category = 1 → g5_219.category = 1 → rf_I 0 (m_219 17) h_219 ∧ (m 10).toInt ≤ (m_219 10).toInt → ((600 - (m_219 10).toInt).toNat + (if (m_219 13).toInt = 0 then 0 else 1)) = N → pm_R (d + 5) 186 2 [.ref 41, .int 0, .int x2_219, g3_219, g4_219, g5_219] [] h_219 Q := by
    intro N
    induction N using Nat.strongRecOn with
    | ind N ih_219 =>
      intro h_219 m_219 w_219 x2_219 g3_219 g4_219 g5_219 T_219 F_219 W_219 Bx2_219 Cg3_219 Cg5_219 X_219 hN_219
      have W222 : rf_W [10, 12, 13, 14, 16, 17, 18, 21, 22] m m_219 := (rf_W.refl [10, 12, 13, 14, 16, 17, 18, 21, 22] m).trans W_219 (by decide)
      obtain ⟨f223, e224, ct225, bd226⟩ := X_219.1
      have B227 : sf_B 0 4 (m_219 17) := T_219.2.2.1 17
      have B228 : sf_B 0 600 (m_219 10) := T_219.2.2.1 10
      refine pm_R_lo pm_M186 (pc_q := 3) rfl rfl rfl ?_
      refine pm_R_ifc pm_M186 (t := 106) (pc_q := 6) rfl rfl rfl (fun c229 => absurd c229 (sf_neq1 Bx2_219 sf_k0 (by decide))) (fun c229 => ?_)
      skip
      refine pm_R_lo pm_M186 (pc_q := 7) rfl rfl rfl ?_
      have B230 : sf_B 0 4 (m_219 13) := T_219.2.2.1 13
      refine rf_R_get pm_M186 T_219 (pc_q := 10) (v := .int (m_219 13)) rfl rfl rfl rfl ?_
      refine pm_R_ifc pm_M186 (t := 106) (pc_q := 13) rfl rfl rfl (fun c231 => ?_) (fun c231 => ?_)
      · have B232 : sf_B 0 0 (m_219 13) := sf_eqL c231 sf_k0
        refine pm_R_lo pm_M186 (pc_q := 107) rfl rfl rfl ?_
        rw [sf_pt2 Bx2_219 sf_k1]
        exact pm_R_ret pm_M186 (r := some (.int 1)) rfl rfl (K1 m_219 w_219 h_219 T_219 F_219 W222 (⟨f223, e224, ct225, fun z => (bd226 z)⟩) (sf_aux51 _ _ X_219.2))
      · have B233 : sf_B 1 4 (m_219 13) := sf_neL0 c231 sf_k0 B230
        refine pm_R_lo pm_M186 (pc_q := 14) rfl rfl rfl ?_
        have B234 : sf_B 0 600 (m_219 12) := T_219.2.2.1 12
        refine rf_R_get pm_M186 T_219 (pc_q := 17) (v := .int (m_219 12)) rfl rfl rfl rfl ?_
        refine pm_R_lo pm_M186 (pc_q := 18) (ls_q := [.ref 41, .int 0, .int x2_219, .int (m_219 12), g4_219, g5_219]) (st_q := []) rfl rfl rfl ?_
        refine pm_R_lo pm_M186 (pc_q := 19) rfl rfl rfl ?_
        refine rf_R_get pm_M186 T_219 (pc_q := 22) (v := .int (m_219 13)) rfl rfl rfl rfl ?_
        refine pm_R_op pm_M186 (pc_q := 23) (st_q := [.int 2, .int (m_219 13)]) rfl rfl rfl ?_
        refine pm_R_icmp pm_M186 (t := 33) (pc_q := 26) rfl rfl rfl (fun c235 => ?_) (fun c235 => ?_)
        · skip
          refine pm_R_op pm_M186 (pc_q := 34) (st_q := [.long 0]) rfl rfl rfl ?_
          refine pm_R_lo pm_M186 (pc_q := 36) (ls_q := [.ref 41, .int 0, .int x2_219, .int (m_219 12), .long 0, pm_no]) (st_q := []) rfl rfl rfl ?_
          refine pm_R_lo pm_M186 (pc_q := 37) rfl rfl rfl ?_
          refine pm_R_op pm_M186 (pc_q := 38) (st_q := [.int 1, .ref 41]) rfl rfl rfl ?_
          refine rf_R_put pm_M186 T_219 (pc_q := 41) rfl rfl rfl (by decide) rfl rfl (sf_weak sf_k1 (by decide) (by decide)) rfl rfl (fun h236 m239 em240 T237 F238 => ?_)
          have F241 := F_219.trans F238 (by decide)
          have B242 : sf_B 0 4 (m239 17) := by rw [em240]; exact B227
          have ek243 : (m239 17).toInt = ((m_219 17)).toInt := by rw [em240]; rfl
          have B244 : sf_B 0 600 (m239 10) := by rw [em240]; exact B228
          have ek245 : (m239 10).toInt = ((m_219 10)).toInt := by rw [em240]; rfl
          have B246 : sf_B 1 4 (m239 13) := by rw [em240]; exact B233
          have ek247 : (m239 13).toInt = ((m_219 13)).toInt := by rw [em240]; rfl
          have B248 : sf_B 1 1 (m239 22) := by rw [em240]; exact sf_k1
          have W250 : rf_W [10, 12, 13, 14, 16, 17, 18, 21, 22] m m239 := by rw [em240]; exact W222.put (by decide)
          have W251 : rf_W [10, 12, 13, 14, 16, 17, 18, 21, 22] m m239 := by rw [em240]; exact W_219.put (by decide)
          refine pm_R_lo pm_M186 (pc_q := 42) rfl rfl rfl ?_
          refine pm_R_br pm_M186 (pc_q := 45) (st_q := []) rfl rfl ?_
          refine pm_R_lo pm_M186 (pc_q := 46) rfl rfl rfl ?_
          refine pm_R_lo pm_M186 (pc_q := 48) rfl rfl rfl ?_
          refine pm_R_lo pm_M186 (pc_q := 49) rfl rfl rfl ?_
          refine pm_R_cv pm_M186 (pc_q := 52) (a := 41) (ra := [.int (m_219 12), .long 0]) (rest := []) (ls_q := [.ref 41, .long 0, pm_no, .int (m_219 12)]) rfl rfl (Or.inl rfl) pm_M187 T237.2.1 rfl (by decide) (Nat.lt_of_lt_of_le (by decide) T237.1) rfl rfl (Nat.le_of_ble_eq_true rfl) rfl rfl ?_
          have e252 := (F238.cell (by decide) e224)
          refine rf_c187 (d := d + 1) T237 B234 (⟨f223, e252, ct225, fun z => (bd226 (sf_aux78 _ _ ek243 z))⟩) (fun m255 w256 h257 T258 F259 W260 X261 => ?_) (fun m264 w265 h266 T267 F268 W269 X270 X271 => ?_)
          · have F272 := F241.trans F259 (by decide)
            have W273 : rf_W [10, 12, 13, 14, 16, 17, 18, 21, 22] m m255 := W250.trans W260 (by decide)
            have W274 : rf_W [10, 12, 13, 14, 16, 17, 18, 21, 22] m m255 := W251.trans W260 (by decide)
            have B275 : sf_B 0 600 (m255 10) := T258.2.2.1 10
            have B276 : sf_B 0 4 (m255 13) := T258.2.2.1 13
            have B277 : sf_B 0 4 (m255 17) := T258.2.2.1 17
            have B278 : sf_B 0 1 (m255 22) := T258.2.2.1 22
            show pm_R _ 186 52 [.ref 41, .int 0, .int x2_219, .int (m_219 12), .long 0, pm_no] [.int 0] _ _
            have R279 : (m 10).toInt ≤ (m255 10).toInt := (sf_aux76 _ _ _ _ ek245 X_219.2 X261)
            have R280 : (m_219 10).toInt ≤ (m255 10).toInt := (sf_aux79 _ _ _ _ ek245 X_219.2 X261)
            refine pm_R_br pm_M186 (pc_q := 77) rfl rfl ?_
            refine pm_R_lo pm_M186 (pc_q := 78) (ls_q := [.ref 41, .int 0, .int 0, .int (m_219 12), .long 0, pm_no]) (st_q := []) rfl rfl rfl ?_
            refine pm_R_lo pm_M186 (pc_q := 79) rfl rfl rfl ?_
            refine pm_R_br pm_M186 (pc_q := 95) (st_q := []) rfl rfl ?_
            refine pm_R_lo pm_M186 (pc_q := 96) rfl rfl rfl ?_
            refine pm_R_br pm_M186 (pc_q := 103) (st_q := []) rfl rfl ?_
            refine pm_R_br pm_M186 (pc_q := 2) rfl rfl ?_
            refine pm_R_lo pm_M186 (pc_q := 3) rfl rfl rfl ?_
            refine pm_R_br pm_M186 (pc_q := 106) (st_q := []) rfl rfl ?_
            refine pm_R_lo pm_M186 (pc_q := 107) rfl rfl rfl ?_
            exact pm_R_ret pm_M186 (r := some (.int 0)) rfl rfl (K0 m255 w256 h257 T258 F272 W273 (sf_aux80 _ _ _ R279 R280))
          · have F281 := F241.trans F268 (by decide)
            have W282 : rf_W [10, 12, 13, 14, 16, 17, 18, 21, 22] m m264 := W250.trans W269 (by decide)
            have W283 : rf_W [10, 12, 13, 14, 16, 17, 18, 21, 22] m m264 := W251.trans W269 (by decide)
            have B284 : sf_B 0 600 (m264 10) := T267.2.2.1 10
            have B285 : sf_B 0 4 (m264 13) := T267.2.2.1 13
            have B286 : sf_B 0 4 (m264 17) := T267.2.2.1 17
            have B287 : sf_B 0 1 (m264 22) := T267.2.2.1 22
            show pm_R _ 186 52 [.ref 41, .int 0, .int x2_219, .int (m_219 12), .long 0, pm_no] [.int 1] _ _
            have R288 : (m 10).toInt ≤ (m264 10).toInt := (sf_aux76 _ _ _ _ ek245 X_219.2 X271)
            have R289 : (m_219 10).toInt ≤ (m264 10).toInt := (sf_aux79 _ _ _ _ ek245 X_219.2 X271)
            obtain ⟨f290, e291, ct292, bd293⟩ := X270
            refine pm_R_br pm_M186 (pc_q := 77) rfl rfl ?_
            refine pm_R_lo pm_M186 (pc_q := 78) (ls_q := [.ref 41, .int 0, .int 1, .int (m_219 12), .long 0, pm_no]) (st_q := []) rfl rfl rfl ?_
            refine pm_R_lo pm_M186 (pc_q := 79) rfl rfl rfl ?_
            refine pm_R_br pm_M186 (pc_q := 82) (st_q := []) rfl rfl ?_
            refine pm_R_lo pm_M186 (pc_q := 83) rfl rfl rfl ?_
            refine rf_R_get pm_M186 T267 (pc_q := 86) (v := .int (m264 13)) rfl rfl rfl rfl ?_
            refine pm_R_op pm_M186 (pc_q := 87) (st_q := [.int 4, .int (m264 13)]) rfl rfl rfl ?_
            refine pm_R_icmp pm_M186 (t := 95) (pc_q := 90) rfl rfl rfl (fun c294 => ?_) (fun c294 => ?_)
            · have B295 : sf_B 4 4 (m264 13) := sf_eqL c294 sf_k4
              refine pm_R_lo pm_M186 (pc_q := 96) rfl rfl rfl ?_
              refine pm_R_br pm_M186 (pc_q := 99) (st_q := []) rfl rfl ?_
              refine pm_R_lo pm_M186 (pc_q := 100) rfl rfl rfl ?_
              refine pm_R_cv pm_M186 (pc_q := 103) (a := 41) (ra := []) (rest := []) (ls_q := [.ref 41, pm_no, pm_no]) rfl rfl (Or.inl rfl) pm_M179 T267.2.1 rfl (by decide) (Nat.lt_of_lt_of_le (by decide) T267.1) rfl rfl (Nat.le_of_ble_eq_true rfl) rfl rfl ?_
              refine rf_c179 (d := d + 3) T267  (fun m298 w299 h300 T301 F302 W303 X304 X305 => ?_)
              have F306 := F281.trans F302 (by decide)
              have B307 : sf_B 0 4 (m298 17) := by rw [W303 17 (by decide)]; exact B286
              have ek308 : (m298 17).toInt = ((m264 17)).toInt := by rw [W303 17 (by decide)]
              have B309 : sf_B 0 1 (m298 22) := by rw [W303 22 (by decide)]; exact B287
              have ek310 : (m298 22).toInt = ((m264 22)).toInt := by rw [W303 22 (by decide)]
              have W311 : rf_W [10, 12, 13, 14, 16, 17, 18, 21, 22] m m298 := W282.trans W303 (by decide)
              have W312 : rf_W [10, 12, 13, 14, 16, 17, 18, 21, 22] m m298 := W283.trans W303 (by decide)
              have B313 : sf_B 0 600 (m298 10) := T301.2.2.1 10
              have B314 : sf_B 0 4 (m298 13) := T301.2.2.1 13
              show pm_R _ 186 103 [.ref 41, .int 0, .int 1, .int (m_219 12), .long 0, pm_no] [] _ _
              have R315 : (m 10).toInt ≤ (m298 10).toInt := (sf_aux85 _ _ _ _ R288 R289 X304)
              have R316 : (m_219 10).toInt ≤ (m298 10).toInt := (sf_aux86 _ _ _ _ R288 R289 X304)
              refine pm_R_br pm_M186 (pc_q := 2) rfl rfl ?_
              have e317 := (F302.cell (by decide) e291)
              exact ih_219 _ (rf_mu hN_219 (sf_ne0 c231) (sf_aux87 _ _ _ R288 R289) (sf_aux51 _ _ X304) (X305.imp (fun q => (sf_aux55 _ _ q)) (fun q => (sf_aux88 _ q))) B313.2) h300 m298 w299 1 (.int (m_219 12)) (.long 0) (pm_no) T301 F306 W312 sf_k1 rfl rfl ⟨⟨f290, e317, ct292, fun z => (bd293 (sf_aux78 _ _ ek308 z))⟩, (sf_aux80 _ _ _ R315 R316)⟩ rfl
            · have B318 : sf_B 0 3 (m264 13) := sf_neH0 c294 sf_k4 B285
              refine pm_R_lo pm_M186 (pc_q := 91) rfl rfl rfl ?_
              refine pm_R_cv pm_M186 (pc_q := 94) (a := 41) (ra := []) (rest := []) (ls_q := [.ref 41]) rfl rfl (Or.inl rfl) pm_M184 T267.2.1 rfl (by decide) (Nat.lt_of_lt_of_le (by decide) T267.1) rfl rfl (Nat.le_of_ble_eq_true rfl) rfl rfl ?_
              refine pm_R_lo pm_M184 (pc_q := 1) rfl rfl rfl ?_
              refine pm_R_lo pm_M184 (pc_q := 2) rfl rfl rfl ?_
              have B319 : sf_B 0 600 (m264 12) := T267.2.2.1 12
              refine rf_R_get pm_M184 T267 (pc_q := 5) (v := .int (m264 12)) rfl rfl rfl rfl ?_
              refine rf_R_put pm_M184 T267 (pc_q := 8) rfl rfl rfl (by decide) rfl rfl B319 rfl rfl (fun h320 m323 em324 T321 F322 => ?_)
              have F325 := F281.trans F322 (by decide)
              have B326 : sf_B 0 600 (m323 10) := by rw [em324]; exact B284
              have ek327 : (m323 10).toInt = ((m264 10)).toInt := by rw [em324]; rfl
              have B328 : sf_B 0 3 (m323 13) := by rw [em324]; exact B318
              have ek329 : (m323 13).toInt = ((m264 13)).toInt := by rw [em324]; rfl
              have B330 : sf_B 0 4 (m323 17) := by rw [em324]; exact B286
              have ek331 : (m323 17).toInt = ((m264 17)).toInt := by rw [em324]; rfl
              have B332 : sf_B 0 1 (m323 22) := by rw [em324]; exact B287
              have ek333 : (m323 22).toInt = ((m264 22)).toInt := by rw [em324]; rfl
              have B334 : sf_B 0 600 (m323 16) := by rw [em324]; exact B319
              have ek335 : (m323 16).toInt = ((m264 12)).toInt := by rw [em324]; rfl
              have W336 : rf_W [10, 12, 13, 14, 16, 17, 18, 21, 22] m m323 := by rw [em324]; exact W282.put (by decide)
              have W337 : rf_W [10, 12, 13, 14, 16, 17, 18, 21, 22] m m323 := by rw [em324]; exact W283.put (by decide)
              refine pm_R_op pm_M184 (pc_q := 9) (st_q := [.int 0]) rfl rfl rfl ?_
              refine pm_R_ret pm_M184 (r := some (.int 0)) rfl rfl ?_
              show pm_R _ 186 94 [.ref 41, .int 0, .int 1, .int (m_219 12), .long 0, pm_no] [.int 0] _ _
              refine pm_R_lo pm_M186 (pc_q := 95) (ls_q := [.ref 41, .int 0, .int 0, .int (m_219 12), .long 0, pm_no]) (st_q := []) rfl rfl rfl ?_
              refine pm_R_lo pm_M186 (pc_q := 96) rfl rfl rfl ?_
              refine pm_R_br pm_M186 (pc_q := 103) (st_q := []) rfl rfl ?_
              refine pm_R_br pm_M186 (pc_q := 2) rfl rfl ?_
              refine pm_R_lo pm_M186 (pc_q := 3) rfl rfl rfl ?_
              refine pm_R_br pm_M186 (pc_q := 106) (st_q := []) rfl rfl ?_
              refine pm_R_lo pm_M186 (pc_q := 107) rfl rfl rfl ?_
              exact pm_R_ret pm_M186 (r := some (.int 0)) rfl rfl (K0 m323 w265 h320 T321 F325 W336 (sf_aux83 _ _ _ _ ek327 R288 R289))
        · have B338 : sf_B 2 2 (m_219 13) := sf_eqL (Classical.not_not.mp c235) sf_k2
          refine pm_R_lo pm_M186 (pc_q := 27) rfl rfl rfl ?_
          refine rf_R_get pm_M186 T_219 (pc_q := 30) (v := .long w_219) rfl rfl rfl rfl ?_
          refine pm_R_br pm_M186 (pc_q := 34) rfl rfl ?_
          refine pm_R_lo pm_M186 (pc_q := 36) (ls_q := [.ref 41, .int 0, .int x2_219, .int (m_219 12), .long w_219, pm_no]) (st_q := []) rfl rfl rfl ?_
          refine pm_R_lo pm_M186 (pc_q := 37) rfl rfl rfl ?_
          refine pm_R_op pm_M186 (pc_q := 38) (st_q := [.int 1, .ref 41]) rfl rfl rfl ?_
          refine rf_R_put pm_M186 T_219 (pc_q := 41) rfl rfl rfl (by decide) rfl rfl (sf_weak sf_k1 (by decide) (by decide)) rfl rfl (fun h339 m342 em343 T340 F341 => ?_)
          have F344 := F_219.trans F341 (by decide)
          have B345 : sf_B 0 4 (m342 17) := by rw [em343]; exact B227
          have ek346 : (m342 17).toInt = ((m_219 17)).toInt := by rw [em343]; rfl
          have B347 : sf_B 0 600 (m342 10) := by rw [em343]; exact B228
          have ek348 : (m342 10).toInt = ((m_219 10)).toInt := by rw [em343]; rfl
          have B349 : sf_B 2 2 (m342 13) := by rw [em343]; exact B338
          have ek350 : (m342 13).toInt = ((m_219 13)).toInt := by rw [em343]; rfl
          have B351 : sf_B 1 1 (m342 22) := by rw [em343]; exact sf_k1
          have W353 : rf_W [10, 12, 13, 14, 16, 17, 18, 21, 22] m m342 := by rw [em343]; exact W222.put (by decide)
          have W354 : rf_W [10, 12, 13, 14, 16, 17, 18, 21, 22] m m342 := by rw [em343]; exact W_219.put (by decide)
          refine pm_R_lo pm_M186 (pc_q := 42) rfl rfl rfl ?_
          refine pm_R_br pm_M186 (pc_q := 45) (st_q := []) rfl rfl ?_
          refine pm_R_lo pm_M186 (pc_q := 46) rfl rfl rfl ?_
          refine pm_R_lo pm_M186 (pc_q := 48) rfl rfl rfl ?_
          refine pm_R_lo pm_M186 (pc_q := 49) rfl rfl rfl ?_
          refine pm_R_cv pm_M186 (pc_q := 52) (a := 41) (ra := [.int (m_219 12), .long w_219]) (rest := []) (ls_q := [.ref 41, .long w_219, pm_no, .int (m_219 12)]) rfl rfl (Or.inl rfl) pm_M187 T340.2.1 rfl (by decide) (Nat.lt_of_lt_of_le (by decide) T340.1) rfl rfl (Nat.le_of_ble_eq_true rfl) rfl rfl ?_
          have e355 := (F341.cell (by decide) e224)
          refine rf_c187 (d := d + 1) T340 B234 (⟨f223, e355, ct225, fun z => (bd226 (sf_aux78 _ _ ek346 z))⟩) (fun m358 w359 h360 T361 F362 W363 X364 => ?_) (fun m367 w368 h369 T370 F371 W372 X373 X374 => ?_)
          · have F375 := F344.trans F362 (by decide)
            have W376 : rf_W [10, 12, 13, 14, 16, 17, 18, 21, 22] m m358 := W353.trans W363 (by decide)
            have W377 : rf_W [10, 12, 13, 14, 16, 17, 18, 21, 22] m m358 := W354.trans W363 (by decide)
            have B378 : sf_B 0 600 (m358 10) := T361.2.2.1 10
            have B379 : sf_B 0 4 (m358 13) := T361.2.2.1 13
            have B380 : sf_B 0 4 (m358 17) := T361.2.2.1 17
            have B381 : sf_B 0 1 (m358 22) := T361.2.2.1 22
            show pm_R _ 186 52 [.ref 41, .int 0, .int x2_219, .int (m_219 12), .long w_219, pm_no] [.int 0] _ _
            have R382 : (m 10).toInt ≤ (m358 10).toInt := (sf_aux76 _ _ _ _ ek348 X_219.2 X364)
            have R383 : (m_219 10).toInt ≤ (m358 10).toInt := (sf_aux79 _ _ _ _ ek348 X_219.2 X364)
            refine pm_R_br pm_M186 (pc_q := 77) rfl rfl ?_
            refine pm_R_lo pm_M186 (pc_q := 78) (ls_q := [.ref 41, .int 0, .int 0, .int (m_219 12), .long w_219, pm_no]) (st_q := []) rfl rfl rfl ?_
            refine pm_R_lo pm_M186 (pc_q := 79) rfl rfl rfl ?_
            refine pm_R_br pm_M186 (pc_q := 95) (st_q := []) rfl rfl ?_
            refine pm_R_lo pm_M186 (pc_q := 96) rfl rfl rfl ?_
            refine pm_R_br pm_M186 (pc_q := 103) (st_q := []) rfl rfl ?_
            refine pm_R_br pm_M186 (pc_q := 2) rfl rfl ?_
            refine pm_R_lo pm_M186 (pc_q := 3) rfl rfl rfl ?_
            refine pm_R_br pm_M186 (pc_q := 106) (st_q := []) rfl rfl ?_
            refine pm_R_lo pm_M186 (pc_q := 107) rfl rfl rfl ?_
            exact pm_R_ret pm_M186 (r := some (.int 0)) rfl rfl (K0 m358 w359 h360 T361 F375 W376 (sf_aux80 _ _ _ R382 R383))
          · have F384 := F344.trans F371 (by decide)
            have W385 : rf_W [10, 12, 13, 14, 16, 17, 18, 21, 22] m m367 := W353.trans W372 (by decide)
            have W386 : rf_W [10, 12, 13, 14, 16, 17, 18, 21, 22] m m367 := W354.trans W372 (by decide)
            have B387 : sf_B 0 600 (m367 10) := T370.2.2.1 10
            have B388 : sf_B 0 4 (m367 13) := T370.2.2.1 13
            have B389 : sf_B 0 4 (m367 17) := T370.2.2.1 17
            have B390 : sf_B 0 1 (m367 22) := T370.2.2.1 22
            show pm_R _ 186 52 [.ref 41, .int 0, .int x2_219, .int (m_219 12), .long w_219, pm_no] [.int 1] _ _
            have R391 : (m 10).toInt ≤ (m367 10).toInt := (sf_aux76 _ _ _ _ ek348 X_219.2 X374)
            have R392 : (m_219 10).toInt ≤ (m367 10).toInt := (sf_aux79 _ _ _ _ ek348 X_219.2 X374)
            obtain ⟨f393, e394, ct395, bd396⟩ := X373
            refine pm_R_br pm_M186 (pc_q := 77) rfl rfl ?_
            refine pm_R_lo pm_M186 (pc_q := 78) (ls_q := [.ref 41, .int 0, .int 1, .int (m_219 12), .long w_219, pm_no]) (st_q := []) rfl rfl rfl ?_
            refine pm_R_lo pm_M186 (pc_q := 79) rfl rfl rfl ?_
            refine pm_R_br pm_M186 (pc_q := 82) (st_q := []) rfl rfl ?_
            refine pm_R_lo pm_M186 (pc_q := 83) rfl rfl rfl ?_
            refine rf_R_get pm_M186 T370 (pc_q := 86) (v := .int (m367 13)) rfl rfl rfl rfl ?_
            refine pm_R_op pm_M186 (pc_q := 87) (st_q := [.int 4, .int (m367 13)]) rfl rfl rfl ?_
            refine pm_R_icmp pm_M186 (t := 95) (pc_q := 90) rfl rfl rfl (fun c397 => ?_) (fun c397 => ?_)
            · have B398 : sf_B 4 4 (m367 13) := sf_eqL c397 sf_k4
              refine pm_R_lo pm_M186 (pc_q := 96) rfl rfl rfl ?_
              refine pm_R_br pm_M186 (pc_q := 99) (st_q := []) rfl rfl ?_
              refine pm_R_lo pm_M186 (pc_q := 100) rfl rfl rfl ?_
              refine pm_R_cv pm_M186 (pc_q := 103) (a := 41) (ra := []) (rest := []) (ls_q := [.ref 41, pm_no, pm_no]) rfl rfl (Or.inl rfl) pm_M179 T370.2.1 rfl (by decide) (Nat.lt_of_lt_of_le (by decide) T370.1) rfl rfl (Nat.le_of_ble_eq_true rfl) rfl rfl ?_
              refine rf_c179 (d := d + 3) T370  (fun m401 w402 h403 T404 F405 W406 X407 X408 => ?_)
              have F409 := F384.trans F405 (by decide)
              have B410 : sf_B 0 4 (m401 17) := by rw [W406 17 (by decide)]; exact B389
              have ek411 : (m401 17).toInt = ((m367 17)).toInt := by rw [W406 17 (by decide)]
              have B412 : sf_B 0 1 (m401 22) := by rw [W406 22 (by decide)]; exact B390
              have ek413 : (m401 22).toInt = ((m367 22)).toInt := by rw [W406 22 (by decide)]
              have W414 : rf_W [10, 12, 13, 14, 16, 17, 18, 21, 22] m m401 := W385.trans W406 (by decide)
              have W415 : rf_W [10, 12, 13, 14, 16, 17, 18, 21, 22] m m401 := W386.trans W406 (by decide)
              have B416 : sf_B 0 600 (m401 10) := T404.2.2.1 10
              have B417 : sf_B 0 4 (m401 13) := T404.2.2.1 13
              show pm_R _ 186 103 [.ref 41, .int 0, .int 1, .int (m_219 12), .long w_219, pm_no] [] _ _
              have R418 : (m 10).toInt ≤ (m401 10).toInt := (sf_aux85 _ _ _ _ R391 R392 X407)
              have R419 : (m_219 10).toInt ≤ (m401 10).toInt := (sf_aux86 _ _ _ _ R391 R392 X407)
              refine pm_R_br pm_M186 (pc_q := 2) rfl rfl ?_
              have e420 := (F405.cell (by decide) e394)
              exact ih_219 _ (rf_mu hN_219 (sf_ne0 c231) (sf_aux87 _ _ _ R391 R392) (sf_aux51 _ _ X407) (X408.imp (fun q => (sf_aux55 _ _ q)) (fun q => (sf_aux88 _ q))) B416.2) h403 m401 w402 1 (.int (m_219 12)) (.long w_219) (pm_no) T404 F409 W415 sf_k1 rfl rfl ⟨⟨f393, e420, ct395, fun z => (bd396 (sf_aux78 _ _ ek411 z))⟩, (sf_aux80 _ _ _ R418 R419)⟩ rfl
            · have B421 : sf_B 0 3 (m367 13) := sf_neH0 c397 sf_k4 B388
              refine pm_R_lo pm_M186 (pc_q := 91) rfl rfl rfl ?_
              refine pm_R_cv pm_M186 (pc_q := 94) (a := 41) (ra := []) (rest := []) (ls_q := [.ref 41]) rfl rfl (Or.inl rfl) pm_M184 T370.2.1 rfl (by decide) (Nat.lt_of_lt_of_le (by decide) T370.1) rfl rfl (Nat.le_of_ble_eq_true rfl) rfl rfl ?_
              refine pm_R_lo pm_M184 (pc_q := 1) rfl rfl rfl ?_
              refine pm_R_lo pm_M184 (pc_q := 2) rfl rfl rfl ?_
              have B422 : sf_B 0 600 (m367 12) := T370.2.2.1 12
              refine rf_R_get pm_M184 T370 (pc_q := 5) (v := .int (m367 12)) rfl rfl rfl rfl ?_
              refine rf_R_put pm_M184 T370 (pc_q := 8) rfl rfl rfl (by decide) rfl rfl B422 rfl rfl (fun h423 m426 em427 T424 F425 => ?_)
              have F428 := F384.trans F425 (by decide)
              have B429 : sf_B 0 600 (m426 10) := by rw [em427]; exact B387
              have ek430 : (m426 10).toInt = ((m367 10)).toInt := by rw [em427]; rfl
              have B431 : sf_B 0 3 (m426 13) := by rw [em427]; exact B421
              have ek432 : (m426 13).toInt = ((m367 13)).toInt := by rw [em427]; rfl
              have B433 : sf_B 0 4 (m426 17) := by rw [em427]; exact B389
              have ek434 : (m426 17).toInt = ((m367 17)).toInt := by rw [em427]; rfl
              have B435 : sf_B 0 1 (m426 22) := by rw [em427]; exact B390
              have ek436 : (m426 22).toInt = ((m367 22)).toInt := by rw [em427]; rfl
              have B437 : sf_B 0 600 (m426 16) := by rw [em427]; exact B422
              have ek438 : (m426 16).toInt = ((m367 12)).toInt := by rw [em427]; rfl
              have W439 : rf_W [10, 12, 13, 14, 16, 17, 18, 21, 22] m m426 := by rw [em427]; exact W385.put (by decide)
              have W440 : rf_W [10, 12, 13, 14, 16, 17, 18, 21, 22] m m426 := by rw [em427]; exact W386.put (by decide)
              refine pm_R_op pm_M184 (pc_q := 9) (st_q := [.int 0]) rfl rfl rfl ?_
              refine pm_R_ret pm_M184 (r := some (.int 0)) rfl rfl ?_
              show pm_R _ 186 94 [.ref 41, .int 0, .int 1, .int (m_219 12), .long w_219, pm_no] [.int 0] _ _
              refine pm_R_lo pm_M186 (pc_q := 95) (ls_q := [.ref 41, .int 0, .int 0, .int (m_219 12), .long w_219, pm_no]) (st_q := []) rfl rfl rfl ?_
              refine pm_R_lo pm_M186 (pc_q := 96) rfl rfl rfl ?_
              refine pm_R_br pm_M186 (pc_q := 103) (st_q := []) rfl rfl ?_
              refine pm_R_br pm_M186 (pc_q := 2) rfl rfl ?_
              refine pm_R_lo pm_M186 (pc_q := 3) rfl rfl rfl ?_
              refine pm_R_br pm_M186 (pc_q := 106) (st_q := []) rfl rfl ?_
              refine pm_R_lo pm_M186 (pc_q := 107) rfl rfl rfl ?_
              exact pm_R_ret pm_M186 (r := some (.int 0)) rfl rfl (K0 m426 w368 h423 T424 F428 W439 (sf_aux83 _ _ _ _ ek430 R391 R392))
  exact L_219 _ h m w 1 (pm_no) (pm_no) (pm_no) T (rf_G.refl [41, 51, 52] h) (rf_W.refl _ _) sf_k1 rfl rfl ⟨⟨f2, e3, ct4, fun z => (bd5 z)⟩, (sf_aux50 _ )⟩ rfl

set_option maxRecDepth 100000 in
set_option maxHeartbeats 4000000 in
/-- SilentTableModel.lines -/
theorem rf_c186_2 {d : Nat} {m : Nat → Int32} {w : Int64} {h : pm_H} {Q : Option Value → pm_H → Prop}  (T : rf_T m w h) (X : rf_I 2 (m 17) h) (K0 : ∀ (m_q : Nat → Int32) (w_q : Int64) (h_q : pm_H), rf_T m_q w_q h_q → rf_G [41, 51, 52] h h_q → rf_W [10, 12, 13, 14, 16, 17, 18, 21, 22] m m_q → (m 10).toInt ≤ (m_q 10).toInt → Q (some (.int 0)) h_q) (K1 : ∀ (m_q : Nat → Int32) (w_q : Int64) (h_q : pm_H), rf_T m_q w_q h_q → rf_G [41, 51, 52] h h_q → rf_W [10, 12, 13, 14, 16, 17, 18, 21, 22] m m_q → rf_I 2 (m_q 17) h_q → (m 10).toInt ≤ (m_q 10).toInt → Q (some (.int 1)) h_q) : pm_R (d + 5) 186 0 [.ref 41, .int 2, pm_no, pm_no, pm_no, pm_no] [] h Q := by
  have B1 : sf_B 0 600 (m 10) := T.2.2.1 10
  obtain ⟨f2, e3, ct4, bd5⟩ := X
  have B6 : sf_B 0 4 (m 17) := T.2.2.1 17
  refine pm_R_op pm_M186 (pc_q := 1) (st_q := [.int 1]) rfl rfl rfl ?_
  refine pm_R_lo pm_M186 (pc_q := 2) (ls_q := [.ref 41, .int 2, .int 1, pm_no, pm_no, pm_no]) (st_q := []) rfl rfl rfl ?_
  have L_219 : ∀ (N : Nat) (h_219 : pm_H) (m_219 : Nat → Int32) (w_219 : Int64) (x2_219 : Int32) (g3_219 : Value) (g4_219 : Value) (g5_219 : Value), rf_T m_219 w_219 h_219 → rf_G [41, 51, 52] h h_219 → rf_W [10, 12, 13, 14, 16, 17, 18, 21, 22] m m_219 → sf_B 1 1 x2_219 → g3_219.category = 1 → g5_219.category = 1 → rf_I 2 (m_219 17) h_219 ∧ (m 10).toInt ≤ (m_219 10).toInt → ((600 - (m_219 10).toInt).toNat + (if (m_219 13).toInt = 0 then 0 else 1)) = N → pm_R (d + 5) 186 2 [.ref 41, .int 2, .int x2_219, g3_219, g4_219, g5_219] [] h_219 Q := by
    intro N
    induction N using Nat.strongRecOn with
    | ind N ih_219 =>
      intro h_219 m_219 w_219 x2_219 g3_219 g4_219 g5_219 T_219 F_219 W_219 Bx2_219 Cg3_219 Cg5_219 X_219 hN_219
      have W222 : rf_W [10, 12, 13, 14, 16, 17, 18, 21, 22] m m_219 := (rf_W.refl [10, 12, 13, 14, 16, 17, 18, 21, 22] m).trans W_219 (by decide)
      obtain ⟨f223, e224, ct225, bd226⟩ := X_219.1
      have B227 : sf_B 0 4 (m_219 17) := T_219.2.2.1 17
      have B228 : sf_B 0 600 (m_219 10) := T_219.2.2.1 10
      refine pm_R_lo pm_M186 (pc_q := 3) rfl rfl rfl ?_
      refine pm_R_ifc pm_M186 (t := 106) (pc_q := 6) rfl rfl rfl (fun c229 => absurd c229 (sf_neq1 Bx2_219 sf_k0 (by decide))) (fun c229 => ?_)
      skip
      refine pm_R_lo pm_M186 (pc_q := 7) rfl rfl rfl ?_
      have B230 : sf_B 0 4 (m_219 13) := T_219.2.2.1 13
      refine rf_R_get pm_M186 T_219 (pc_q := 10) (v := .int (m_219 13)) rfl rfl rfl rfl ?_
      refine pm_R_ifc pm_M186 (t := 106) (pc_q := 13) rfl rfl rfl (fun c231 => ?_) (fun c231 => ?_)
      · have B232 : sf_B 0 0 (m_219 13) := sf_eqL c231 sf_k0
        refine pm_R_lo pm_M186 (pc_q := 107) rfl rfl rfl ?_
        rw [sf_pt2 Bx2_219 sf_k1]
        exact pm_R_ret pm_M186 (r := some (.int 1)) rfl rfl (K1 m_219 w_219 h_219 T_219 F_219 W222 (⟨f223, e224, ct225, fun z => (bd226 z)⟩) (sf_aux51 _ _ X_219.2))
      · have B233 : sf_B 1 4 (m_219 13) := sf_neL0 c231 sf_k0 B230
        refine pm_R_lo pm_M186 (pc_q := 14) rfl rfl rfl ?_
        have B234 : sf_B 0 600 (m_219 12) := T_219.2.2.1 12
        refine rf_R_get pm_M186 T_219 (pc_q := 17) (v := .int (m_219 12)) rfl rfl rfl rfl ?_
        refine pm_R_lo pm_M186 (pc_q := 18) (ls_q := [.ref 41, .int 2, .int x2_219, .int (m_219 12), g4_219, g5_219]) (st_q := []) rfl rfl rfl ?_
        refine pm_R_lo pm_M186 (pc_q := 19) rfl rfl rfl ?_
        refine rf_R_get pm_M186 T_219 (pc_q := 22) (v := .int (m_219 13)) rfl rfl rfl rfl ?_
        refine pm_R_op pm_M186 (pc_q := 23) (st_q := [.int 2, .int (m_219 13)]) rfl rfl rfl ?_
        refine pm_R_icmp pm_M186 (t := 33) (pc_q := 26) rfl rfl rfl (fun c235 => ?_) (fun c235 => ?_)
        · skip
          refine pm_R_op pm_M186 (pc_q := 34) (st_q := [.long 0]) rfl rfl rfl ?_
          refine pm_R_lo pm_M186 (pc_q := 36) (ls_q := [.ref 41, .int 2, .int x2_219, .int (m_219 12), .long 0, pm_no]) (st_q := []) rfl rfl rfl ?_
          refine pm_R_lo pm_M186 (pc_q := 37) rfl rfl rfl ?_
          refine pm_R_op pm_M186 (pc_q := 38) (st_q := [.int 1, .ref 41]) rfl rfl rfl ?_
          refine rf_R_put pm_M186 T_219 (pc_q := 41) rfl rfl rfl (by decide) rfl rfl (sf_weak sf_k1 (by decide) (by decide)) rfl rfl (fun h236 m239 em240 T237 F238 => ?_)
          have F241 := F_219.trans F238 (by decide)
          have B242 : sf_B 0 4 (m239 17) := by rw [em240]; exact B227
          have ek243 : (m239 17).toInt = ((m_219 17)).toInt := by rw [em240]; rfl
          have B244 : sf_B 0 600 (m239 10) := by rw [em240]; exact B228
          have ek245 : (m239 10).toInt = ((m_219 10)).toInt := by rw [em240]; rfl
          have B246 : sf_B 1 4 (m239 13) := by rw [em240]; exact B233
          have ek247 : (m239 13).toInt = ((m_219 13)).toInt := by rw [em240]; rfl
          have B248 : sf_B 1 1 (m239 22) := by rw [em240]; exact sf_k1
          have W250 : rf_W [10, 12, 13, 14, 16, 17, 18, 21, 22] m m239 := by rw [em240]; exact W222.put (by decide)
          have W251 : rf_W [10, 12, 13, 14, 16, 17, 18, 21, 22] m m239 := by rw [em240]; exact W_219.put (by decide)
          refine pm_R_lo pm_M186 (pc_q := 42) rfl rfl rfl ?_
          refine pm_R_br pm_M186 (pc_q := 55) (st_q := []) rfl rfl ?_
          refine pm_R_lo pm_M186 (pc_q := 56) rfl rfl rfl ?_
          refine pm_R_op pm_M186 (pc_q := 57) (st_q := [.int 2, .int 2]) rfl rfl rfl ?_
          refine pm_R_br pm_M186 (pc_q := 60) (st_q := []) rfl rfl ?_
          refine pm_R_lo pm_M186 (pc_q := 61) rfl rfl rfl ?_
          refine pm_R_lo pm_M186 (pc_q := 63) rfl rfl rfl ?_
          refine pm_R_lo pm_M186 (pc_q := 64) rfl rfl rfl ?_
          refine pm_R_cv pm_M186 (pc_q := 67) (a := 41) (ra := [.int (m_219 12), .long 0]) (rest := []) (ls_q := [.ref 41, .long 0, pm_no, .int (m_219 12), pm_no]) rfl rfl (Or.inl rfl) pm_M189 T237.2.1 rfl (by decide) (Nat.lt_of_lt_of_le (by decide) T237.1) rfl rfl (Nat.le_of_ble_eq_true rfl) rfl rfl ?_
          have e252 := (F238.cell (by decide) e224)
          refine rf_c189 (d := d + 0) T237 B234 (⟨f223, e252, ct225, fun z => (bd226 (sf_aux78 _ _ ek243 z))⟩) (fun m255 w256 h257 T258 F259 W260 X261 => ?_) (fun m264 w265 h266 T267 F268 W269 X270 X271 => ?_)
          · have F272 := F241.trans F259 (by decide)
            have W273 : rf_W [10, 12, 13, 14, 16, 17, 18, 21, 22] m m255 := W250.trans W260 (by decide)
            have W274 : rf_W [10, 12, 13, 14, 16, 17, 18, 21, 22] m m255 := W251.trans W260 (by decide)
            have B275 : sf_B 0 600 (m255 10) := T258.2.2.1 10
            have B276 : sf_B 0 4 (m255 13) := T258.2.2.1 13
            have B277 : sf_B 0 4 (m255 17) := T258.2.2.1 17
            have B278 : sf_B 0 1 (m255 22) := T258.2.2.1 22
            show pm_R _ 186 67 [.ref 41, .int 2, .int x2_219, .int (m_219 12), .long 0, pm_no] [.int 0] _ _
            have R279 : (m 10).toInt ≤ (m255 10).toInt := (sf_aux76 _ _ _ _ ek245 X_219.2 X261)
            have R280 : (m_219 10).toInt ≤ (m255 10).toInt := (sf_aux79 _ _ _ _ ek245 X_219.2 X261)
            refine pm_R_br pm_M186 (pc_q := 77) rfl rfl ?_
            refine pm_R_lo pm_M186 (pc_q := 78) (ls_q := [.ref 41, .int 2, .int 0, .int (m_219 12), .long 0, pm_no]) (st_q := []) rfl rfl rfl ?_
            refine pm_R_lo pm_M186 (pc_q := 79) rfl rfl rfl ?_
            refine pm_R_br pm_M186 (pc_q := 95) (st_q := []) rfl rfl ?_
            refine pm_R_lo pm_M186 (pc_q := 96) rfl rfl rfl ?_
            refine pm_R_br pm_M186 (pc_q := 103) (st_q := []) rfl rfl ?_
            refine pm_R_br pm_M186 (pc_q := 2) rfl rfl ?_
            refine pm_R_lo pm_M186 (pc_q := 3) rfl rfl rfl ?_
            refine pm_R_br pm_M186 (pc_q := 106) (st_q := []) rfl rfl ?_
            refine pm_R_lo pm_M186 (pc_q := 107) rfl rfl rfl ?_
            exact pm_R_ret pm_M186 (r := some (.int 0)) rfl rfl (K0 m255 w256 h257 T258 F272 W273 (sf_aux80 _ _ _ R279 R280))
          · have F281 := F241.trans F268 (by decide)
            have W282 : rf_W [10, 12, 13, 14, 16, 17, 18, 21, 22] m m264 := W250.trans W269 (by decide)
            have W283 : rf_W [10, 12, 13, 14, 16, 17, 18, 21, 22] m m264 := W251.trans W269 (by decide)
            have B284 : sf_B 0 600 (m264 10) := T267.2.2.1 10
            have B285 : sf_B 0 4 (m264 13) := T267.2.2.1 13
            have B286 : sf_B 0 4 (m264 17) := T267.2.2.1 17
            have B287 : sf_B 0 1 (m264 22) := T267.2.2.1 22
            show pm_R _ 186 67 [.ref 41, .int 2, .int x2_219, .int (m_219 12), .long 0, pm_no] [.int 1] _ _
            have R288 : (m 10).toInt ≤ (m264 10).toInt := (sf_aux76 _ _ _ _ ek245 X_219.2 X271)
            have R289 : (m_219 10).toInt ≤ (m264 10).toInt := (sf_aux79 _ _ _ _ ek245 X_219.2 X271)
            obtain ⟨f290, e291, ct292, bd293⟩ := X270
            refine pm_R_br pm_M186 (pc_q := 77) rfl rfl ?_
            refine pm_R_lo pm_M186 (pc_q := 78) (ls_q := [.ref 41, .int 2, .int 1, .int (m_219 12), .long 0, pm_no]) (st_q := []) rfl rfl rfl ?_
            refine pm_R_lo pm_M186 (pc_q := 79) rfl rfl rfl ?_
            refine pm_R_br pm_M186 (pc_q := 82) (st_q := []) rfl rfl ?_
            refine pm_R_lo pm_M186 (pc_q := 83) rfl rfl rfl ?_
            refine rf_R_get pm_M186 T267 (pc_q := 86) (v := .int (m264 13)) rfl rfl rfl rfl ?_
            refine pm_R_op pm_M186 (pc_q := 87) (st_q := [.int 4, .int (m264 13)]) rfl rfl rfl ?_
            refine pm_R_icmp pm_M186 (t := 95) (pc_q := 90) rfl rfl rfl (fun c294 => ?_) (fun c294 => ?_)
            · have B295 : sf_B 4 4 (m264 13) := sf_eqL c294 sf_k4
              refine pm_R_lo pm_M186 (pc_q := 96) rfl rfl rfl ?_
              refine pm_R_br pm_M186 (pc_q := 99) (st_q := []) rfl rfl ?_
              refine pm_R_lo pm_M186 (pc_q := 100) rfl rfl rfl ?_
              refine pm_R_cv pm_M186 (pc_q := 103) (a := 41) (ra := []) (rest := []) (ls_q := [.ref 41, pm_no, pm_no]) rfl rfl (Or.inl rfl) pm_M179 T267.2.1 rfl (by decide) (Nat.lt_of_lt_of_le (by decide) T267.1) rfl rfl (Nat.le_of_ble_eq_true rfl) rfl rfl ?_
              refine rf_c179 (d := d + 3) T267  (fun m298 w299 h300 T301 F302 W303 X304 X305 => ?_)
              have F306 := F281.trans F302 (by decide)
              have B307 : sf_B 0 4 (m298 17) := by rw [W303 17 (by decide)]; exact B286
              have ek308 : (m298 17).toInt = ((m264 17)).toInt := by rw [W303 17 (by decide)]
              have B309 : sf_B 0 1 (m298 22) := by rw [W303 22 (by decide)]; exact B287
              have ek310 : (m298 22).toInt = ((m264 22)).toInt := by rw [W303 22 (by decide)]
              have W311 : rf_W [10, 12, 13, 14, 16, 17, 18, 21, 22] m m298 := W282.trans W303 (by decide)
              have W312 : rf_W [10, 12, 13, 14, 16, 17, 18, 21, 22] m m298 := W283.trans W303 (by decide)
              have B313 : sf_B 0 600 (m298 10) := T301.2.2.1 10
              have B314 : sf_B 0 4 (m298 13) := T301.2.2.1 13
              show pm_R _ 186 103 [.ref 41, .int 2, .int 1, .int (m_219 12), .long 0, pm_no] [] _ _
              have R315 : (m 10).toInt ≤ (m298 10).toInt := (sf_aux85 _ _ _ _ R288 R289 X304)
              have R316 : (m_219 10).toInt ≤ (m298 10).toInt := (sf_aux86 _ _ _ _ R288 R289 X304)
              refine pm_R_br pm_M186 (pc_q := 2) rfl rfl ?_
              have e317 := (F302.cell (by decide) e291)
              exact ih_219 _ (rf_mu hN_219 (sf_ne0 c231) (sf_aux87 _ _ _ R288 R289) (sf_aux51 _ _ X304) (X305.imp (fun q => (sf_aux55 _ _ q)) (fun q => (sf_aux88 _ q))) B313.2) h300 m298 w299 1 (.int (m_219 12)) (.long 0) (pm_no) T301 F306 W312 sf_k1 rfl rfl ⟨⟨f290, e317, ct292, fun z => (bd293 (sf_aux78 _ _ ek308 z))⟩, (sf_aux80 _ _ _ R315 R316)⟩ rfl
            · have B318 : sf_B 0 3 (m264 13) := sf_neH0 c294 sf_k4 B285
              refine pm_R_lo pm_M186 (pc_q := 91) rfl rfl rfl ?_
              refine pm_R_cv pm_M186 (pc_q := 94) (a := 41) (ra := []) (rest := []) (ls_q := [.ref 41]) rfl rfl (Or.inl rfl) pm_M184 T267.2.1 rfl (by decide) (Nat.lt_of_lt_of_le (by decide) T267.1) rfl rfl (Nat.le_of_ble_eq_true rfl) rfl rfl ?_
              refine pm_R_lo pm_M184 (pc_q := 1) rfl rfl rfl ?_
              refine pm_R_lo pm_M184 (pc_q := 2) rfl rfl rfl ?_
              have B319 : sf_B 0 600 (m264 12) := T267.2.2.1 12
              refine rf_R_get pm_M184 T267 (pc_q := 5) (v := .int (m264 12)) rfl rfl rfl rfl ?_
              refine rf_R_put pm_M184 T267 (pc_q := 8) rfl rfl rfl (by decide) rfl rfl B319 rfl rfl (fun h320 m323 em324 T321 F322 => ?_)
              have F325 := F281.trans F322 (by decide)
              have B326 : sf_B 0 600 (m323 10) := by rw [em324]; exact B284
              have ek327 : (m323 10).toInt = ((m264 10)).toInt := by rw [em324]; rfl
              have B328 : sf_B 0 3 (m323 13) := by rw [em324]; exact B318
              have ek329 : (m323 13).toInt = ((m264 13)).toInt := by rw [em324]; rfl
              have B330 : sf_B 0 4 (m323 17) := by rw [em324]; exact B286
              have ek331 : (m323 17).toInt = ((m264 17)).toInt := by rw [em324]; rfl
              have B332 : sf_B 0 1 (m323 22) := by rw [em324]; exact B287
              have ek333 : (m323 22).toInt = ((m264 22)).toInt := by rw [em324]; rfl
              have B334 : sf_B 0 600 (m323 16) := by rw [em324]; exact B319
              have ek335 : (m323 16).toInt = ((m264 12)).toInt := by rw [em324]; rfl
              have W336 : rf_W [10, 12, 13, 14, 16, 17, 18, 21, 22] m m323 := by rw [em324]; exact W282.put (by decide)
              have W337 : rf_W [10, 12, 13, 14, 16, 17, 18, 21, 22] m m323 := by rw [em324]; exact W283.put (by decide)
              refine pm_R_op pm_M184 (pc_q := 9) (st_q := [.int 0]) rfl rfl rfl ?_
              refine pm_R_ret pm_M184 (r := some (.int 0)) rfl rfl ?_
              show pm_R _ 186 94 [.ref 41, .int 2, .int 1, .int (m_219 12), .long 0, pm_no] [.int 0] _ _
              refine pm_R_lo pm_M186 (pc_q := 95) (ls_q := [.ref 41, .int 2, .int 0, .int (m_219 12), .long 0, pm_no]) (st_q := []) rfl rfl rfl ?_
              refine pm_R_lo pm_M186 (pc_q := 96) rfl rfl rfl ?_
              refine pm_R_br pm_M186 (pc_q := 103) (st_q := []) rfl rfl ?_
              refine pm_R_br pm_M186 (pc_q := 2) rfl rfl ?_
              refine pm_R_lo pm_M186 (pc_q := 3) rfl rfl rfl ?_
              refine pm_R_br pm_M186 (pc_q := 106) (st_q := []) rfl rfl ?_
              refine pm_R_lo pm_M186 (pc_q := 107) rfl rfl rfl ?_
              exact pm_R_ret pm_M186 (r := some (.int 0)) rfl rfl (K0 m323 w265 h320 T321 F325 W336 (sf_aux83 _ _ _ _ ek327 R288 R289))
        · have B338 : sf_B 2 2 (m_219 13) := sf_eqL (Classical.not_not.mp c235) sf_k2
          refine pm_R_lo pm_M186 (pc_q := 27) rfl rfl rfl ?_
          refine rf_R_get pm_M186 T_219 (pc_q := 30) (v := .long w_219) rfl rfl rfl rfl ?_
          refine pm_R_br pm_M186 (pc_q := 34) rfl rfl ?_
          refine pm_R_lo pm_M186 (pc_q := 36) (ls_q := [.ref 41, .int 2, .int x2_219, .int (m_219 12), .long w_219, pm_no]) (st_q := []) rfl rfl rfl ?_
          refine pm_R_lo pm_M186 (pc_q := 37) rfl rfl rfl ?_
          refine pm_R_op pm_M186 (pc_q := 38) (st_q := [.int 1, .ref 41]) rfl rfl rfl ?_
          refine rf_R_put pm_M186 T_219 (pc_q := 41) rfl rfl rfl (by decide) rfl rfl (sf_weak sf_k1 (by decide) (by decide)) rfl rfl (fun h339 m342 em343 T340 F341 => ?_)
          have F344 := F_219.trans F341 (by decide)
          have B345 : sf_B 0 4 (m342 17) := by rw [em343]; exact B227
          have ek346 : (m342 17).toInt = ((m_219 17)).toInt := by rw [em343]; rfl
          have B347 : sf_B 0 600 (m342 10) := by rw [em343]; exact B228
          have ek348 : (m342 10).toInt = ((m_219 10)).toInt := by rw [em343]; rfl
          have B349 : sf_B 2 2 (m342 13) := by rw [em343]; exact B338
          have ek350 : (m342 13).toInt = ((m_219 13)).toInt := by rw [em343]; rfl
          have B351 : sf_B 1 1 (m342 22) := by rw [em343]; exact sf_k1
          have W353 : rf_W [10, 12, 13, 14, 16, 17, 18, 21, 22] m m342 := by rw [em343]; exact W222.put (by decide)
          have W354 : rf_W [10, 12, 13, 14, 16, 17, 18, 21, 22] m m342 := by rw [em343]; exact W_219.put (by decide)
          refine pm_R_lo pm_M186 (pc_q := 42) rfl rfl rfl ?_
          refine pm_R_br pm_M186 (pc_q := 55) (st_q := []) rfl rfl ?_
          refine pm_R_lo pm_M186 (pc_q := 56) rfl rfl rfl ?_
          refine pm_R_op pm_M186 (pc_q := 57) (st_q := [.int 2, .int 2]) rfl rfl rfl ?_
          refine pm_R_br pm_M186 (pc_q := 60) (st_q := []) rfl rfl ?_
          refine pm_R_lo pm_M186 (pc_q := 61) rfl rfl rfl ?_
          refine pm_R_lo pm_M186 (pc_q := 63) rfl rfl rfl ?_
          refine pm_R_lo pm_M186 (pc_q := 64) rfl rfl rfl ?_
          refine pm_R_cv pm_M186 (pc_q := 67) (a := 41) (ra := [.int (m_219 12), .long w_219]) (rest := []) (ls_q := [.ref 41, .long w_219, pm_no, .int (m_219 12), pm_no]) rfl rfl (Or.inl rfl) pm_M189 T340.2.1 rfl (by decide) (Nat.lt_of_lt_of_le (by decide) T340.1) rfl rfl (Nat.le_of_ble_eq_true rfl) rfl rfl ?_
          have e355 := (F341.cell (by decide) e224)
          refine rf_c189 (d := d + 0) T340 B234 (⟨f223, e355, ct225, fun z => (bd226 (sf_aux78 _ _ ek346 z))⟩) (fun m358 w359 h360 T361 F362 W363 X364 => ?_) (fun m367 w368 h369 T370 F371 W372 X373 X374 => ?_)
          · have F375 := F344.trans F362 (by decide)
            have W376 : rf_W [10, 12, 13, 14, 16, 17, 18, 21, 22] m m358 := W353.trans W363 (by decide)
            have W377 : rf_W [10, 12, 13, 14, 16, 17, 18, 21, 22] m m358 := W354.trans W363 (by decide)
            have B378 : sf_B 0 600 (m358 10) := T361.2.2.1 10
            have B379 : sf_B 0 4 (m358 13) := T361.2.2.1 13
            have B380 : sf_B 0 4 (m358 17) := T361.2.2.1 17
            have B381 : sf_B 0 1 (m358 22) := T361.2.2.1 22
            show pm_R _ 186 67 [.ref 41, .int 2, .int x2_219, .int (m_219 12), .long w_219, pm_no] [.int 0] _ _
            have R382 : (m 10).toInt ≤ (m358 10).toInt := (sf_aux76 _ _ _ _ ek348 X_219.2 X364)
            have R383 : (m_219 10).toInt ≤ (m358 10).toInt := (sf_aux79 _ _ _ _ ek348 X_219.2 X364)
            refine pm_R_br pm_M186 (pc_q := 77) rfl rfl ?_
            refine pm_R_lo pm_M186 (pc_q := 78) (ls_q := [.ref 41, .int 2, .int 0, .int (m_219 12), .long w_219, pm_no]) (st_q := []) rfl rfl rfl ?_
            refine pm_R_lo pm_M186 (pc_q := 79) rfl rfl rfl ?_
            refine pm_R_br pm_M186 (pc_q := 95) (st_q := []) rfl rfl ?_
            refine pm_R_lo pm_M186 (pc_q := 96) rfl rfl rfl ?_
            refine pm_R_br pm_M186 (pc_q := 103) (st_q := []) rfl rfl ?_
            refine pm_R_br pm_M186 (pc_q := 2) rfl rfl ?_
            refine pm_R_lo pm_M186 (pc_q := 3) rfl rfl rfl ?_
            refine pm_R_br pm_M186 (pc_q := 106) (st_q := []) rfl rfl ?_
            refine pm_R_lo pm_M186 (pc_q := 107) rfl rfl rfl ?_
            exact pm_R_ret pm_M186 (r := some (.int 0)) rfl rfl (K0 m358 w359 h360 T361 F375 W376 (sf_aux80 _ _ _ R382 R383))
          · have F384 := F344.trans F371 (by decide)
            have W385 : rf_W [10, 12, 13, 14, 16, 17, 18, 21, 22] m m367 := W353.trans W372 (by decide)
            have W386 : rf_W [10, 12, 13, 14, 16, 17, 18, 21, 22] m m367 := W354.trans W372 (by decide)
            have B387 : sf_B 0 600 (m367 10) := T370.2.2.1 10
            have B388 : sf_B 0 4 (m367 13) := T370.2.2.1 13
            have B389 : sf_B 0 4 (m367 17) := T370.2.2.1 17
            have B390 : sf_B 0 1 (m367 22) := T370.2.2.1 22
            show pm_R _ 186 67 [.ref 41, .int 2, .int x2_219, .int (m_219 12), .long w_219, pm_no] [.int 1] _ _
            have R391 : (m 10).toInt ≤ (m367 10).toInt := (sf_aux76 _ _ _ _ ek348 X_219.2 X374)
            have R392 : (m_219 10).toInt ≤ (m367 10).toInt := (sf_aux79 _ _ _ _ ek348 X_219.2 X374)
            obtain ⟨f393, e394, ct395, bd396⟩ := X373
            refine pm_R_br pm_M186 (pc_q := 77) rfl rfl ?_
            refine pm_R_lo pm_M186 (pc_q := 78) (ls_q := [.ref 41, .int 2, .int 1, .int (m_219 12), .long w_219, pm_no]) (st_q := []) rfl rfl rfl ?_
            refine pm_R_lo pm_M186 (pc_q := 79) rfl rfl rfl ?_
            refine pm_R_br pm_M186 (pc_q := 82) (st_q := []) rfl rfl ?_
            refine pm_R_lo pm_M186 (pc_q := 83) rfl rfl rfl ?_
            refine rf_R_get pm_M186 T370 (pc_q := 86) (v := .int (m367 13)) rfl rfl rfl rfl ?_
            refine pm_R_op pm_M186 (pc_q := 87) (st_q := [.int 4, .int (m367 13)]) rfl rfl rfl ?_
            refine pm_R_icmp pm_M186 (t := 95) (pc_q := 90) rfl rfl rfl (fun c397 => ?_) (fun c397 => ?_)
            · have B398 : sf_B 4 4 (m367 13) := sf_eqL c397 sf_k4
              refine pm_R_lo pm_M186 (pc_q := 96) rfl rfl rfl ?_
              refine pm_R_br pm_M186 (pc_q := 99) (st_q := []) rfl rfl ?_
              refine pm_R_lo pm_M186 (pc_q := 100) rfl rfl rfl ?_
              refine pm_R_cv pm_M186 (pc_q := 103) (a := 41) (ra := []) (rest := []) (ls_q := [.ref 41, pm_no, pm_no]) rfl rfl (Or.inl rfl) pm_M179 T370.2.1 rfl (by decide) (Nat.lt_of_lt_of_le (by decide) T370.1) rfl rfl (Nat.le_of_ble_eq_true rfl) rfl rfl ?_
              refine rf_c179 (d := d + 3) T370  (fun m401 w402 h403 T404 F405 W406 X407 X408 => ?_)
              have F409 := F384.trans F405 (by decide)
              have B410 : sf_B 0 4 (m401 17) := by rw [W406 17 (by decide)]; exact B389
              have ek411 : (m401 17).toInt = ((m367 17)).toInt := by rw [W406 17 (by decide)]
              have B412 : sf_B 0 1 (m401 22) := by rw [W406 22 (by decide)]; exact B390
              have ek413 : (m401 22).toInt = ((m367 22)).toInt := by rw [W406 22 (by decide)]
              have W414 : rf_W [10, 12, 13, 14, 16, 17, 18, 21, 22] m m401 := W385.trans W406 (by decide)
              have W415 : rf_W [10, 12, 13, 14, 16, 17, 18, 21, 22] m m401 := W386.trans W406 (by decide)
              have B416 : sf_B 0 600 (m401 10) := T404.2.2.1 10
              have B417 : sf_B 0 4 (m401 13) := T404.2.2.1 13
              show pm_R _ 186 103 [.ref 41, .int 2, .int 1, .int (m_219 12), .long w_219, pm_no] [] _ _
              have R418 : (m 10).toInt ≤ (m401 10).toInt := (sf_aux85 _ _ _ _ R391 R392 X407)
              have R419 : (m_219 10).toInt ≤ (m401 10).toInt := (sf_aux86 _ _ _ _ R391 R392 X407)
              refine pm_R_br pm_M186 (pc_q := 2) rfl rfl ?_
              have e420 := (F405.cell (by decide) e394)
              exact ih_219 _ (rf_mu hN_219 (sf_ne0 c231) (sf_aux87 _ _ _ R391 R392) (sf_aux51 _ _ X407) (X408.imp (fun q => (sf_aux55 _ _ q)) (fun q => (sf_aux88 _ q))) B416.2) h403 m401 w402 1 (.int (m_219 12)) (.long w_219) (pm_no) T404 F409 W415 sf_k1 rfl rfl ⟨⟨f393, e420, ct395, fun z => (bd396 (sf_aux78 _ _ ek411 z))⟩, (sf_aux80 _ _ _ R418 R419)⟩ rfl
            · have B421 : sf_B 0 3 (m367 13) := sf_neH0 c397 sf_k4 B388
              refine pm_R_lo pm_M186 (pc_q := 91) rfl rfl rfl ?_
              refine pm_R_cv pm_M186 (pc_q := 94) (a := 41) (ra := []) (rest := []) (ls_q := [.ref 41]) rfl rfl (Or.inl rfl) pm_M184 T370.2.1 rfl (by decide) (Nat.lt_of_lt_of_le (by decide) T370.1) rfl rfl (Nat.le_of_ble_eq_true rfl) rfl rfl ?_
              refine pm_R_lo pm_M184 (pc_q := 1) rfl rfl rfl ?_
              refine pm_R_lo pm_M184 (pc_q := 2) rfl rfl rfl ?_
              have B422 : sf_B 0 600 (m367 12) := T370.2.2.1 12
              refine rf_R_get pm_M184 T370 (pc_q := 5) (v := .int (m367 12)) rfl rfl rfl rfl ?_
              refine rf_R_put pm_M184 T370 (pc_q := 8) rfl rfl rfl (by decide) rfl rfl B422 rfl rfl (fun h423 m426 em427 T424 F425 => ?_)
              have F428 := F384.trans F425 (by decide)
              have B429 : sf_B 0 600 (m426 10) := by rw [em427]; exact B387
              have ek430 : (m426 10).toInt = ((m367 10)).toInt := by rw [em427]; rfl
              have B431 : sf_B 0 3 (m426 13) := by rw [em427]; exact B421
              have ek432 : (m426 13).toInt = ((m367 13)).toInt := by rw [em427]; rfl
              have B433 : sf_B 0 4 (m426 17) := by rw [em427]; exact B389
              have ek434 : (m426 17).toInt = ((m367 17)).toInt := by rw [em427]; rfl
              have B435 : sf_B 0 1 (m426 22) := by rw [em427]; exact B390
              have ek436 : (m426 22).toInt = ((m367 22)).toInt := by rw [em427]; rfl
              have B437 : sf_B 0 600 (m426 16) := by rw [em427]; exact B422
              have ek438 : (m426 16).toInt = ((m367 12)).toInt := by rw [em427]; rfl
              have W439 : rf_W [10, 12, 13, 14, 16, 17, 18, 21, 22] m m426 := by rw [em427]; exact W385.put (by decide)
              have W440 : rf_W [10, 12, 13, 14, 16, 17, 18, 21, 22] m m426 := by rw [em427]; exact W386.put (by decide)
              refine pm_R_op pm_M184 (pc_q := 9) (st_q := [.int 0]) rfl rfl rfl ?_
              refine pm_R_ret pm_M184 (r := some (.int 0)) rfl rfl ?_
              show pm_R _ 186 94 [.ref 41, .int 2, .int 1, .int (m_219 12), .long w_219, pm_no] [.int 0] _ _
              refine pm_R_lo pm_M186 (pc_q := 95) (ls_q := [.ref 41, .int 2, .int 0, .int (m_219 12), .long w_219, pm_no]) (st_q := []) rfl rfl rfl ?_
              refine pm_R_lo pm_M186 (pc_q := 96) rfl rfl rfl ?_
              refine pm_R_br pm_M186 (pc_q := 103) (st_q := []) rfl rfl ?_
              refine pm_R_br pm_M186 (pc_q := 2) rfl rfl ?_
              refine pm_R_lo pm_M186 (pc_q := 3) rfl rfl rfl ?_
              refine pm_R_br pm_M186 (pc_q := 106) (st_q := []) rfl rfl ?_
              refine pm_R_lo pm_M186 (pc_q := 107) rfl rfl rfl ?_
              exact pm_R_ret pm_M186 (r := some (.int 0)) rfl rfl (K0 m426 w368 h423 T424 F428 W439 (sf_aux83 _ _ _ _ ek430 R391 R392))
  exact L_219 _ h m w 1 (pm_no) (pm_no) (pm_no) T (rf_G.refl [41, 51, 52] h) (rf_W.refl _ _) sf_k1 rfl rfl ⟨⟨f2, e3, ct4, fun z => (bd5 z)⟩, (sf_aux50 _ )⟩ rfl

set_option maxRecDepth 100000 in
set_option maxHeartbeats 4000000 in
/-- SilentTableModel.lines -/
theorem rf_c186_3 {d : Nat} {m : Nat → Int32} {w : Int64} {h : pm_H} {Q : Option Value → pm_H → Prop}  (T : rf_T m w h) (X : rf_I 3 (m 17) h) (K0 : ∀ (m_q : Nat → Int32) (w_q : Int64) (h_q : pm_H), rf_T m_q w_q h_q → rf_G [41, 51, 52] h h_q → rf_W [10, 12, 13, 14, 16, 17, 18, 21, 22] m m_q → (m 10).toInt ≤ (m_q 10).toInt → Q (some (.int 0)) h_q) (K1 : ∀ (m_q : Nat → Int32) (w_q : Int64) (h_q : pm_H), rf_T m_q w_q h_q → rf_G [41, 51, 52] h h_q → rf_W [10, 12, 13, 14, 16, 17, 18, 21, 22] m m_q → rf_I 3 (m_q 17) h_q → (m 10).toInt ≤ (m_q 10).toInt → Q (some (.int 1)) h_q) : pm_R (d + 5) 186 0 [.ref 41, .int 3, pm_no, pm_no, pm_no, pm_no] [] h Q := by
  have B1 : sf_B 0 600 (m 10) := T.2.2.1 10
  obtain ⟨f2, e3, ct4, bd5⟩ := X
  have B6 : sf_B 0 4 (m 17) := T.2.2.1 17
  refine pm_R_op pm_M186 (pc_q := 1) (st_q := [.int 1]) rfl rfl rfl ?_
  refine pm_R_lo pm_M186 (pc_q := 2) (ls_q := [.ref 41, .int 3, .int 1, pm_no, pm_no, pm_no]) (st_q := []) rfl rfl rfl ?_
  have L_219 : ∀ (N : Nat) (h_219 : pm_H) (m_219 : Nat → Int32) (w_219 : Int64) (x2_219 : Int32) (g3_219 : Value) (g4_219 : Value) (g5_219 : Value), rf_T m_219 w_219 h_219 → rf_G [41, 51, 52] h h_219 → rf_W [10, 12, 13, 14, 16, 17, 18, 21, 22] m m_219 → sf_B 1 1 x2_219 → g3_219.category = 1 → g5_219.category = 1 → rf_I 3 (m_219 17) h_219 ∧ (m 10).toInt ≤ (m_219 10).toInt → ((600 - (m_219 10).toInt).toNat + (if (m_219 13).toInt = 0 then 0 else 1)) = N → pm_R (d + 5) 186 2 [.ref 41, .int 3, .int x2_219, g3_219, g4_219, g5_219] [] h_219 Q := by
    intro N
    induction N using Nat.strongRecOn with
    | ind N ih_219 =>
      intro h_219 m_219 w_219 x2_219 g3_219 g4_219 g5_219 T_219 F_219 W_219 Bx2_219 Cg3_219 Cg5_219 X_219 hN_219
      have W222 : rf_W [10, 12, 13, 14, 16, 17, 18, 21, 22] m m_219 := (rf_W.refl [10, 12, 13, 14, 16, 17, 18, 21, 22] m).trans W_219 (by decide)
      obtain ⟨f223, e224, ct225, bd226⟩ := X_219.1
      have B227 : sf_B 0 4 (m_219 17) := T_219.2.2.1 17
      have B228 : sf_B 0 600 (m_219 10) := T_219.2.2.1 10
      refine pm_R_lo pm_M186 (pc_q := 3) rfl rfl rfl ?_
      refine pm_R_ifc pm_M186 (t := 106) (pc_q := 6) rfl rfl rfl (fun c229 => absurd c229 (sf_neq1 Bx2_219 sf_k0 (by decide))) (fun c229 => ?_)
      skip
      refine pm_R_lo pm_M186 (pc_q := 7) rfl rfl rfl ?_
      have B230 : sf_B 0 4 (m_219 13) := T_219.2.2.1 13
      refine rf_R_get pm_M186 T_219 (pc_q := 10) (v := .int (m_219 13)) rfl rfl rfl rfl ?_
      refine pm_R_ifc pm_M186 (t := 106) (pc_q := 13) rfl rfl rfl (fun c231 => ?_) (fun c231 => ?_)
      · have B232 : sf_B 0 0 (m_219 13) := sf_eqL c231 sf_k0
        refine pm_R_lo pm_M186 (pc_q := 107) rfl rfl rfl ?_
        rw [sf_pt2 Bx2_219 sf_k1]
        exact pm_R_ret pm_M186 (r := some (.int 1)) rfl rfl (K1 m_219 w_219 h_219 T_219 F_219 W222 (⟨f223, e224, ct225, fun z => (bd226 z)⟩) (sf_aux51 _ _ X_219.2))
      · have B233 : sf_B 1 4 (m_219 13) := sf_neL0 c231 sf_k0 B230
        refine pm_R_lo pm_M186 (pc_q := 14) rfl rfl rfl ?_
        have B234 : sf_B 0 600 (m_219 12) := T_219.2.2.1 12
        refine rf_R_get pm_M186 T_219 (pc_q := 17) (v := .int (m_219 12)) rfl rfl rfl rfl ?_
        refine pm_R_lo pm_M186 (pc_q := 18) (ls_q := [.ref 41, .int 3, .int x2_219, .int (m_219 12), g4_219, g5_219]) (st_q := []) rfl rfl rfl ?_
        refine pm_R_lo pm_M186 (pc_q := 19) rfl rfl rfl ?_
        refine rf_R_get pm_M186 T_219 (pc_q := 22) (v := .int (m_219 13)) rfl rfl rfl rfl ?_
        refine pm_R_op pm_M186 (pc_q := 23) (st_q := [.int 2, .int (m_219 13)]) rfl rfl rfl ?_
        refine pm_R_icmp pm_M186 (t := 33) (pc_q := 26) rfl rfl rfl (fun c235 => ?_) (fun c235 => ?_)
        · skip
          refine pm_R_op pm_M186 (pc_q := 34) (st_q := [.long 0]) rfl rfl rfl ?_
          refine pm_R_lo pm_M186 (pc_q := 36) (ls_q := [.ref 41, .int 3, .int x2_219, .int (m_219 12), .long 0, pm_no]) (st_q := []) rfl rfl rfl ?_
          refine pm_R_lo pm_M186 (pc_q := 37) rfl rfl rfl ?_
          refine pm_R_op pm_M186 (pc_q := 38) (st_q := [.int 1, .ref 41]) rfl rfl rfl ?_
          refine rf_R_put pm_M186 T_219 (pc_q := 41) rfl rfl rfl (by decide) rfl rfl (sf_weak sf_k1 (by decide) (by decide)) rfl rfl (fun h236 m239 em240 T237 F238 => ?_)
          have F241 := F_219.trans F238 (by decide)
          have B242 : sf_B 0 4 (m239 17) := by rw [em240]; exact B227
          have ek243 : (m239 17).toInt = ((m_219 17)).toInt := by rw [em240]; rfl
          have B244 : sf_B 0 600 (m239 10) := by rw [em240]; exact B228
          have ek245 : (m239 10).toInt = ((m_219 10)).toInt := by rw [em240]; rfl
          have B246 : sf_B 1 4 (m239 13) := by rw [em240]; exact B233
          have ek247 : (m239 13).toInt = ((m_219 13)).toInt := by rw [em240]; rfl
          have B248 : sf_B 1 1 (m239 22) := by rw [em240]; exact sf_k1
          have W250 : rf_W [10, 12, 13, 14, 16, 17, 18, 21, 22] m m239 := by rw [em240]; exact W222.put (by decide)
          have W251 : rf_W [10, 12, 13, 14, 16, 17, 18, 21, 22] m m239 := by rw [em240]; exact W_219.put (by decide)
          refine pm_R_lo pm_M186 (pc_q := 42) rfl rfl rfl ?_
          refine pm_R_br pm_M186 (pc_q := 55) (st_q := []) rfl rfl ?_
          refine pm_R_lo pm_M186 (pc_q := 56) rfl rfl rfl ?_
          refine pm_R_op pm_M186 (pc_q := 57) (st_q := [.int 2, .int 3]) rfl rfl rfl ?_
          refine pm_R_br pm_M186 (pc_q := 70) (st_q := []) rfl rfl ?_
          refine pm_R_lo pm_M186 (pc_q := 71) rfl rfl rfl ?_
          refine pm_R_lo pm_M186 (pc_q := 73) rfl rfl rfl ?_
          refine pm_R_lo pm_M186 (pc_q := 74) rfl rfl rfl ?_
          refine pm_R_cv pm_M186 (pc_q := 77) (a := 41) (ra := [.int (m_219 12), .long 0]) (rest := []) (ls_q := [.ref 41, .long 0, pm_no, .int (m_219 12), pm_no]) rfl rfl (Or.inl rfl) pm_M192 T237.2.1 rfl (by decide) (Nat.lt_of_lt_of_le (by decide) T237.1) rfl rfl (Nat.le_of_ble_eq_true rfl) rfl rfl ?_
          have e252 := (F238.cell (by decide) e224)
          refine rf_c192 (d := d + 1) T237 B234 (⟨f223, e252, ct225, fun z => (bd226 (sf_aux78 _ _ ek243 z))⟩) (fun m255 w256 h257 T258 F259 W260 X261 => ?_) (fun m264 w265 h266 T267 F268 W269 X270 X271 => ?_)
          · have F272 := F241.trans F259 (by decide)
            have W273 : rf_W [10, 12, 13, 14, 16, 17, 18, 21, 22] m m255 := W250.trans W260 (by decide)
            have W274 : rf_W [10, 12, 13, 14, 16, 17, 18, 21, 22] m m255 := W251.trans W260 (by decide)
            have B275 : sf_B 0 600 (m255 10) := T258.2.2.1 10
            have B276 : sf_B 0 4 (m255 13) := T258.2.2.1 13
            have B277 : sf_B 0 4 (m255 17) := T258.2.2.1 17
            have B278 : sf_B 0 1 (m255 22) := T258.2.2.1 22
            show pm_R _ 186 77 [.ref 41, .int 3, .int x2_219, .int (m_219 12), .long 0, pm_no] [.int 0] _ _
            have R279 : (m 10).toInt ≤ (m255 10).toInt := (sf_aux76 _ _ _ _ ek245 X_219.2 X261)
            have R280 : (m_219 10).toInt ≤ (m255 10).toInt := (sf_aux79 _ _ _ _ ek245 X_219.2 X261)
            refine pm_R_lo pm_M186 (pc_q := 78) (ls_q := [.ref 41, .int 3, .int 0, .int (m_219 12), .long 0, pm_no]) (st_q := []) rfl rfl rfl ?_
            refine pm_R_lo pm_M186 (pc_q := 79) rfl rfl rfl ?_
            refine pm_R_br pm_M186 (pc_q := 95) (st_q := []) rfl rfl ?_
            refine pm_R_lo pm_M186 (pc_q := 96) rfl rfl rfl ?_
            refine pm_R_br pm_M186 (pc_q := 103) (st_q := []) rfl rfl ?_
            refine pm_R_br pm_M186 (pc_q := 2) rfl rfl ?_
            refine pm_R_lo pm_M186 (pc_q := 3) rfl rfl rfl ?_
            refine pm_R_br pm_M186 (pc_q := 106) (st_q := []) rfl rfl ?_
            refine pm_R_lo pm_M186 (pc_q := 107) rfl rfl rfl ?_
            exact pm_R_ret pm_M186 (r := some (.int 0)) rfl rfl (K0 m255 w256 h257 T258 F272 W273 (sf_aux80 _ _ _ R279 R280))
          · have F281 := F241.trans F268 (by decide)
            have W282 : rf_W [10, 12, 13, 14, 16, 17, 18, 21, 22] m m264 := W250.trans W269 (by decide)
            have W283 : rf_W [10, 12, 13, 14, 16, 17, 18, 21, 22] m m264 := W251.trans W269 (by decide)
            have B284 : sf_B 0 600 (m264 10) := T267.2.2.1 10
            have B285 : sf_B 0 4 (m264 13) := T267.2.2.1 13
            have B286 : sf_B 0 4 (m264 17) := T267.2.2.1 17
            have B287 : sf_B 0 1 (m264 22) := T267.2.2.1 22
            show pm_R _ 186 77 [.ref 41, .int 3, .int x2_219, .int (m_219 12), .long 0, pm_no] [.int 1] _ _
            have R288 : (m 10).toInt ≤ (m264 10).toInt := (sf_aux76 _ _ _ _ ek245 X_219.2 X271)
            have R289 : (m_219 10).toInt ≤ (m264 10).toInt := (sf_aux79 _ _ _ _ ek245 X_219.2 X271)
            obtain ⟨f290, e291, ct292, bd293⟩ := X270
            refine pm_R_lo pm_M186 (pc_q := 78) (ls_q := [.ref 41, .int 3, .int 1, .int (m_219 12), .long 0, pm_no]) (st_q := []) rfl rfl rfl ?_
            refine pm_R_lo pm_M186 (pc_q := 79) rfl rfl rfl ?_
            refine pm_R_br pm_M186 (pc_q := 82) (st_q := []) rfl rfl ?_
            refine pm_R_lo pm_M186 (pc_q := 83) rfl rfl rfl ?_
            refine rf_R_get pm_M186 T267 (pc_q := 86) (v := .int (m264 13)) rfl rfl rfl rfl ?_
            refine pm_R_op pm_M186 (pc_q := 87) (st_q := [.int 4, .int (m264 13)]) rfl rfl rfl ?_
            refine pm_R_icmp pm_M186 (t := 95) (pc_q := 90) rfl rfl rfl (fun c294 => ?_) (fun c294 => ?_)
            · have B295 : sf_B 4 4 (m264 13) := sf_eqL c294 sf_k4
              refine pm_R_lo pm_M186 (pc_q := 96) rfl rfl rfl ?_
              refine pm_R_br pm_M186 (pc_q := 99) (st_q := []) rfl rfl ?_
              refine pm_R_lo pm_M186 (pc_q := 100) rfl rfl rfl ?_
              refine pm_R_cv pm_M186 (pc_q := 103) (a := 41) (ra := []) (rest := []) (ls_q := [.ref 41, pm_no, pm_no]) rfl rfl (Or.inl rfl) pm_M179 T267.2.1 rfl (by decide) (Nat.lt_of_lt_of_le (by decide) T267.1) rfl rfl (Nat.le_of_ble_eq_true rfl) rfl rfl ?_
              refine rf_c179 (d := d + 3) T267  (fun m298 w299 h300 T301 F302 W303 X304 X305 => ?_)
              have F306 := F281.trans F302 (by decide)
              have B307 : sf_B 0 4 (m298 17) := by rw [W303 17 (by decide)]; exact B286
              have ek308 : (m298 17).toInt = ((m264 17)).toInt := by rw [W303 17 (by decide)]
              have B309 : sf_B 0 1 (m298 22) := by rw [W303 22 (by decide)]; exact B287
              have ek310 : (m298 22).toInt = ((m264 22)).toInt := by rw [W303 22 (by decide)]
              have W311 : rf_W [10, 12, 13, 14, 16, 17, 18, 21, 22] m m298 := W282.trans W303 (by decide)
              have W312 : rf_W [10, 12, 13, 14, 16, 17, 18, 21, 22] m m298 := W283.trans W303 (by decide)
              have B313 : sf_B 0 600 (m298 10) := T301.2.2.1 10
              have B314 : sf_B 0 4 (m298 13) := T301.2.2.1 13
              show pm_R _ 186 103 [.ref 41, .int 3, .int 1, .int (m_219 12), .long 0, pm_no] [] _ _
              have R315 : (m 10).toInt ≤ (m298 10).toInt := (sf_aux85 _ _ _ _ R288 R289 X304)
              have R316 : (m_219 10).toInt ≤ (m298 10).toInt := (sf_aux86 _ _ _ _ R288 R289 X304)
              refine pm_R_br pm_M186 (pc_q := 2) rfl rfl ?_
              have e317 := (F302.cell (by decide) e291)
              exact ih_219 _ (rf_mu hN_219 (sf_ne0 c231) (sf_aux87 _ _ _ R288 R289) (sf_aux51 _ _ X304) (X305.imp (fun q => (sf_aux55 _ _ q)) (fun q => (sf_aux88 _ q))) B313.2) h300 m298 w299 1 (.int (m_219 12)) (.long 0) (pm_no) T301 F306 W312 sf_k1 rfl rfl ⟨⟨f290, e317, ct292, fun z => (bd293 (sf_aux78 _ _ ek308 z))⟩, (sf_aux80 _ _ _ R315 R316)⟩ rfl
            · have B318 : sf_B 0 3 (m264 13) := sf_neH0 c294 sf_k4 B285
              refine pm_R_lo pm_M186 (pc_q := 91) rfl rfl rfl ?_
              refine pm_R_cv pm_M186 (pc_q := 94) (a := 41) (ra := []) (rest := []) (ls_q := [.ref 41]) rfl rfl (Or.inl rfl) pm_M184 T267.2.1 rfl (by decide) (Nat.lt_of_lt_of_le (by decide) T267.1) rfl rfl (Nat.le_of_ble_eq_true rfl) rfl rfl ?_
              refine pm_R_lo pm_M184 (pc_q := 1) rfl rfl rfl ?_
              refine pm_R_lo pm_M184 (pc_q := 2) rfl rfl rfl ?_
              have B319 : sf_B 0 600 (m264 12) := T267.2.2.1 12
              refine rf_R_get pm_M184 T267 (pc_q := 5) (v := .int (m264 12)) rfl rfl rfl rfl ?_
              refine rf_R_put pm_M184 T267 (pc_q := 8) rfl rfl rfl (by decide) rfl rfl B319 rfl rfl (fun h320 m323 em324 T321 F322 => ?_)
              have F325 := F281.trans F322 (by decide)
              have B326 : sf_B 0 600 (m323 10) := by rw [em324]; exact B284
              have ek327 : (m323 10).toInt = ((m264 10)).toInt := by rw [em324]; rfl
              have B328 : sf_B 0 3 (m323 13) := by rw [em324]; exact B318
              have ek329 : (m323 13).toInt = ((m264 13)).toInt := by rw [em324]; rfl
              have B330 : sf_B 0 4 (m323 17) := by rw [em324]; exact B286
              have ek331 : (m323 17).toInt = ((m264 17)).toInt := by rw [em324]; rfl
              have B332 : sf_B 0 1 (m323 22) := by rw [em324]; exact B287
              have ek333 : (m323 22).toInt = ((m264 22)).toInt := by rw [em324]; rfl
              have B334 : sf_B 0 600 (m323 16) := by rw [em324]; exact B319
              have ek335 : (m323 16).toInt = ((m264 12)).toInt := by rw [em324]; rfl
              have W336 : rf_W [10, 12, 13, 14, 16, 17, 18, 21, 22] m m323 := by rw [em324]; exact W282.put (by decide)
              have W337 : rf_W [10, 12, 13, 14, 16, 17, 18, 21, 22] m m323 := by rw [em324]; exact W283.put (by decide)
              refine pm_R_op pm_M184 (pc_q := 9) (st_q := [.int 0]) rfl rfl rfl ?_
              refine pm_R_ret pm_M184 (r := some (.int 0)) rfl rfl ?_
              show pm_R _ 186 94 [.ref 41, .int 3, .int 1, .int (m_219 12), .long 0, pm_no] [.int 0] _ _
              refine pm_R_lo pm_M186 (pc_q := 95) (ls_q := [.ref 41, .int 3, .int 0, .int (m_219 12), .long 0, pm_no]) (st_q := []) rfl rfl rfl ?_
              refine pm_R_lo pm_M186 (pc_q := 96) rfl rfl rfl ?_
              refine pm_R_br pm_M186 (pc_q := 103) (st_q := []) rfl rfl ?_
              refine pm_R_br pm_M186 (pc_q := 2) rfl rfl ?_
              refine pm_R_lo pm_M186 (pc_q := 3) rfl rfl rfl ?_
              refine pm_R_br pm_M186 (pc_q := 106) (st_q := []) rfl rfl ?_
              refine pm_R_lo pm_M186 (pc_q := 107) rfl rfl rfl ?_
              exact pm_R_ret pm_M186 (r := some (.int 0)) rfl rfl (K0 m323 w265 h320 T321 F325 W336 (sf_aux83 _ _ _ _ ek327 R288 R289))
        · have B338 : sf_B 2 2 (m_219 13) := sf_eqL (Classical.not_not.mp c235) sf_k2
          refine pm_R_lo pm_M186 (pc_q := 27) rfl rfl rfl ?_
          refine rf_R_get pm_M186 T_219 (pc_q := 30) (v := .long w_219) rfl rfl rfl rfl ?_
          refine pm_R_br pm_M186 (pc_q := 34) rfl rfl ?_
          refine pm_R_lo pm_M186 (pc_q := 36) (ls_q := [.ref 41, .int 3, .int x2_219, .int (m_219 12), .long w_219, pm_no]) (st_q := []) rfl rfl rfl ?_
          refine pm_R_lo pm_M186 (pc_q := 37) rfl rfl rfl ?_
          refine pm_R_op pm_M186 (pc_q := 38) (st_q := [.int 1, .ref 41]) rfl rfl rfl ?_
          refine rf_R_put pm_M186 T_219 (pc_q := 41) rfl rfl rfl (by decide) rfl rfl (sf_weak sf_k1 (by decide) (by decide)) rfl rfl (fun h339 m342 em343 T340 F341 => ?_)
          have F344 := F_219.trans F341 (by decide)
          have B345 : sf_B 0 4 (m342 17) := by rw [em343]; exact B227
          have ek346 : (m342 17).toInt = ((m_219 17)).toInt := by rw [em343]; rfl
          have B347 : sf_B 0 600 (m342 10) := by rw [em343]; exact B228
          have ek348 : (m342 10).toInt = ((m_219 10)).toInt := by rw [em343]; rfl
          have B349 : sf_B 2 2 (m342 13) := by rw [em343]; exact B338
          have ek350 : (m342 13).toInt = ((m_219 13)).toInt := by rw [em343]; rfl
          have B351 : sf_B 1 1 (m342 22) := by rw [em343]; exact sf_k1
          have W353 : rf_W [10, 12, 13, 14, 16, 17, 18, 21, 22] m m342 := by rw [em343]; exact W222.put (by decide)
          have W354 : rf_W [10, 12, 13, 14, 16, 17, 18, 21, 22] m m342 := by rw [em343]; exact W_219.put (by decide)
          refine pm_R_lo pm_M186 (pc_q := 42) rfl rfl rfl ?_
          refine pm_R_br pm_M186 (pc_q := 55) (st_q := []) rfl rfl ?_
          refine pm_R_lo pm_M186 (pc_q := 56) rfl rfl rfl ?_
          refine pm_R_op pm_M186 (pc_q := 57) (st_q := [.int 2, .int 3]) rfl rfl rfl ?_
          refine pm_R_br pm_M186 (pc_q := 70) (st_q := []) rfl rfl ?_
          refine pm_R_lo pm_M186 (pc_q := 71) rfl rfl rfl ?_
          refine pm_R_lo pm_M186 (pc_q := 73) rfl rfl rfl ?_
          refine pm_R_lo pm_M186 (pc_q := 74) rfl rfl rfl ?_
          refine pm_R_cv pm_M186 (pc_q := 77) (a := 41) (ra := [.int (m_219 12), .long w_219]) (rest := []) (ls_q := [.ref 41, .long w_219, pm_no, .int (m_219 12), pm_no]) rfl rfl (Or.inl rfl) pm_M192 T340.2.1 rfl (by decide) (Nat.lt_of_lt_of_le (by decide) T340.1) rfl rfl (Nat.le_of_ble_eq_true rfl) rfl rfl ?_
          have e355 := (F341.cell (by decide) e224)
          refine rf_c192 (d := d + 1) T340 B234 (⟨f223, e355, ct225, fun z => (bd226 (sf_aux78 _ _ ek346 z))⟩) (fun m358 w359 h360 T361 F362 W363 X364 => ?_) (fun m367 w368 h369 T370 F371 W372 X373 X374 => ?_)
          · have F375 := F344.trans F362 (by decide)
            have W376 : rf_W [10, 12, 13, 14, 16, 17, 18, 21, 22] m m358 := W353.trans W363 (by decide)
            have W377 : rf_W [10, 12, 13, 14, 16, 17, 18, 21, 22] m m358 := W354.trans W363 (by decide)
            have B378 : sf_B 0 600 (m358 10) := T361.2.2.1 10
            have B379 : sf_B 0 4 (m358 13) := T361.2.2.1 13
            have B380 : sf_B 0 4 (m358 17) := T361.2.2.1 17
            have B381 : sf_B 0 1 (m358 22) := T361.2.2.1 22
            show pm_R _ 186 77 [.ref 41, .int 3, .int x2_219, .int (m_219 12), .long w_219, pm_no] [.int 0] _ _
            have R382 : (m 10).toInt ≤ (m358 10).toInt := (sf_aux76 _ _ _ _ ek348 X_219.2 X364)
            have R383 : (m_219 10).toInt ≤ (m358 10).toInt := (sf_aux79 _ _ _ _ ek348 X_219.2 X364)
            refine pm_R_lo pm_M186 (pc_q := 78) (ls_q := [.ref 41, .int 3, .int 0, .int (m_219 12), .long w_219, pm_no]) (st_q := []) rfl rfl rfl ?_
            refine pm_R_lo pm_M186 (pc_q := 79) rfl rfl rfl ?_
            refine pm_R_br pm_M186 (pc_q := 95) (st_q := []) rfl rfl ?_
            refine pm_R_lo pm_M186 (pc_q := 96) rfl rfl rfl ?_
            refine pm_R_br pm_M186 (pc_q := 103) (st_q := []) rfl rfl ?_
            refine pm_R_br pm_M186 (pc_q := 2) rfl rfl ?_
            refine pm_R_lo pm_M186 (pc_q := 3) rfl rfl rfl ?_
            refine pm_R_br pm_M186 (pc_q := 106) (st_q := []) rfl rfl ?_
            refine pm_R_lo pm_M186 (pc_q := 107) rfl rfl rfl ?_
            exact pm_R_ret pm_M186 (r := some (.int 0)) rfl rfl (K0 m358 w359 h360 T361 F375 W376 (sf_aux80 _ _ _ R382 R383))
          · have F384 := F344.trans F371 (by decide)
            have W385 : rf_W [10, 12, 13, 14, 16, 17, 18, 21, 22] m m367 := W353.trans W372 (by decide)
            have W386 : rf_W [10, 12, 13, 14, 16, 17, 18, 21, 22] m m367 := W354.trans W372 (by decide)
            have B387 : sf_B 0 600 (m367 10) := T370.2.2.1 10
            have B388 : sf_B 0 4 (m367 13) := T370.2.2.1 13
            have B389 : sf_B 0 4 (m367 17) := T370.2.2.1 17
            have B390 : sf_B 0 1 (m367 22) := T370.2.2.1 22
            show pm_R _ 186 77 [.ref 41, .int 3, .int x2_219, .int (m_219 12), .long w_219, pm_no] [.int 1] _ _
            have R391 : (m 10).toInt ≤ (m367 10).toInt := (sf_aux76 _ _ _ _ ek348 X_219.2 X374)
            have R392 : (m_219 10).toInt ≤ (m367 10).toInt := (sf_aux79 _ _ _ _ ek348 X_219.2 X374)
            obtain ⟨f393, e394, ct395, bd396⟩ := X373
            refine pm_R_lo pm_M186 (pc_q := 78) (ls_q := [.ref 41, .int 3, .int 1, .int (m_219 12), .long w_219, pm_no]) (st_q := []) rfl rfl rfl ?_
            refine pm_R_lo pm_M186 (pc_q := 79) rfl rfl rfl ?_
            refine pm_R_br pm_M186 (pc_q := 82) (st_q := []) rfl rfl ?_
            refine pm_R_lo pm_M186 (pc_q := 83) rfl rfl rfl ?_
            refine rf_R_get pm_M186 T370 (pc_q := 86) (v := .int (m367 13)) rfl rfl rfl rfl ?_
            refine pm_R_op pm_M186 (pc_q := 87) (st_q := [.int 4, .int (m367 13)]) rfl rfl rfl ?_
            refine pm_R_icmp pm_M186 (t := 95) (pc_q := 90) rfl rfl rfl (fun c397 => ?_) (fun c397 => ?_)
            · have B398 : sf_B 4 4 (m367 13) := sf_eqL c397 sf_k4
              refine pm_R_lo pm_M186 (pc_q := 96) rfl rfl rfl ?_
              refine pm_R_br pm_M186 (pc_q := 99) (st_q := []) rfl rfl ?_
              refine pm_R_lo pm_M186 (pc_q := 100) rfl rfl rfl ?_
              refine pm_R_cv pm_M186 (pc_q := 103) (a := 41) (ra := []) (rest := []) (ls_q := [.ref 41, pm_no, pm_no]) rfl rfl (Or.inl rfl) pm_M179 T370.2.1 rfl (by decide) (Nat.lt_of_lt_of_le (by decide) T370.1) rfl rfl (Nat.le_of_ble_eq_true rfl) rfl rfl ?_
              refine rf_c179 (d := d + 3) T370  (fun m401 w402 h403 T404 F405 W406 X407 X408 => ?_)
              have F409 := F384.trans F405 (by decide)
              have B410 : sf_B 0 4 (m401 17) := by rw [W406 17 (by decide)]; exact B389
              have ek411 : (m401 17).toInt = ((m367 17)).toInt := by rw [W406 17 (by decide)]
              have B412 : sf_B 0 1 (m401 22) := by rw [W406 22 (by decide)]; exact B390
              have ek413 : (m401 22).toInt = ((m367 22)).toInt := by rw [W406 22 (by decide)]
              have W414 : rf_W [10, 12, 13, 14, 16, 17, 18, 21, 22] m m401 := W385.trans W406 (by decide)
              have W415 : rf_W [10, 12, 13, 14, 16, 17, 18, 21, 22] m m401 := W386.trans W406 (by decide)
              have B416 : sf_B 0 600 (m401 10) := T404.2.2.1 10
              have B417 : sf_B 0 4 (m401 13) := T404.2.2.1 13
              show pm_R _ 186 103 [.ref 41, .int 3, .int 1, .int (m_219 12), .long w_219, pm_no] [] _ _
              have R418 : (m 10).toInt ≤ (m401 10).toInt := (sf_aux85 _ _ _ _ R391 R392 X407)
              have R419 : (m_219 10).toInt ≤ (m401 10).toInt := (sf_aux86 _ _ _ _ R391 R392 X407)
              refine pm_R_br pm_M186 (pc_q := 2) rfl rfl ?_
              have e420 := (F405.cell (by decide) e394)
              exact ih_219 _ (rf_mu hN_219 (sf_ne0 c231) (sf_aux87 _ _ _ R391 R392) (sf_aux51 _ _ X407) (X408.imp (fun q => (sf_aux55 _ _ q)) (fun q => (sf_aux88 _ q))) B416.2) h403 m401 w402 1 (.int (m_219 12)) (.long w_219) (pm_no) T404 F409 W415 sf_k1 rfl rfl ⟨⟨f393, e420, ct395, fun z => (bd396 (sf_aux78 _ _ ek411 z))⟩, (sf_aux80 _ _ _ R418 R419)⟩ rfl
            · have B421 : sf_B 0 3 (m367 13) := sf_neH0 c397 sf_k4 B388
              refine pm_R_lo pm_M186 (pc_q := 91) rfl rfl rfl ?_
              refine pm_R_cv pm_M186 (pc_q := 94) (a := 41) (ra := []) (rest := []) (ls_q := [.ref 41]) rfl rfl (Or.inl rfl) pm_M184 T370.2.1 rfl (by decide) (Nat.lt_of_lt_of_le (by decide) T370.1) rfl rfl (Nat.le_of_ble_eq_true rfl) rfl rfl ?_
              refine pm_R_lo pm_M184 (pc_q := 1) rfl rfl rfl ?_
              refine pm_R_lo pm_M184 (pc_q := 2) rfl rfl rfl ?_
              have B422 : sf_B 0 600 (m367 12) := T370.2.2.1 12
              refine rf_R_get pm_M184 T370 (pc_q := 5) (v := .int (m367 12)) rfl rfl rfl rfl ?_
              refine rf_R_put pm_M184 T370 (pc_q := 8) rfl rfl rfl (by decide) rfl rfl B422 rfl rfl (fun h423 m426 em427 T424 F425 => ?_)
              have F428 := F384.trans F425 (by decide)
              have B429 : sf_B 0 600 (m426 10) := by rw [em427]; exact B387
              have ek430 : (m426 10).toInt = ((m367 10)).toInt := by rw [em427]; rfl
              have B431 : sf_B 0 3 (m426 13) := by rw [em427]; exact B421
              have ek432 : (m426 13).toInt = ((m367 13)).toInt := by rw [em427]; rfl
              have B433 : sf_B 0 4 (m426 17) := by rw [em427]; exact B389
              have ek434 : (m426 17).toInt = ((m367 17)).toInt := by rw [em427]; rfl
              have B435 : sf_B 0 1 (m426 22) := by rw [em427]; exact B390
              have ek436 : (m426 22).toInt = ((m367 22)).toInt := by rw [em427]; rfl
              have B437 : sf_B 0 600 (m426 16) := by rw [em427]; exact B422
              have ek438 : (m426 16).toInt = ((m367 12)).toInt := by rw [em427]; rfl
              have W439 : rf_W [10, 12, 13, 14, 16, 17, 18, 21, 22] m m426 := by rw [em427]; exact W385.put (by decide)
              have W440 : rf_W [10, 12, 13, 14, 16, 17, 18, 21, 22] m m426 := by rw [em427]; exact W386.put (by decide)
              refine pm_R_op pm_M184 (pc_q := 9) (st_q := [.int 0]) rfl rfl rfl ?_
              refine pm_R_ret pm_M184 (r := some (.int 0)) rfl rfl ?_
              show pm_R _ 186 94 [.ref 41, .int 3, .int 1, .int (m_219 12), .long w_219, pm_no] [.int 0] _ _
              refine pm_R_lo pm_M186 (pc_q := 95) (ls_q := [.ref 41, .int 3, .int 0, .int (m_219 12), .long w_219, pm_no]) (st_q := []) rfl rfl rfl ?_
              refine pm_R_lo pm_M186 (pc_q := 96) rfl rfl rfl ?_
              refine pm_R_br pm_M186 (pc_q := 103) (st_q := []) rfl rfl ?_
              refine pm_R_br pm_M186 (pc_q := 2) rfl rfl ?_
              refine pm_R_lo pm_M186 (pc_q := 3) rfl rfl rfl ?_
              refine pm_R_br pm_M186 (pc_q := 106) (st_q := []) rfl rfl ?_
              refine pm_R_lo pm_M186 (pc_q := 107) rfl rfl rfl ?_
              exact pm_R_ret pm_M186 (r := some (.int 0)) rfl rfl (K0 m426 w368 h423 T424 F428 W439 (sf_aux83 _ _ _ _ ek430 R391 R392))
  exact L_219 _ h m w 1 (pm_no) (pm_no) (pm_no) T (rf_G.refl [41, 51, 52] h) (rf_W.refl _ _) sf_k1 rfl rfl ⟨⟨f2, e3, ct4, fun z => (bd5 z)⟩, (sf_aux50 _ )⟩ rfl
