theorem sf_aux78 (v0 v1 v2 : Int) (q0 : v0 ≤ v1) (q1 : v1 ≤ v2) : v1 ≤ v2 := by omega
theorem sf_aux79 (v0 v1 : Int) (q0 : v0 = v1) (q1 : v0 = 0) : v1 = 0 := by omega
theorem sf_aux80 (v0 v1 v2 v3 : Int) (q0 : v0 = v1) (q1 : v2 ≤ v1) (q2 : v0 ≤ v3) : v1 ≤ v3 := by omega
theorem sf_aux81 (v0 v1 v2 : Int) (q0 : v0 ≤ v1) (q1 : v2 ≤ v1) : v0 ≤ v1 := by omega
theorem sf_aux82 (v0 v1 : Int) (q0 : v0 ≤ v1) : v1 ≤ v1 := by omega
theorem sf_aux83 (v0 v1 v2 v3 : Int) (q0 : v0 = v1) (q1 : v2 ≤ v1) (q2 : v3 ≤ v1) : v2 ≤ v0 := by omega
theorem sf_aux84 (v0 v1 v2 : Int) (q0 : v0 = v1) (q1 : v2 ≤ v1) : v1 ≤ v0 := by omega
set_option maxRecDepth 100000 in
set_option maxHeartbeats 4000000 in
/-- SilentTableModel.rowText -/
theorem rf_c181 {d : Nat} {m : Nat → Int32} {w : Int64} {h : pm_H} {Q : Option Value → pm_H → Prop}  (T : rf_T m w h) (X : rf_I 1 (m 17) h) (K0 : ∀ (m' : Nat → Int32) (w' : Int64) (h' : pm_H), rf_T m' w' h' → rf_G [41, 51, 52] h h' → rf_W [10, 12, 13, 14, 16, 17, 18, 22] m m' → (m 10).toInt ≤ (m' 10).toInt → Q (some (.int 0)) h') (K1 : ∀ (m' : Nat → Int32) (w' : Int64) (h' : pm_H), rf_T m' w' h' → rf_G [41, 51, 52] h h' → rf_W [10, 12, 13, 14, 16, 17, 18, 22] m m' → rf_I 1 (m' 17) h' → (m 10).toInt ≤ (m' 10).toInt → Q (some (.int 1)) h') : pm_R (d + 3) 181 0 [.ref 41] [] h Q := by
  have B1 : sf_B 0 600 (m 10) := T.2.2.1 10
  obtain ⟨f2, e3, ct4, bd5⟩ := X
  have B6 : sf_B 0 4 (m 17) := T.2.2.1 17
  have L_372 : ∀ (N : Nat) (h_372 : pm_H) (m_372 : Nat → Int32) (w_372 : Int64), rf_T m_372 w_372 h_372 → rf_G [41, 51, 52] h h_372 → rf_W [10, 12, 13, 14, 16, 17, 18, 22] m m_372 → rf_I 1 (m_372 17) h_372 ∧ (m 10).toInt ≤ (m_372 10).toInt → ((600 - (m_372 10).toInt).toNat + (if (m_372 13).toInt = 0 then 0 else 1)) = N → pm_R (d + 3) 181 0 [.ref 41] [] h_372 Q := by
    intro N
    induction N using Nat.strongRecOn with
    | ind N ih_372 =>
      intro h_372 m_372 w_372 T_372 F_372 W_372 X_372 hN_372
      have W375 : rf_W [10, 12, 13, 14, 16, 17, 18, 22] m m_372 := (rf_W.refl [10, 12, 13, 14, 16, 17, 18, 22] m).trans W_372 (by decide)
      obtain ⟨f376, e377, ct378, bd379⟩ := X_372.1
      have B380 : sf_B 0 4 (m_372 17) := T_372.2.2.1 17
      have B381 : sf_B 0 600 (m_372 10) := T_372.2.2.1 10
      refine pm_R_lo pm_M181 (pc' := 1) rfl rfl rfl ?_
      have B382 : sf_B 0 4 (m_372 13) := T_372.2.2.1 13
      refine rf_R_get pm_M181 T_372 (pc' := 4) (v := .int (m_372 13)) rfl rfl rfl rfl ?_
      refine pm_R_ifc pm_M181 (t := 61) (pc' := 7) rfl rfl rfl (fun c383 => ?_) (fun c383 => ?_)
      · have B384 : sf_B 0 0 (m_372 13) := sf_eqL c383 sf_k0
        refine pm_R_op pm_M181 (pc' := 62) (st' := [.int 1]) rfl rfl rfl ?_
        exact pm_R_ret pm_M181 (r := some (.int 1)) rfl rfl (K1 m_372 w_372 h_372 T_372 F_372 W375 (⟨f376, e377, ct378, fun z => (bd379 z)⟩) (sf_aux51 _ _ X_372.2))
      · have B385 : sf_B 1 4 (m_372 13) := sf_neL0 c383 sf_k0 B382
        refine pm_R_lo pm_M181 (pc' := 8) rfl rfl rfl ?_
        refine rf_R_get pm_M181 T_372 (pc' := 11) (v := .int (m_372 13)) rfl rfl rfl rfl ?_
        refine pm_R_op pm_M181 (pc' := 12) (st' := [.int 3, .int (m_372 13)]) rfl rfl rfl ?_
        refine pm_R_icmp pm_M181 (t := 35) (pc' := 15) rfl rfl rfl (fun c386 => ?_) (fun c386 => ?_)
        · skip
          refine pm_R_lo pm_M181 (pc' := 36) rfl rfl rfl ?_
          refine pm_R_op pm_M181 (pc' := 37) (st' := [.int 0, .ref 41]) rfl rfl rfl ?_
          refine pm_R_op pm_M181 (pc' := 39) (st' := [.int 9, .int 0, .ref 41]) rfl rfl rfl ?_
          refine pm_R_op pm_M181 (pc' := 40) (st' := [.int (-1), .int 9, .int 0, .ref 41]) rfl rfl rfl ?_
          refine pm_R_cv pm_M181 (pc' := 43) (a := 41) (ra := [.int (-1), .int 9, .int 0]) (rest := []) (ls' := [.ref 41, .int 0, .int 9, .int (-1)]) rfl rfl (Or.inl rfl) pm_M183 T_372.2.1 rfl (by decide) (Nat.lt_of_lt_of_le (by decide) T_372.1) rfl rfl (Nat.le_of_ble_eq_true rfl) rfl rfl ?_
          obtain ⟨f387, e388, b389⟩ := T_372.2.2.2.1 52 (by decide) (by decide)
          have B390 : sf_B 0 1 (m_372 22) := T_372.2.2.1 22
          refine rf_c183_0_9 (d := d + 0) T_372  (fun m393 w394 h395 T396 F397 W398 X399 => ?_) (fun m402 w403 h404 T405 F406 W407 X408 X409 X410 X411 X412 => ?_) (fun m415 w416 h417 T418 F419 W420 X421 X422 X423 B424 B425 => ?_)
          · have F426 := F_372.trans F397 (by decide)
            have W427 : rf_W [10, 12, 13, 14, 16, 17, 18, 22] m m393 := W375.trans W398 (by decide)
            have W428 : rf_W [10, 12, 13, 14, 16, 17, 18, 22] m m393 := W_372.trans W398 (by decide)
            have B429 : sf_B 0 600 (m393 10) := T396.2.2.1 10
            have B430 : sf_B 0 4 (m393 17) := T396.2.2.1 17
            have B431 : sf_B 0 1 (m393 22) := T396.2.2.1 22
            show pm_R _ 181 43 [.ref 41] [.int 0] _ _
            have R432 : (m 10).toInt ≤ (m393 10).toInt := (sf_aux70 _ _ _ X_372.2 X399)
            have R433 : (m_372 10).toInt ≤ (m393 10).toInt := (sf_aux78 _ _ _ X_372.2 X399)
            refine pm_R_br pm_M181 (pc' := 46) (st' := []) rfl rfl ?_
            refine pm_R_op pm_M181 (pc' := 47) (st' := [.int 0]) rfl rfl rfl ?_
            exact pm_R_ret pm_M181 (r := some (.int 0)) rfl rfl (K0 m393 w394 h395 T396 F426 W427 (sf_aux81 _ _ _ R432 R433))
          · have F434 := F_372.trans F406 (by decide)
            have W435 : rf_W [10, 12, 13, 14, 16, 17, 18, 22] m m402 := W375.trans W407 (by decide)
            have W436 : rf_W [10, 12, 13, 14, 16, 17, 18, 22] m m402 := W_372.trans W407 (by decide)
            have B437 : sf_B 0 600 (m402 10) := T405.2.2.1 10
            have B438 : sf_B 0 4 (m402 17) := T405.2.2.1 17
            have B439 : sf_B 0 1 (m402 22) := T405.2.2.1 22
            show pm_R _ 181 43 [.ref 41] [.int 1] _ _
            have R440 : (m 10).toInt ≤ (m402 10).toInt := (sf_aux70 _ _ _ X_372.2 X412)
            have R441 : (m_372 10).toInt ≤ (m402 10).toInt := (sf_aux78 _ _ _ X_372.2 X412)
            obtain ⟨v442, B443, e444⟩ := X408 _ e388
            refine pm_R_br pm_M181 (pc' := 48) (st' := []) rfl rfl ?_
            refine pm_R_lo pm_M181 (pc' := 49) rfl rfl rfl ?_
            refine pm_R_op pm_M181 (pc' := 50) (st' := [.int 0, .ref 41]) rfl rfl rfl ?_
            refine pm_R_op pm_M181 (pc' := 51) (st' := [.int 1, .int 0, .ref 41]) rfl rfl rfl ?_
            refine pm_R_op pm_M181 (pc' := 52) (st' := [.int 1, .int 1, .int 0, .ref 41]) rfl rfl rfl ?_
            refine pm_R_op pm_M181 (pc' := 54) (st' := [.int 12, .int 1, .int 1, .int 0, .ref 41]) rfl rfl rfl ?_
            refine pm_R_op pm_M181 (pc' := 55) (st' := [.int 0, .int 12, .int 1, .int 1, .int 0, .ref 41]) rfl rfl rfl ?_
            refine pm_R_cv pm_M181 (pc' := 58) (a := 41) (ra := [.int 0, .int 12, .int 1, .int 1, .int 0]) (rest := []) (ls' := [.ref 41, .int 0, .int 1, .int 1, .int 12, .int 0, pm_no, pm_no]) rfl rfl (Or.inl rfl) pm_M185 T405.2.1 rfl (by decide) (Nat.lt_of_lt_of_le (by decide) T405.1) rfl rfl (Nat.le_of_ble_eq_true rfl) rfl rfl ?_
            have e445 := (F406.cell (by decide) e377)
            refine rf_c185_o (d := d + 2) T405 (⟨f376, e445, ct378, fun z => (bd379 (sf_aux79 _ _ X409 z))⟩) (fun _ g eg => by rw [e444] at eg; cases eg; exact sf_eqL sf_upd_eq B443) (fun m448 w449 h450 T451 F452 W453 X454 => ?_)
            have F455 := F434.trans F452 (by decide)
            have B456 : sf_B 0 600 (m448 10) := by rw [W453 10 (by decide)]; exact B437
            have ek457 : (m448 10).toInt = ((m402 10)).toInt := by rw [W453 10 (by decide)]
            have B458 : sf_B 0 4 (m448 17) := by rw [W453 17 (by decide)]; exact (sf_eqT X409 B380)
            have ek459 : (m448 17).toInt = ((m_372 17)).toInt := by rw [W453 17 (by decide)]; exact X409
            have B460 : sf_B 0 1 (m448 22) := by rw [W453 22 (by decide)]; exact (sf_eqT X410 B390)
            have ek461 : (m448 22).toInt = ((m_372 22)).toInt := by rw [W453 22 (by decide)]; exact X410
            have W462 : rf_W [10, 12, 13, 14, 16, 17, 18, 22] m m448 := W435.trans W453 (by decide)
            have W463 : rf_W [10, 12, 13, 14, 16, 17, 18, 22] m m448 := W436.trans W453 (by decide)
            show pm_R _ 181 58 [.ref 41] [] _ _
            obtain ⟨f464, e465, ct466, bd467⟩ := X454
            refine pm_R_br pm_M181 (pc' := 0) rfl rfl ?_
            have B468 : sf_B 0 4 (m448 13) := T451.2.2.1 13
            exact ih_372 _ (rf_mu hN_372 (sf_ne0 c383) (sf_aux82 _ _ X_372.2) X412 X411 B456.2) h450 m448 w449  T451 F455 W463  ⟨⟨f464, e465, ct466, fun z => (bd467 z)⟩, (sf_aux83 _ _ _ _ ek457 R440 R441)⟩ rfl
          · have F469 := F_372.trans F419 (by decide)
            have W470 : rf_W [10, 12, 13, 14, 16, 17, 18, 22] m m415 := W375.trans W420 (by decide)
            have W471 : rf_W [10, 12, 13, 14, 16, 17, 18, 22] m m415 := W_372.trans W420 (by decide)
            have B472 : sf_B 0 600 (m415 10) := T418.2.2.1 10
            have B473 : sf_B 0 4 (m415 17) := T418.2.2.1 17
            have B474 : sf_B 0 1 (m415 22) := T418.2.2.1 22
            show pm_R _ 181 43 [.ref 41] [.int 1] _ _
            have R475 : (m 10).toInt ≤ (m415 10).toInt := (sf_aux70 _ _ _ X_372.2 X423)
            have R476 : (m_372 10).toInt ≤ (m415 10).toInt := (sf_aux78 _ _ _ X_372.2 X423)
            obtain ⟨v477, B478, e479⟩ := X421 _ e388
            refine pm_R_br pm_M181 (pc' := 48) (st' := []) rfl rfl ?_
            refine pm_R_lo pm_M181 (pc' := 49) rfl rfl rfl ?_
            refine pm_R_op pm_M181 (pc' := 50) (st' := [.int 0, .ref 41]) rfl rfl rfl ?_
            refine pm_R_op pm_M181 (pc' := 51) (st' := [.int 1, .int 0, .ref 41]) rfl rfl rfl ?_
            refine pm_R_op pm_M181 (pc' := 52) (st' := [.int 1, .int 1, .int 0, .ref 41]) rfl rfl rfl ?_
            refine pm_R_op pm_M181 (pc' := 54) (st' := [.int 12, .int 1, .int 1, .int 0, .ref 41]) rfl rfl rfl ?_
            refine pm_R_op pm_M181 (pc' := 55) (st' := [.int 0, .int 12, .int 1, .int 1, .int 0, .ref 41]) rfl rfl rfl ?_
            refine pm_R_cv pm_M181 (pc' := 58) (a := 41) (ra := [.int 0, .int 12, .int 1, .int 1, .int 0]) (rest := []) (ls' := [.ref 41, .int 0, .int 1, .int 1, .int 12, .int 0, pm_no, pm_no]) rfl rfl (Or.inl rfl) pm_M185 T418.2.1 rfl (by decide) (Nat.lt_of_lt_of_le (by decide) T418.1) rfl rfl (Nat.le_of_ble_eq_true rfl) rfl rfl ?_
            have e480 := (F419.cell (by decide) e377)
            refine rf_c185_o (d := d + 2) T418 (⟨f376, e480, ct378, fun z => (sf_pos B424 (by decide) z)⟩) (fun z => sf_pos B424 (by decide) z) (fun m483 w484 h485 T486 F487 W488 X489 => ?_)
            have F490 := F469.trans F487 (by decide)
            have B491 : sf_B 0 600 (m483 10) := by rw [W488 10 (by decide)]; exact B472
            have ek492 : (m483 10).toInt = ((m415 10)).toInt := by rw [W488 10 (by decide)]
            have B493 : sf_B 1 4 (m483 17) := by rw [W488 17 (by decide)]; exact B424
            have ek494 : (m483 17).toInt = ((m415 17)).toInt := by rw [W488 17 (by decide)]
            have B495 : sf_B 0 0 (m483 22) := by rw [W488 22 (by decide)]; exact B425
            have ek496 : (m483 22).toInt = ((m415 22)).toInt := by rw [W488 22 (by decide)]
            have W497 : rf_W [10, 12, 13, 14, 16, 17, 18, 22] m m483 := W470.trans W488 (by decide)
            have W498 : rf_W [10, 12, 13, 14, 16, 17, 18, 22] m m483 := W471.trans W488 (by decide)
            show pm_R _ 181 58 [.ref 41] [] _ _
            obtain ⟨f499, e500, ct501, bd502⟩ := X489
            refine pm_R_br pm_M181 (pc' := 0) rfl rfl ?_
            have B503 : sf_B 0 4 (m483 13) := T486.2.2.1 13
            exact ih_372 _ (rf_mu hN_372 (sf_ne0 c383) (sf_aux82 _ _ X_372.2) X423 X422 B491.2) h485 m483 w484  T486 F490 W498  ⟨⟨f499, e500, ct501, fun z => (sf_pos B493 (by decide) z)⟩, (sf_aux83 _ _ _ _ ek492 R475 R476)⟩ rfl
        · have B504 : sf_B 3 3 (m_372 13) := sf_eqL (Classical.not_not.mp c386) sf_k3
          refine pm_R_lo pm_M181 (pc' := 16) rfl rfl rfl ?_
          refine rf_R_get pm_M181 T_372 (pc' := 19) (v := .ref 51) rfl rfl rfl rfl ?_
          refine pm_R_op pm_M181 (pc' := 20) (st' := [.int 0, .ref 51]) rfl rfl rfl ?_
          refine pm_R_iald pm_M181 (pc' := 21) (v := (f376 0)) rfl e377 (Nat.lt_of_lt_of_le (by decide) T_372.1) rfl rfl rfl ?_
          refine pm_R_op pm_M181 (pc' := 23) (st' := [.int 12, .int (f376 0)]) rfl rfl rfl ?_
          refine pm_R_icmp pm_M181 (t := 35) (pc' := 26) rfl rfl rfl (fun c507 => ?_) (fun c507 => ?_)
          · have B508 : sf_B 0 11 (f376 0) := sf_neH0 c507 sf_k12 ct378
            refine pm_R_lo pm_M181 (pc' := 36) rfl rfl rfl ?_
            refine pm_R_op pm_M181 (pc' := 37) (st' := [.int 0, .ref 41]) rfl rfl rfl ?_
            refine pm_R_op pm_M181 (pc' := 39) (st' := [.int 9, .int 0, .ref 41]) rfl rfl rfl ?_
            refine pm_R_op pm_M181 (pc' := 40) (st' := [.int (-1), .int 9, .int 0, .ref 41]) rfl rfl rfl ?_
            refine pm_R_cv pm_M181 (pc' := 43) (a := 41) (ra := [.int (-1), .int 9, .int 0]) (rest := []) (ls' := [.ref 41, .int 0, .int 9, .int (-1)]) rfl rfl (Or.inl rfl) pm_M183 T_372.2.1 rfl (by decide) (Nat.lt_of_lt_of_le (by decide) T_372.1) rfl rfl (Nat.le_of_ble_eq_true rfl) rfl rfl ?_
            obtain ⟨f509, e510, b511⟩ := T_372.2.2.2.1 52 (by decide) (by decide)
            have B512 : sf_B 0 1 (m_372 22) := T_372.2.2.1 22
            refine rf_c183_0_9 (d := d + 0) T_372  (fun m515 w516 h517 T518 F519 W520 X521 => ?_) (fun m524 w525 h526 T527 F528 W529 X530 X531 X532 X533 X534 => ?_) (fun m537 w538 h539 T540 F541 W542 X543 X544 X545 B546 B547 => ?_)
            · have F548 := F_372.trans F519 (by decide)
              have W549 : rf_W [10, 12, 13, 14, 16, 17, 18, 22] m m515 := W375.trans W520 (by decide)
              have W550 : rf_W [10, 12, 13, 14, 16, 17, 18, 22] m m515 := W_372.trans W520 (by decide)
              have B551 : sf_B 0 600 (m515 10) := T518.2.2.1 10
              have B552 : sf_B 0 4 (m515 17) := T518.2.2.1 17
              have B553 : sf_B 0 1 (m515 22) := T518.2.2.1 22
              show pm_R _ 181 43 [.ref 41] [.int 0] _ _
              have R554 : (m 10).toInt ≤ (m515 10).toInt := (sf_aux70 _ _ _ X_372.2 X521)
              have R555 : (m_372 10).toInt ≤ (m515 10).toInt := (sf_aux78 _ _ _ X_372.2 X521)
              refine pm_R_br pm_M181 (pc' := 46) (st' := []) rfl rfl ?_
              refine pm_R_op pm_M181 (pc' := 47) (st' := [.int 0]) rfl rfl rfl ?_
              exact pm_R_ret pm_M181 (r := some (.int 0)) rfl rfl (K0 m515 w516 h517 T518 F548 W549 (sf_aux81 _ _ _ R554 R555))
            · have F556 := F_372.trans F528 (by decide)
              have W557 : rf_W [10, 12, 13, 14, 16, 17, 18, 22] m m524 := W375.trans W529 (by decide)
              have W558 : rf_W [10, 12, 13, 14, 16, 17, 18, 22] m m524 := W_372.trans W529 (by decide)
              have B559 : sf_B 0 600 (m524 10) := T527.2.2.1 10
              have B560 : sf_B 0 4 (m524 17) := T527.2.2.1 17
              have B561 : sf_B 0 1 (m524 22) := T527.2.2.1 22
              show pm_R _ 181 43 [.ref 41] [.int 1] _ _
              have R562 : (m 10).toInt ≤ (m524 10).toInt := (sf_aux70 _ _ _ X_372.2 X534)
              have R563 : (m_372 10).toInt ≤ (m524 10).toInt := (sf_aux78 _ _ _ X_372.2 X534)
              obtain ⟨v564, B565, e566⟩ := X530 _ e510
              refine pm_R_br pm_M181 (pc' := 48) (st' := []) rfl rfl ?_
              refine pm_R_lo pm_M181 (pc' := 49) rfl rfl rfl ?_
              refine pm_R_op pm_M181 (pc' := 50) (st' := [.int 0, .ref 41]) rfl rfl rfl ?_
              refine pm_R_op pm_M181 (pc' := 51) (st' := [.int 1, .int 0, .ref 41]) rfl rfl rfl ?_
              refine pm_R_op pm_M181 (pc' := 52) (st' := [.int 1, .int 1, .int 0, .ref 41]) rfl rfl rfl ?_
              refine pm_R_op pm_M181 (pc' := 54) (st' := [.int 12, .int 1, .int 1, .int 0, .ref 41]) rfl rfl rfl ?_
              refine pm_R_op pm_M181 (pc' := 55) (st' := [.int 0, .int 12, .int 1, .int 1, .int 0, .ref 41]) rfl rfl rfl ?_
              refine pm_R_cv pm_M181 (pc' := 58) (a := 41) (ra := [.int 0, .int 12, .int 1, .int 1, .int 0]) (rest := []) (ls' := [.ref 41, .int 0, .int 1, .int 1, .int 12, .int 0, pm_no, pm_no]) rfl rfl (Or.inl rfl) pm_M185 T527.2.1 rfl (by decide) (Nat.lt_of_lt_of_le (by decide) T527.1) rfl rfl (Nat.le_of_ble_eq_true rfl) rfl rfl ?_
              have e567 := (F528.cell (by decide) e377)
              refine rf_c185_o (d := d + 2) T527 (⟨f376, e567, ct378, fun z => (bd379 (sf_aux79 _ _ X531 z))⟩) (fun _ g eg => by rw [e566] at eg; cases eg; exact sf_eqL sf_upd_eq B565) (fun m570 w571 h572 T573 F574 W575 X576 => ?_)
              have F577 := F556.trans F574 (by decide)
              have B578 : sf_B 0 600 (m570 10) := by rw [W575 10 (by decide)]; exact B559
              have ek579 : (m570 10).toInt = ((m524 10)).toInt := by rw [W575 10 (by decide)]
              have B580 : sf_B 0 4 (m570 17) := by rw [W575 17 (by decide)]; exact (sf_eqT X531 B380)
              have ek581 : (m570 17).toInt = ((m_372 17)).toInt := by rw [W575 17 (by decide)]; exact X531
              have B582 : sf_B 0 1 (m570 22) := by rw [W575 22 (by decide)]; exact (sf_eqT X532 B512)
              have ek583 : (m570 22).toInt = ((m_372 22)).toInt := by rw [W575 22 (by decide)]; exact X532
              have W584 : rf_W [10, 12, 13, 14, 16, 17, 18, 22] m m570 := W557.trans W575 (by decide)
              have W585 : rf_W [10, 12, 13, 14, 16, 17, 18, 22] m m570 := W558.trans W575 (by decide)
              show pm_R _ 181 58 [.ref 41] [] _ _
              obtain ⟨f586, e587, ct588, bd589⟩ := X576
              refine pm_R_br pm_M181 (pc' := 0) rfl rfl ?_
              have B590 : sf_B 0 4 (m570 13) := T573.2.2.1 13
              exact ih_372 _ (rf_mu hN_372 (sf_ne0 c383) (sf_aux82 _ _ X_372.2) X534 X533 B578.2) h572 m570 w571  T573 F577 W585  ⟨⟨f586, e587, ct588, fun z => (bd589 z)⟩, (sf_aux83 _ _ _ _ ek579 R562 R563)⟩ rfl
            · have F591 := F_372.trans F541 (by decide)
              have W592 : rf_W [10, 12, 13, 14, 16, 17, 18, 22] m m537 := W375.trans W542 (by decide)
              have W593 : rf_W [10, 12, 13, 14, 16, 17, 18, 22] m m537 := W_372.trans W542 (by decide)
              have B594 : sf_B 0 600 (m537 10) := T540.2.2.1 10
              have B595 : sf_B 0 4 (m537 17) := T540.2.2.1 17
              have B596 : sf_B 0 1 (m537 22) := T540.2.2.1 22
              show pm_R _ 181 43 [.ref 41] [.int 1] _ _
              have R597 : (m 10).toInt ≤ (m537 10).toInt := (sf_aux70 _ _ _ X_372.2 X545)
              have R598 : (m_372 10).toInt ≤ (m537 10).toInt := (sf_aux78 _ _ _ X_372.2 X545)
              obtain ⟨v599, B600, e601⟩ := X543 _ e510
              refine pm_R_br pm_M181 (pc' := 48) (st' := []) rfl rfl ?_
              refine pm_R_lo pm_M181 (pc' := 49) rfl rfl rfl ?_
              refine pm_R_op pm_M181 (pc' := 50) (st' := [.int 0, .ref 41]) rfl rfl rfl ?_
              refine pm_R_op pm_M181 (pc' := 51) (st' := [.int 1, .int 0, .ref 41]) rfl rfl rfl ?_
              refine pm_R_op pm_M181 (pc' := 52) (st' := [.int 1, .int 1, .int 0, .ref 41]) rfl rfl rfl ?_
              refine pm_R_op pm_M181 (pc' := 54) (st' := [.int 12, .int 1, .int 1, .int 0, .ref 41]) rfl rfl rfl ?_
              refine pm_R_op pm_M181 (pc' := 55) (st' := [.int 0, .int 12, .int 1, .int 1, .int 0, .ref 41]) rfl rfl rfl ?_
              refine pm_R_cv pm_M181 (pc' := 58) (a := 41) (ra := [.int 0, .int 12, .int 1, .int 1, .int 0]) (rest := []) (ls' := [.ref 41, .int 0, .int 1, .int 1, .int 12, .int 0, pm_no, pm_no]) rfl rfl (Or.inl rfl) pm_M185 T540.2.1 rfl (by decide) (Nat.lt_of_lt_of_le (by decide) T540.1) rfl rfl (Nat.le_of_ble_eq_true rfl) rfl rfl ?_
              have e602 := (F541.cell (by decide) e377)
              refine rf_c185_o (d := d + 2) T540 (⟨f376, e602, ct378, fun z => (sf_pos B546 (by decide) z)⟩) (fun z => sf_pos B546 (by decide) z) (fun m605 w606 h607 T608 F609 W610 X611 => ?_)
              have F612 := F591.trans F609 (by decide)
              have B613 : sf_B 0 600 (m605 10) := by rw [W610 10 (by decide)]; exact B594
              have ek614 : (m605 10).toInt = ((m537 10)).toInt := by rw [W610 10 (by decide)]
              have B615 : sf_B 1 4 (m605 17) := by rw [W610 17 (by decide)]; exact B546
              have ek616 : (m605 17).toInt = ((m537 17)).toInt := by rw [W610 17 (by decide)]
              have B617 : sf_B 0 0 (m605 22) := by rw [W610 22 (by decide)]; exact B547
              have ek618 : (m605 22).toInt = ((m537 22)).toInt := by rw [W610 22 (by decide)]
              have W619 : rf_W [10, 12, 13, 14, 16, 17, 18, 22] m m605 := W592.trans W610 (by decide)
              have W620 : rf_W [10, 12, 13, 14, 16, 17, 18, 22] m m605 := W593.trans W610 (by decide)
              show pm_R _ 181 58 [.ref 41] [] _ _
              obtain ⟨f621, e622, ct623, bd624⟩ := X611
              refine pm_R_br pm_M181 (pc' := 0) rfl rfl ?_
              have B625 : sf_B 0 4 (m605 13) := T608.2.2.1 13
              exact ih_372 _ (rf_mu hN_372 (sf_ne0 c383) (sf_aux82 _ _ X_372.2) X545 X544 B613.2) h607 m605 w606  T608 F612 W620  ⟨⟨f621, e622, ct623, fun z => (sf_pos B615 (by decide) z)⟩, (sf_aux83 _ _ _ _ ek614 R597 R598)⟩ rfl
          · have B626 : sf_B 12 12 (f376 0) := sf_eqL (Classical.not_not.mp c507) sf_k12
            refine pm_R_lo pm_M181 (pc' := 27) rfl rfl rfl ?_
            refine pm_R_op pm_M181 (pc' := 28) (st' := [.int 3, .ref 41]) rfl rfl rfl ?_
            refine pm_R_lo pm_M181 (pc' := 29) rfl rfl rfl ?_
            have B627 : sf_B 0 600 (m_372 12) := T_372.2.2.1 12
            refine rf_R_get pm_M181 T_372 (pc' := 32) (v := .int (m_372 12)) rfl rfl rfl rfl ?_
            refine pm_R_cv pm_M181 (pc' := 35) (a := 41) (ra := [.int (m_372 12), .int 3]) (rest := []) (ls' := [.ref 41, .int 3, .int (m_372 12)]) rfl rfl (Or.inl rfl) pm_M182 T_372.2.1 rfl (by decide) (Nat.lt_of_lt_of_le (by decide) T_372.1) rfl rfl (Nat.le_of_ble_eq_true rfl) rfl rfl ?_
            refine rf_c182 (d := d + 2) T_372 (sf_weak sf_k3 (by decide) (by decide)) B627 (fun m630 w631 h632 T633 F634 W635 B636 => ?_)
            have F637 := F_372.trans F634 (by decide)
            have B638 : sf_B 0 600 (m630 10) := by rw [W635 10 (by decide)]; exact B381
            have ek639 : (m630 10).toInt = ((m_372 10)).toInt := by rw [W635 10 (by decide)]
            have B640 : sf_B 3 3 (m630 13) := by rw [W635 13 (by decide)]; exact B504
            have W641 : rf_W [10, 12, 13, 14, 16, 17, 18, 22] m m630 := W375.trans W635 (by decide)
            have W642 : rf_W [10, 12, 13, 14, 16, 17, 18, 22] m m630 := W_372.trans W635 (by decide)
            have B643 : sf_B 0 4 (m630 17) := T633.2.2.1 17
            have B644 : sf_B 0 1 (m630 22) := T633.2.2.1 22
            show pm_R _ 181 35 [.ref 41] [] _ _
            refine pm_R_lo pm_M181 (pc' := 36) rfl rfl rfl ?_
            refine pm_R_op pm_M181 (pc' := 37) (st' := [.int 0, .ref 41]) rfl rfl rfl ?_
            refine pm_R_op pm_M181 (pc' := 39) (st' := [.int 9, .int 0, .ref 41]) rfl rfl rfl ?_
            refine pm_R_op pm_M181 (pc' := 40) (st' := [.int (-1), .int 9, .int 0, .ref 41]) rfl rfl rfl ?_
            refine pm_R_cv pm_M181 (pc' := 43) (a := 41) (ra := [.int (-1), .int 9, .int 0]) (rest := []) (ls' := [.ref 41, .int 0, .int 9, .int (-1)]) rfl rfl (Or.inl rfl) pm_M183 T633.2.1 rfl (by decide) (Nat.lt_of_lt_of_le (by decide) T633.1) rfl rfl (Nat.le_of_ble_eq_true rfl) rfl rfl ?_
            obtain ⟨f645, e646, b647⟩ := T633.2.2.2.1 52 (by decide) (by decide)
            refine rf_c183_0_9 (d := d + 0) T633  (fun m650 w651 h652 T653 F654 W655 X656 => ?_) (fun m659 w660 h661 T662 F663 W664 X665 X666 X667 X668 X669 => ?_) (fun m672 w673 h674 T675 F676 W677 X678 X679 X680 B681 B682 => ?_)
            · have F683 := F637.trans F654 (by decide)
              have W684 : rf_W [10, 12, 13, 14, 16, 17, 18, 22] m m650 := W641.trans W655 (by decide)
              have W685 : rf_W [10, 12, 13, 14, 16, 17, 18, 22] m m650 := W642.trans W655 (by decide)
              have B686 : sf_B 0 600 (m650 10) := T653.2.2.1 10
              have B687 : sf_B 0 4 (m650 17) := T653.2.2.1 17
              have B688 : sf_B 0 1 (m650 22) := T653.2.2.1 22
              show pm_R _ 181 43 [.ref 41] [.int 0] _ _
              have R689 : (m 10).toInt ≤ (m650 10).toInt := (sf_aux77 _ _ _ _ ek639 X_372.2 X656)
              have R690 : (m_372 10).toInt ≤ (m650 10).toInt := (sf_aux80 _ _ _ _ ek639 X_372.2 X656)
              refine pm_R_br pm_M181 (pc' := 46) (st' := []) rfl rfl ?_
              refine pm_R_op pm_M181 (pc' := 47) (st' := [.int 0]) rfl rfl rfl ?_
              exact pm_R_ret pm_M181 (r := some (.int 0)) rfl rfl (K0 m650 w651 h652 T653 F683 W684 (sf_aux81 _ _ _ R689 R690))
            · have F691 := F637.trans F663 (by decide)
              have W692 : rf_W [10, 12, 13, 14, 16, 17, 18, 22] m m659 := W641.trans W664 (by decide)
              have W693 : rf_W [10, 12, 13, 14, 16, 17, 18, 22] m m659 := W642.trans W664 (by decide)
              have B694 : sf_B 0 600 (m659 10) := T662.2.2.1 10
              have B695 : sf_B 0 4 (m659 17) := T662.2.2.1 17
              have B696 : sf_B 0 1 (m659 22) := T662.2.2.1 22
              show pm_R _ 181 43 [.ref 41] [.int 1] _ _
              have R697 : (m 10).toInt ≤ (m659 10).toInt := (sf_aux77 _ _ _ _ ek639 X_372.2 X669)
              have R698 : (m_372 10).toInt ≤ (m659 10).toInt := (sf_aux80 _ _ _ _ ek639 X_372.2 X669)
              obtain ⟨v699, B700, e701⟩ := X665 _ e646
              refine pm_R_br pm_M181 (pc' := 48) (st' := []) rfl rfl ?_
              refine pm_R_lo pm_M181 (pc' := 49) rfl rfl rfl ?_
              refine pm_R_op pm_M181 (pc' := 50) (st' := [.int 0, .ref 41]) rfl rfl rfl ?_
              refine pm_R_op pm_M181 (pc' := 51) (st' := [.int 1, .int 0, .ref 41]) rfl rfl rfl ?_
              refine pm_R_op pm_M181 (pc' := 52) (st' := [.int 1, .int 1, .int 0, .ref 41]) rfl rfl rfl ?_
              refine pm_R_op pm_M181 (pc' := 54) (st' := [.int 12, .int 1, .int 1, .int 0, .ref 41]) rfl rfl rfl ?_
              refine pm_R_op pm_M181 (pc' := 55) (st' := [.int 0, .int 12, .int 1, .int 1, .int 0, .ref 41]) rfl rfl rfl ?_
              refine pm_R_cv pm_M181 (pc' := 58) (a := 41) (ra := [.int 0, .int 12, .int 1, .int 1, .int 0]) (rest := []) (ls' := [.ref 41, .int 0, .int 1, .int 1, .int 12, .int 0, pm_no, pm_no]) rfl rfl (Or.inl rfl) pm_M185 T662.2.1 rfl (by decide) (Nat.lt_of_lt_of_le (by decide) T662.1) rfl rfl (Nat.le_of_ble_eq_true rfl) rfl rfl ?_
              have e702 := (F663.cell (by decide) (F634.cell (by decide) e377))
              refine rf_c185_o (d := d + 2) T662 (⟨f376, e702, ct378, fun z => (sf_pos (sf_eqT X666 B636) (by decide) z)⟩) (fun z => sf_pos (sf_eqT X666 B636) (by decide) z) (fun m705 w706 h707 T708 F709 W710 X711 => ?_)
              have F712 := F691.trans F709 (by decide)
              have B713 : sf_B 0 600 (m705 10) := by rw [W710 10 (by decide)]; exact B694
              have ek714 : (m705 10).toInt = ((m659 10)).toInt := by rw [W710 10 (by decide)]
              have B715 : sf_B 1 4 (m705 17) := by rw [W710 17 (by decide)]; exact (sf_eqT X666 B636)
              have ek716 : (m705 17).toInt = ((m630 17)).toInt := by rw [W710 17 (by decide)]; exact X666
              have B717 : sf_B 0 1 (m705 22) := by rw [W710 22 (by decide)]; exact (sf_eqT X667 B644)
              have ek718 : (m705 22).toInt = ((m630 22)).toInt := by rw [W710 22 (by decide)]; exact X667
              have W719 : rf_W [10, 12, 13, 14, 16, 17, 18, 22] m m705 := W692.trans W710 (by decide)
              have W720 : rf_W [10, 12, 13, 14, 16, 17, 18, 22] m m705 := W693.trans W710 (by decide)
              show pm_R _ 181 58 [.ref 41] [] _ _
              obtain ⟨f721, e722, ct723, bd724⟩ := X711
              refine pm_R_br pm_M181 (pc' := 0) rfl rfl ?_
              have B725 : sf_B 0 4 (m705 13) := T708.2.2.1 13
              exact ih_372 _ (rf_mu hN_372 (sf_ne0 c383) (sf_aux84 _ _ _ ek639 X_372.2) X669 X668 B713.2) h707 m705 w706  T708 F712 W720  ⟨⟨f721, e722, ct723, fun z => (sf_pos B715 (by decide) z)⟩, (sf_aux83 _ _ _ _ ek714 R697 R698)⟩ rfl
            · have F726 := F637.trans F676 (by decide)
              have W727 : rf_W [10, 12, 13, 14, 16, 17, 18, 22] m m672 := W641.trans W677 (by decide)
              have W728 : rf_W [10, 12, 13, 14, 16, 17, 18, 22] m m672 := W642.trans W677 (by decide)
              have B729 : sf_B 0 600 (m672 10) := T675.2.2.1 10
              have B730 : sf_B 0 4 (m672 17) := T675.2.2.1 17
              have B731 : sf_B 0 1 (m672 22) := T675.2.2.1 22
              show pm_R _ 181 43 [.ref 41] [.int 1] _ _
              have R732 : (m 10).toInt ≤ (m672 10).toInt := (sf_aux77 _ _ _ _ ek639 X_372.2 X680)
              have R733 : (m_372 10).toInt ≤ (m672 10).toInt := (sf_aux80 _ _ _ _ ek639 X_372.2 X680)
              obtain ⟨v734, B735, e736⟩ := X678 _ e646
              refine pm_R_br pm_M181 (pc' := 48) (st' := []) rfl rfl ?_
              refine pm_R_lo pm_M181 (pc' := 49) rfl rfl rfl ?_
              refine pm_R_op pm_M181 (pc' := 50) (st' := [.int 0, .ref 41]) rfl rfl rfl ?_
              refine pm_R_op pm_M181 (pc' := 51) (st' := [.int 1, .int 0, .ref 41]) rfl rfl rfl ?_
              refine pm_R_op pm_M181 (pc' := 52) (st' := [.int 1, .int 1, .int 0, .ref 41]) rfl rfl rfl ?_
              refine pm_R_op pm_M181 (pc' := 54) (st' := [.int 12, .int 1, .int 1, .int 0, .ref 41]) rfl rfl rfl ?_
              refine pm_R_op pm_M181 (pc' := 55) (st' := [.int 0, .int 12, .int 1, .int 1, .int 0, .ref 41]) rfl rfl rfl ?_
              refine pm_R_cv pm_M181 (pc' := 58) (a := 41) (ra := [.int 0, .int 12, .int 1, .int 1, .int 0]) (rest := []) (ls' := [.ref 41, .int 0, .int 1, .int 1, .int 12, .int 0, pm_no, pm_no]) rfl rfl (Or.inl rfl) pm_M185 T675.2.1 rfl (by decide) (Nat.lt_of_lt_of_le (by decide) T675.1) rfl rfl (Nat.le_of_ble_eq_true rfl) rfl rfl ?_
              have e737 := (F676.cell (by decide) (F634.cell (by decide) e377))
              refine rf_c185_o (d := d + 2) T675 (⟨f376, e737, ct378, fun z => (sf_pos B681 (by decide) z)⟩) (fun z => sf_pos B681 (by decide) z) (fun m740 w741 h742 T743 F744 W745 X746 => ?_)
              have F747 := F726.trans F744 (by decide)
              have B748 : sf_B 0 600 (m740 10) := by rw [W745 10 (by decide)]; exact B729
              have ek749 : (m740 10).toInt = ((m672 10)).toInt := by rw [W745 10 (by decide)]
              have B750 : sf_B 1 4 (m740 17) := by rw [W745 17 (by decide)]; exact B681
              have ek751 : (m740 17).toInt = ((m672 17)).toInt := by rw [W745 17 (by decide)]
              have B752 : sf_B 0 0 (m740 22) := by rw [W745 22 (by decide)]; exact B682
              have ek753 : (m740 22).toInt = ((m672 22)).toInt := by rw [W745 22 (by decide)]
              have W754 : rf_W [10, 12, 13, 14, 16, 17, 18, 22] m m740 := W727.trans W745 (by decide)
              have W755 : rf_W [10, 12, 13, 14, 16, 17, 18, 22] m m740 := W728.trans W745 (by decide)
              show pm_R _ 181 58 [.ref 41] [] _ _
              obtain ⟨f756, e757, ct758, bd759⟩ := X746
              refine pm_R_br pm_M181 (pc' := 0) rfl rfl ?_
              have B760 : sf_B 0 4 (m740 13) := T743.2.2.1 13
              exact ih_372 _ (rf_mu hN_372 (sf_ne0 c383) (sf_aux84 _ _ _ ek639 X_372.2) X680 X679 B748.2) h742 m740 w741  T743 F747 W755  ⟨⟨f756, e757, ct758, fun z => (sf_pos B750 (by decide) z)⟩, (sf_aux83 _ _ _ _ ek749 R732 R733)⟩ rfl
  exact L_372 _ h m w  T (rf_G.refl [41, 51, 52] h) (rf_W.refl _ _)  ⟨⟨f2, e3, ct4, fun z => (bd5 z)⟩, (sf_aux50 _ )⟩ rfl

theorem sf_aux85 (v0 v1 v2 v3 : Int) (q0 : v0 ≤ v1) (q1 : v2 ≤ v1) (q2 : v1 ≤ v3) : v0 ≤ v3 := by omega
theorem sf_aux86 (v0 v1 v2 v3 : Int) (q0 : v0 ≤ v1) (q1 : v2 ≤ v1) (q2 : v1 ≤ v3) : v2 ≤ v3 := by omega
theorem sf_aux87 (v0 v1 v2 : Int) (q0 : v0 ≤ v1) (q1 : v2 ≤ v1) : v2 ≤ v1 := by omega
set_option maxRecDepth 100000 in
set_option maxHeartbeats 4000000 in
/-- SilentTableModel.lines -/
theorem rf_c186_0 {d : Nat} {m : Nat → Int32} {w : Int64} {h : pm_H} {Q : Option Value → pm_H → Prop}  (T : rf_T m w h) (X : rf_I 0 (m 17) h) (K0 : ∀ (m' : Nat → Int32) (w' : Int64) (h' : pm_H), rf_T m' w' h' → rf_G [41, 51, 52] h h' → rf_W [10, 12, 13, 14, 16, 17, 18, 21, 22] m m' → (m 10).toInt ≤ (m' 10).toInt → Q (some (.int 0)) h') (K1 : ∀ (m' : Nat → Int32) (w' : Int64) (h' : pm_H), rf_T m' w' h' → rf_G [41, 51, 52] h h' → rf_W [10, 12, 13, 14, 16, 17, 18, 21, 22] m m' → rf_I 0 (m' 17) h' → (m 10).toInt ≤ (m' 10).toInt → Q (some (.int 1)) h') : pm_R (d + 5) 186 0 [.ref 41, .int 0, pm_no, pm_no, pm_no, pm_no] [] h Q := by
  have B1 : sf_B 0 600 (m 10) := T.2.2.1 10
  obtain ⟨f2, e3, ct4, bd5⟩ := X
  have B6 : sf_B 0 4 (m 17) := T.2.2.1 17
  refine pm_R_op pm_M186 (pc' := 1) (st' := [.int 1]) rfl rfl rfl ?_
  refine pm_R_lo pm_M186 (pc' := 2) (ls' := [.ref 41, .int 0, .int 1, pm_no, pm_no, pm_no]) (st' := []) rfl rfl rfl ?_
  have L_211 : ∀ (N : Nat) (h_211 : pm_H) (m_211 : Nat → Int32) (w_211 : Int64) (x2_211 : Int32) (g3_211 : Value) (g4_211 : Value) (g5_211 : Value), rf_T m_211 w_211 h_211 → rf_G [41, 51, 52] h h_211 → rf_W [10, 12, 13, 14, 16, 17, 18, 21, 22] m m_211 → sf_B 1 1 x2_211 → g3_211.category = 1 → g5_211.category = 1 → rf_I 0 (m_211 17) h_211 ∧ (m 10).toInt ≤ (m_211 10).toInt → ((600 - (m_211 10).toInt).toNat + (if (m_211 13).toInt = 0 then 0 else 1)) = N → pm_R (d + 5) 186 2 [.ref 41, .int 0, .int x2_211, g3_211, g4_211, g5_211] [] h_211 Q := by
    intro N
    induction N using Nat.strongRecOn with
    | ind N ih_211 =>
      intro h_211 m_211 w_211 x2_211 g3_211 g4_211 g5_211 T_211 F_211 W_211 Bx2_211 Cg3_211 Cg5_211 X_211 hN_211
      have W214 : rf_W [10, 12, 13, 14, 16, 17, 18, 21, 22] m m_211 := (rf_W.refl [10, 12, 13, 14, 16, 17, 18, 21, 22] m).trans W_211 (by decide)
      obtain ⟨f215, e216, ct217, bd218⟩ := X_211.1
      have B219 : sf_B 0 4 (m_211 17) := T_211.2.2.1 17
      have B220 : sf_B 0 600 (m_211 10) := T_211.2.2.1 10
      refine pm_R_lo pm_M186 (pc' := 3) rfl rfl rfl ?_
      refine pm_R_ifc pm_M186 (t := 106) (pc' := 6) rfl rfl rfl (fun c221 => absurd c221 (sf_neq1 Bx2_211 sf_k0 (by decide))) (fun c221 => ?_)
      skip
      refine pm_R_lo pm_M186 (pc' := 7) rfl rfl rfl ?_
      have B222 : sf_B 0 4 (m_211 13) := T_211.2.2.1 13
      refine rf_R_get pm_M186 T_211 (pc' := 10) (v := .int (m_211 13)) rfl rfl rfl rfl ?_
      refine pm_R_ifc pm_M186 (t := 106) (pc' := 13) rfl rfl rfl (fun c223 => ?_) (fun c223 => ?_)
      · have B224 : sf_B 0 0 (m_211 13) := sf_eqL c223 sf_k0
        refine pm_R_lo pm_M186 (pc' := 107) rfl rfl rfl ?_
        rw [sf_pt2 Bx2_211 sf_k1]
        exact pm_R_ret pm_M186 (r := some (.int 1)) rfl rfl (K1 m_211 w_211 h_211 T_211 F_211 W214 (⟨f215, e216, ct217, fun z => (bd218 z)⟩) (sf_aux51 _ _ X_211.2))
      · have B225 : sf_B 1 4 (m_211 13) := sf_neL0 c223 sf_k0 B222
        refine pm_R_lo pm_M186 (pc' := 14) rfl rfl rfl ?_
        have B226 : sf_B 0 600 (m_211 12) := T_211.2.2.1 12
        refine rf_R_get pm_M186 T_211 (pc' := 17) (v := .int (m_211 12)) rfl rfl rfl rfl ?_
        refine pm_R_lo pm_M186 (pc' := 18) (ls' := [.ref 41, .int 0, .int x2_211, .int (m_211 12), g4_211, g5_211]) (st' := []) rfl rfl rfl ?_
        refine pm_R_lo pm_M186 (pc' := 19) rfl rfl rfl ?_
        refine rf_R_get pm_M186 T_211 (pc' := 22) (v := .int (m_211 13)) rfl rfl rfl rfl ?_
        refine pm_R_op pm_M186 (pc' := 23) (st' := [.int 2, .int (m_211 13)]) rfl rfl rfl ?_
        refine pm_R_icmp pm_M186 (t := 33) (pc' := 26) rfl rfl rfl (fun c227 => ?_) (fun c227 => ?_)
        · skip
          refine pm_R_op pm_M186 (pc' := 34) (st' := [.long 0]) rfl rfl rfl ?_
          refine pm_R_lo pm_M186 (pc' := 36) (ls' := [.ref 41, .int 0, .int x2_211, .int (m_211 12), .long 0, pm_no]) (st' := []) rfl rfl rfl ?_
          refine pm_R_lo pm_M186 (pc' := 37) rfl rfl rfl ?_
          refine pm_R_op pm_M186 (pc' := 38) (st' := [.int 1, .ref 41]) rfl rfl rfl ?_
          refine rf_R_put pm_M186 T_211 (pc' := 41) rfl rfl rfl (by decide) rfl rfl (sf_weak sf_k1 (by decide) (by decide)) rfl rfl (fun h228 m231 em232 T229 F230 => ?_)
          have F233 := F_211.trans F230 (by decide)
          have B234 : sf_B 0 4 (m231 17) := by rw [em232]; exact B219
          have ek235 : (m231 17).toInt = ((m_211 17)).toInt := by rw [em232]; rfl
          have B236 : sf_B 0 600 (m231 10) := by rw [em232]; exact B220
          have ek237 : (m231 10).toInt = ((m_211 10)).toInt := by rw [em232]; rfl
          have B238 : sf_B 1 4 (m231 13) := by rw [em232]; exact B225
          have B239 : sf_B 1 1 (m231 22) := by rw [em232]; exact sf_k1
          have W241 : rf_W [10, 12, 13, 14, 16, 17, 18, 21, 22] m m231 := by rw [em232]; exact W214.put (by decide)
          have W242 : rf_W [10, 12, 13, 14, 16, 17, 18, 21, 22] m m231 := by rw [em232]; exact W_211.put (by decide)
          refine pm_R_lo pm_M186 (pc' := 42) rfl rfl rfl ?_
          refine pm_R_br pm_M186 (pc' := 45) (st' := []) rfl rfl ?_
          refine pm_R_lo pm_M186 (pc' := 46) rfl rfl rfl ?_
          refine pm_R_lo pm_M186 (pc' := 48) rfl rfl rfl ?_
          refine pm_R_lo pm_M186 (pc' := 49) rfl rfl rfl ?_
          refine pm_R_cv pm_M186 (pc' := 52) (a := 41) (ra := [.int (m_211 12), .long 0]) (rest := []) (ls' := [.ref 41, .long 0, pm_no, .int (m_211 12)]) rfl rfl (Or.inl rfl) pm_M187 T229.2.1 rfl (by decide) (Nat.lt_of_lt_of_le (by decide) T229.1) rfl rfl (Nat.le_of_ble_eq_true rfl) rfl rfl ?_
          have e243 := (F230.cell (by decide) e216)
          refine rf_c187 (d := d + 1) T229 B226 (⟨f215, e243, ct217, fun z => (bd218 (sf_aux79 _ _ ek235 z))⟩) (fun m246 w247 h248 T249 F250 W251 X252 => ?_) (fun m255 w256 h257 T258 F259 W260 X261 X262 => ?_)
          · have F263 := F233.trans F250 (by decide)
            have W264 : rf_W [10, 12, 13, 14, 16, 17, 18, 21, 22] m m246 := W241.trans W251 (by decide)
            have W265 : rf_W [10, 12, 13, 14, 16, 17, 18, 21, 22] m m246 := W242.trans W251 (by decide)
            have B266 : sf_B 0 600 (m246 10) := T249.2.2.1 10
            have B267 : sf_B 0 4 (m246 17) := T249.2.2.1 17
            have B268 : sf_B 0 1 (m246 22) := T249.2.2.1 22
            show pm_R _ 186 52 [.ref 41, .int 0, .int x2_211, .int (m_211 12), .long 0, pm_no] [.int 0] _ _
            have R269 : (m 10).toInt ≤ (m246 10).toInt := (sf_aux77 _ _ _ _ ek237 X_211.2 X252)
            have R270 : (m_211 10).toInt ≤ (m246 10).toInt := (sf_aux80 _ _ _ _ ek237 X_211.2 X252)
            refine pm_R_br pm_M186 (pc' := 77) rfl rfl ?_
            refine pm_R_lo pm_M186 (pc' := 78) (ls' := [.ref 41, .int 0, .int 0, .int (m_211 12), .long 0, pm_no]) (st' := []) rfl rfl rfl ?_
            refine pm_R_lo pm_M186 (pc' := 79) rfl rfl rfl ?_
            refine pm_R_br pm_M186 (pc' := 95) (st' := []) rfl rfl ?_
            refine pm_R_lo pm_M186 (pc' := 96) rfl rfl rfl ?_
            refine pm_R_br pm_M186 (pc' := 103) (st' := []) rfl rfl ?_
            refine pm_R_br pm_M186 (pc' := 2) rfl rfl ?_
            refine pm_R_lo pm_M186 (pc' := 3) rfl rfl rfl ?_
            refine pm_R_br pm_M186 (pc' := 106) (st' := []) rfl rfl ?_
            refine pm_R_lo pm_M186 (pc' := 107) rfl rfl rfl ?_
            exact pm_R_ret pm_M186 (r := some (.int 0)) rfl rfl (K0 m246 w247 h248 T249 F263 W264 (sf_aux81 _ _ _ R269 R270))
          · have F271 := F233.trans F259 (by decide)
            have W272 : rf_W [10, 12, 13, 14, 16, 17, 18, 21, 22] m m255 := W241.trans W260 (by decide)
            have W273 : rf_W [10, 12, 13, 14, 16, 17, 18, 21, 22] m m255 := W242.trans W260 (by decide)
            have B274 : sf_B 0 600 (m255 10) := T258.2.2.1 10
            have B275 : sf_B 0 4 (m255 17) := T258.2.2.1 17
            have B276 : sf_B 0 1 (m255 22) := T258.2.2.1 22
            show pm_R _ 186 52 [.ref 41, .int 0, .int x2_211, .int (m_211 12), .long 0, pm_no] [.int 1] _ _
            have R277 : (m 10).toInt ≤ (m255 10).toInt := (sf_aux77 _ _ _ _ ek237 X_211.2 X262)
            have R278 : (m_211 10).toInt ≤ (m255 10).toInt := (sf_aux80 _ _ _ _ ek237 X_211.2 X262)
            obtain ⟨f279, e280, ct281, bd282⟩ := X261
            refine pm_R_br pm_M186 (pc' := 77) rfl rfl ?_
            refine pm_R_lo pm_M186 (pc' := 78) (ls' := [.ref 41, .int 0, .int 1, .int (m_211 12), .long 0, pm_no]) (st' := []) rfl rfl rfl ?_
            refine pm_R_lo pm_M186 (pc' := 79) rfl rfl rfl ?_
            refine pm_R_br pm_M186 (pc' := 82) (st' := []) rfl rfl ?_
            refine pm_R_lo pm_M186 (pc' := 83) rfl rfl rfl ?_
            have B283 : sf_B 0 4 (m255 13) := T258.2.2.1 13
            refine rf_R_get pm_M186 T258 (pc' := 86) (v := .int (m255 13)) rfl rfl rfl rfl ?_
            refine pm_R_op pm_M186 (pc' := 87) (st' := [.int 4, .int (m255 13)]) rfl rfl rfl ?_
            refine pm_R_icmp pm_M186 (t := 95) (pc' := 90) rfl rfl rfl (fun c284 => ?_) (fun c284 => ?_)
            · have B285 : sf_B 4 4 (m255 13) := sf_eqL c284 sf_k4
              refine pm_R_lo pm_M186 (pc' := 96) rfl rfl rfl ?_
              refine pm_R_br pm_M186 (pc' := 99) (st' := []) rfl rfl ?_
              refine pm_R_lo pm_M186 (pc' := 100) rfl rfl rfl ?_
              refine pm_R_cv pm_M186 (pc' := 103) (a := 41) (ra := []) (rest := []) (ls' := [.ref 41, pm_no, pm_no]) rfl rfl (Or.inl rfl) pm_M179 T258.2.1 rfl (by decide) (Nat.lt_of_lt_of_le (by decide) T258.1) rfl rfl (Nat.le_of_ble_eq_true rfl) rfl rfl ?_
              refine rf_c179 (d := d + 3) T258  (fun m288 w289 h290 T291 F292 W293 X294 X295 => ?_)
              have F296 := F271.trans F292 (by decide)
              have B297 : sf_B 0 4 (m288 17) := by rw [W293 17 (by decide)]; exact B275
              have ek298 : (m288 17).toInt = ((m255 17)).toInt := by rw [W293 17 (by decide)]
              have B299 : sf_B 0 1 (m288 22) := by rw [W293 22 (by decide)]; exact B276
              have ek300 : (m288 22).toInt = ((m255 22)).toInt := by rw [W293 22 (by decide)]
              have W301 : rf_W [10, 12, 13, 14, 16, 17, 18, 21, 22] m m288 := W272.trans W293 (by decide)
              have W302 : rf_W [10, 12, 13, 14, 16, 17, 18, 21, 22] m m288 := W273.trans W293 (by decide)
              have B303 : sf_B 0 600 (m288 10) := T291.2.2.1 10
              show pm_R _ 186 103 [.ref 41, .int 0, .int 1, .int (m_211 12), .long 0, pm_no] [] _ _
              have R304 : (m 10).toInt ≤ (m288 10).toInt := (sf_aux85 _ _ _ _ R277 R278 X294)
              have R305 : (m_211 10).toInt ≤ (m288 10).toInt := (sf_aux86 _ _ _ _ R277 R278 X294)
              refine pm_R_br pm_M186 (pc' := 2) rfl rfl ?_
              have B306 : sf_B 0 4 (m288 13) := T291.2.2.1 13
              have e307 := (F292.cell (by decide) e280)
              exact ih_211 _ (rf_mu hN_211 (sf_ne0 c223) (sf_aux87 _ _ _ R277 R278) X294 X295 B303.2) h290 m288 w289 1 (.int (m_211 12)) (.long 0) (pm_no) T291 F296 W302 sf_k1 rfl rfl ⟨⟨f279, e307, ct281, fun z => (bd282 (sf_aux79 _ _ ek298 z))⟩, (sf_aux81 _ _ _ R304 R305)⟩ rfl
            · have B308 : sf_B 0 3 (m255 13) := sf_neH0 c284 sf_k4 B283
              refine pm_R_lo pm_M186 (pc' := 91) rfl rfl rfl ?_
              refine pm_R_cv pm_M186 (pc' := 94) (a := 41) (ra := []) (rest := []) (ls' := [.ref 41]) rfl rfl (Or.inl rfl) pm_M184 T258.2.1 rfl (by decide) (Nat.lt_of_lt_of_le (by decide) T258.1) rfl rfl (Nat.le_of_ble_eq_true rfl) rfl rfl ?_
              refine pm_R_lo pm_M184 (pc' := 1) rfl rfl rfl ?_
              refine pm_R_lo pm_M184 (pc' := 2) rfl rfl rfl ?_
              have B309 : sf_B 0 600 (m255 12) := T258.2.2.1 12
              refine rf_R_get pm_M184 T258 (pc' := 5) (v := .int (m255 12)) rfl rfl rfl rfl ?_
              refine rf_R_put pm_M184 T258 (pc' := 8) rfl rfl rfl (by decide) rfl rfl B309 rfl rfl (fun h310 m313 em314 T311 F312 => ?_)
              have F315 := F271.trans F312 (by decide)
              have B316 : sf_B 0 600 (m313 10) := by rw [em314]; exact B274
              have ek317 : (m313 10).toInt = ((m255 10)).toInt := by rw [em314]; rfl
              have B318 : sf_B 0 4 (m313 17) := by rw [em314]; exact B275
              have ek319 : (m313 17).toInt = ((m255 17)).toInt := by rw [em314]; rfl
              have B320 : sf_B 0 1 (m313 22) := by rw [em314]; exact B276
              have ek321 : (m313 22).toInt = ((m255 22)).toInt := by rw [em314]; rfl
              have B322 : sf_B 0 3 (m313 13) := by rw [em314]; exact B308
              have B323 : sf_B 0 600 (m313 16) := by rw [em314]; exact B309
              have ek324 : (m313 16).toInt = ((m255 12)).toInt := by rw [em314]; rfl
              have W325 : rf_W [10, 12, 13, 14, 16, 17, 18, 21, 22] m m313 := by rw [em314]; exact W272.put (by decide)
              have W326 : rf_W [10, 12, 13, 14, 16, 17, 18, 21, 22] m m313 := by rw [em314]; exact W273.put (by decide)
              refine pm_R_op pm_M184 (pc' := 9) (st' := [.int 0]) rfl rfl rfl ?_
              refine pm_R_ret pm_M184 (r := some (.int 0)) rfl rfl ?_
              show pm_R _ 186 94 [.ref 41, .int 0, .int 1, .int (m_211 12), .long 0, pm_no] [.int 0] _ _
              refine pm_R_lo pm_M186 (pc' := 95) (ls' := [.ref 41, .int 0, .int 0, .int (m_211 12), .long 0, pm_no]) (st' := []) rfl rfl rfl ?_
              refine pm_R_lo pm_M186 (pc' := 96) rfl rfl rfl ?_
              refine pm_R_br pm_M186 (pc' := 103) (st' := []) rfl rfl ?_
              refine pm_R_br pm_M186 (pc' := 2) rfl rfl ?_
              refine pm_R_lo pm_M186 (pc' := 3) rfl rfl rfl ?_
              refine pm_R_br pm_M186 (pc' := 106) (st' := []) rfl rfl ?_
              refine pm_R_lo pm_M186 (pc' := 107) rfl rfl rfl ?_
              exact pm_R_ret pm_M186 (r := some (.int 0)) rfl rfl (K0 m313 w256 h310 T311 F315 W325 (sf_aux83 _ _ _ _ ek317 R277 R278))
        · have B327 : sf_B 2 2 (m_211 13) := sf_eqL (Classical.not_not.mp c227) sf_k2
          refine pm_R_lo pm_M186 (pc' := 27) rfl rfl rfl ?_
          refine rf_R_get pm_M186 T_211 (pc' := 30) (v := .long w_211) rfl rfl rfl rfl ?_
          refine pm_R_br pm_M186 (pc' := 34) rfl rfl ?_
          refine pm_R_lo pm_M186 (pc' := 36) (ls' := [.ref 41, .int 0, .int x2_211, .int (m_211 12), .long w_211, pm_no]) (st' := []) rfl rfl rfl ?_
          refine pm_R_lo pm_M186 (pc' := 37) rfl rfl rfl ?_
          refine pm_R_op pm_M186 (pc' := 38) (st' := [.int 1, .ref 41]) rfl rfl rfl ?_
          refine rf_R_put pm_M186 T_211 (pc' := 41) rfl rfl rfl (by decide) rfl rfl (sf_weak sf_k1 (by decide) (by decide)) rfl rfl (fun h328 m331 em332 T329 F330 => ?_)
          have F333 := F_211.trans F330 (by decide)
          have B334 : sf_B 0 4 (m331 17) := by rw [em332]; exact B219
          have ek335 : (m331 17).toInt = ((m_211 17)).toInt := by rw [em332]; rfl
          have B336 : sf_B 0 600 (m331 10) := by rw [em332]; exact B220
          have ek337 : (m331 10).toInt = ((m_211 10)).toInt := by rw [em332]; rfl
          have B338 : sf_B 2 2 (m331 13) := by rw [em332]; exact B327
          have B339 : sf_B 1 1 (m331 22) := by rw [em332]; exact sf_k1
          have W341 : rf_W [10, 12, 13, 14, 16, 17, 18, 21, 22] m m331 := by rw [em332]; exact W214.put (by decide)
          have W342 : rf_W [10, 12, 13, 14, 16, 17, 18, 21, 22] m m331 := by rw [em332]; exact W_211.put (by decide)
          refine pm_R_lo pm_M186 (pc' := 42) rfl rfl rfl ?_
          refine pm_R_br pm_M186 (pc' := 45) (st' := []) rfl rfl ?_
          refine pm_R_lo pm_M186 (pc' := 46) rfl rfl rfl ?_
          refine pm_R_lo pm_M186 (pc' := 48) rfl rfl rfl ?_
          refine pm_R_lo pm_M186 (pc' := 49) rfl rfl rfl ?_
          refine pm_R_cv pm_M186 (pc' := 52) (a := 41) (ra := [.int (m_211 12), .long w_211]) (rest := []) (ls' := [.ref 41, .long w_211, pm_no, .int (m_211 12)]) rfl rfl (Or.inl rfl) pm_M187 T329.2.1 rfl (by decide) (Nat.lt_of_lt_of_le (by decide) T329.1) rfl rfl (Nat.le_of_ble_eq_true rfl) rfl rfl ?_
          have e343 := (F330.cell (by decide) e216)
          refine rf_c187 (d := d + 1) T329 B226 (⟨f215, e343, ct217, fun z => (bd218 (sf_aux79 _ _ ek335 z))⟩) (fun m346 w347 h348 T349 F350 W351 X352 => ?_) (fun m355 w356 h357 T358 F359 W360 X361 X362 => ?_)
          · have F363 := F333.trans F350 (by decide)
            have W364 : rf_W [10, 12, 13, 14, 16, 17, 18, 21, 22] m m346 := W341.trans W351 (by decide)
            have W365 : rf_W [10, 12, 13, 14, 16, 17, 18, 21, 22] m m346 := W342.trans W351 (by decide)
            have B366 : sf_B 0 600 (m346 10) := T349.2.2.1 10
            have B367 : sf_B 0 4 (m346 17) := T349.2.2.1 17
            have B368 : sf_B 0 1 (m346 22) := T349.2.2.1 22
            show pm_R _ 186 52 [.ref 41, .int 0, .int x2_211, .int (m_211 12), .long w_211, pm_no] [.int 0] _ _
            have R369 : (m 10).toInt ≤ (m346 10).toInt := (sf_aux77 _ _ _ _ ek337 X_211.2 X352)
            have R370 : (m_211 10).toInt ≤ (m346 10).toInt := (sf_aux80 _ _ _ _ ek337 X_211.2 X352)
            refine pm_R_br pm_M186 (pc' := 77) rfl rfl ?_
            refine pm_R_lo pm_M186 (pc' := 78) (ls' := [.ref 41, .int 0, .int 0, .int (m_211 12), .long w_211, pm_no]) (st' := []) rfl rfl rfl ?_
            refine pm_R_lo pm_M186 (pc' := 79) rfl rfl rfl ?_
            refine pm_R_br pm_M186 (pc' := 95) (st' := []) rfl rfl ?_
            refine pm_R_lo pm_M186 (pc' := 96) rfl rfl rfl ?_
            refine pm_R_br pm_M186 (pc' := 103) (st' := []) rfl rfl ?_
            refine pm_R_br pm_M186 (pc' := 2) rfl rfl ?_
            refine pm_R_lo pm_M186 (pc' := 3) rfl rfl rfl ?_
            refine pm_R_br pm_M186 (pc' := 106) (st' := []) rfl rfl ?_
            refine pm_R_lo pm_M186 (pc' := 107) rfl rfl rfl ?_
            exact pm_R_ret pm_M186 (r := some (.int 0)) rfl rfl (K0 m346 w347 h348 T349 F363 W364 (sf_aux81 _ _ _ R369 R370))
          · have F371 := F333.trans F359 (by decide)
            have W372 : rf_W [10, 12, 13, 14, 16, 17, 18, 21, 22] m m355 := W341.trans W360 (by decide)
            have W373 : rf_W [10, 12, 13, 14, 16, 17, 18, 21, 22] m m355 := W342.trans W360 (by decide)
            have B374 : sf_B 0 600 (m355 10) := T358.2.2.1 10
            have B375 : sf_B 0 4 (m355 17) := T358.2.2.1 17
            have B376 : sf_B 0 1 (m355 22) := T358.2.2.1 22
            show pm_R _ 186 52 [.ref 41, .int 0, .int x2_211, .int (m_211 12), .long w_211, pm_no] [.int 1] _ _
            have R377 : (m 10).toInt ≤ (m355 10).toInt := (sf_aux77 _ _ _ _ ek337 X_211.2 X362)
            have R378 : (m_211 10).toInt ≤ (m355 10).toInt := (sf_aux80 _ _ _ _ ek337 X_211.2 X362)
            obtain ⟨f379, e380, ct381, bd382⟩ := X361
            refine pm_R_br pm_M186 (pc' := 77) rfl rfl ?_
            refine pm_R_lo pm_M186 (pc' := 78) (ls' := [.ref 41, .int 0, .int 1, .int (m_211 12), .long w_211, pm_no]) (st' := []) rfl rfl rfl ?_
            refine pm_R_lo pm_M186 (pc' := 79) rfl rfl rfl ?_
            refine pm_R_br pm_M186 (pc' := 82) (st' := []) rfl rfl ?_
            refine pm_R_lo pm_M186 (pc' := 83) rfl rfl rfl ?_
            have B383 : sf_B 0 4 (m355 13) := T358.2.2.1 13
            refine rf_R_get pm_M186 T358 (pc' := 86) (v := .int (m355 13)) rfl rfl rfl rfl ?_
            refine pm_R_op pm_M186 (pc' := 87) (st' := [.int 4, .int (m355 13)]) rfl rfl rfl ?_
            refine pm_R_icmp pm_M186 (t := 95) (pc' := 90) rfl rfl rfl (fun c384 => ?_) (fun c384 => ?_)
            · have B385 : sf_B 4 4 (m355 13) := sf_eqL c384 sf_k4
              refine pm_R_lo pm_M186 (pc' := 96) rfl rfl rfl ?_
              refine pm_R_br pm_M186 (pc' := 99) (st' := []) rfl rfl ?_
              refine pm_R_lo pm_M186 (pc' := 100) rfl rfl rfl ?_
              refine pm_R_cv pm_M186 (pc' := 103) (a := 41) (ra := []) (rest := []) (ls' := [.ref 41, pm_no, pm_no]) rfl rfl (Or.inl rfl) pm_M179 T358.2.1 rfl (by decide) (Nat.lt_of_lt_of_le (by decide) T358.1) rfl rfl (Nat.le_of_ble_eq_true rfl) rfl rfl ?_
              refine rf_c179 (d := d + 3) T358  (fun m388 w389 h390 T391 F392 W393 X394 X395 => ?_)
              have F396 := F371.trans F392 (by decide)
              have B397 : sf_B 0 4 (m388 17) := by rw [W393 17 (by decide)]; exact B375
              have ek398 : (m388 17).toInt = ((m355 17)).toInt := by rw [W393 17 (by decide)]
              have B399 : sf_B 0 1 (m388 22) := by rw [W393 22 (by decide)]; exact B376
              have ek400 : (m388 22).toInt = ((m355 22)).toInt := by rw [W393 22 (by decide)]
              have W401 : rf_W [10, 12, 13, 14, 16, 17, 18, 21, 22] m m388 := W372.trans W393 (by decide)
              have W402 : rf_W [10, 12, 13, 14, 16, 17, 18, 21, 22] m m388 := W373.trans W393 (by decide)
              have B403 : sf_B 0 600 (m388 10) := T391.2.2.1 10
              show pm_R _ 186 103 [.ref 41, .int 0, .int 1, .int (m_211 12), .long w_211, pm_no] [] _ _
              have R404 : (m 10).toInt ≤ (m388 10).toInt := (sf_aux85 _ _ _ _ R377 R378 X394)
              have R405 : (m_211 10).toInt ≤ (m388 10).toInt := (sf_aux86 _ _ _ _ R377 R378 X394)
              refine pm_R_br pm_M186 (pc' := 2) rfl rfl ?_
              have B406 : sf_B 0 4 (m388 13) := T391.2.2.1 13
              have e407 := (F392.cell (by decide) e380)
              exact ih_211 _ (rf_mu hN_211 (sf_ne0 c223) (sf_aux87 _ _ _ R377 R378) X394 X395 B403.2) h390 m388 w389 1 (.int (m_211 12)) (.long w_211) (pm_no) T391 F396 W402 sf_k1 rfl rfl ⟨⟨f379, e407, ct381, fun z => (bd382 (sf_aux79 _ _ ek398 z))⟩, (sf_aux81 _ _ _ R404 R405)⟩ rfl
            · have B408 : sf_B 0 3 (m355 13) := sf_neH0 c384 sf_k4 B383
              refine pm_R_lo pm_M186 (pc' := 91) rfl rfl rfl ?_
              refine pm_R_cv pm_M186 (pc' := 94) (a := 41) (ra := []) (rest := []) (ls' := [.ref 41]) rfl rfl (Or.inl rfl) pm_M184 T358.2.1 rfl (by decide) (Nat.lt_of_lt_of_le (by decide) T358.1) rfl rfl (Nat.le_of_ble_eq_true rfl) rfl rfl ?_
              refine pm_R_lo pm_M184 (pc' := 1) rfl rfl rfl ?_
              refine pm_R_lo pm_M184 (pc' := 2) rfl rfl rfl ?_
              have B409 : sf_B 0 600 (m355 12) := T358.2.2.1 12
              refine rf_R_get pm_M184 T358 (pc' := 5) (v := .int (m355 12)) rfl rfl rfl rfl ?_
              refine rf_R_put pm_M184 T358 (pc' := 8) rfl rfl rfl (by decide) rfl rfl B409 rfl rfl (fun h410 m413 em414 T411 F412 => ?_)
              have F415 := F371.trans F412 (by decide)
              have B416 : sf_B 0 600 (m413 10) := by rw [em414]; exact B374
              have ek417 : (m413 10).toInt = ((m355 10)).toInt := by rw [em414]; rfl
              have B418 : sf_B 0 4 (m413 17) := by rw [em414]; exact B375
              have ek419 : (m413 17).toInt = ((m355 17)).toInt := by rw [em414]; rfl
              have B420 : sf_B 0 1 (m413 22) := by rw [em414]; exact B376
              have ek421 : (m413 22).toInt = ((m355 22)).toInt := by rw [em414]; rfl
              have B422 : sf_B 0 3 (m413 13) := by rw [em414]; exact B408
              have B423 : sf_B 0 600 (m413 16) := by rw [em414]; exact B409
              have ek424 : (m413 16).toInt = ((m355 12)).toInt := by rw [em414]; rfl
              have W425 : rf_W [10, 12, 13, 14, 16, 17, 18, 21, 22] m m413 := by rw [em414]; exact W372.put (by decide)
              have W426 : rf_W [10, 12, 13, 14, 16, 17, 18, 21, 22] m m413 := by rw [em414]; exact W373.put (by decide)
              refine pm_R_op pm_M184 (pc' := 9) (st' := [.int 0]) rfl rfl rfl ?_
              refine pm_R_ret pm_M184 (r := some (.int 0)) rfl rfl ?_
              show pm_R _ 186 94 [.ref 41, .int 0, .int 1, .int (m_211 12), .long w_211, pm_no] [.int 0] _ _
              refine pm_R_lo pm_M186 (pc' := 95) (ls' := [.ref 41, .int 0, .int 0, .int (m_211 12), .long w_211, pm_no]) (st' := []) rfl rfl rfl ?_
              refine pm_R_lo pm_M186 (pc' := 96) rfl rfl rfl ?_
              refine pm_R_br pm_M186 (pc' := 103) (st' := []) rfl rfl ?_
              refine pm_R_br pm_M186 (pc' := 2) rfl rfl ?_
              refine pm_R_lo pm_M186 (pc' := 3) rfl rfl rfl ?_
              refine pm_R_br pm_M186 (pc' := 106) (st' := []) rfl rfl ?_
              refine pm_R_lo pm_M186 (pc' := 107) rfl rfl rfl ?_
              exact pm_R_ret pm_M186 (r := some (.int 0)) rfl rfl (K0 m413 w356 h410 T411 F415 W425 (sf_aux83 _ _ _ _ ek417 R377 R378))
  exact L_211 _ h m w 1 (pm_no) (pm_no) (pm_no) T (rf_G.refl [41, 51, 52] h) (rf_W.refl _ _) sf_k1 rfl rfl ⟨⟨f2, e3, ct4, fun z => (bd5 z)⟩, (sf_aux50 _ )⟩ rfl

set_option maxRecDepth 100000 in
set_option maxHeartbeats 4000000 in
/-- SilentTableModel.lines -/
theorem rf_c186_2 {d : Nat} {m : Nat → Int32} {w : Int64} {h : pm_H} {Q : Option Value → pm_H → Prop}  (T : rf_T m w h) (X : rf_I 2 (m 17) h) (K0 : ∀ (m' : Nat → Int32) (w' : Int64) (h' : pm_H), rf_T m' w' h' → rf_G [41, 51, 52] h h' → rf_W [10, 12, 13, 14, 16, 17, 18, 21, 22] m m' → (m 10).toInt ≤ (m' 10).toInt → Q (some (.int 0)) h') (K1 : ∀ (m' : Nat → Int32) (w' : Int64) (h' : pm_H), rf_T m' w' h' → rf_G [41, 51, 52] h h' → rf_W [10, 12, 13, 14, 16, 17, 18, 21, 22] m m' → rf_I 2 (m' 17) h' → (m 10).toInt ≤ (m' 10).toInt → Q (some (.int 1)) h') : pm_R (d + 5) 186 0 [.ref 41, .int 2, pm_no, pm_no, pm_no, pm_no] [] h Q := by
  have B1 : sf_B 0 600 (m 10) := T.2.2.1 10
  obtain ⟨f2, e3, ct4, bd5⟩ := X
  have B6 : sf_B 0 4 (m 17) := T.2.2.1 17
  refine pm_R_op pm_M186 (pc' := 1) (st' := [.int 1]) rfl rfl rfl ?_
  refine pm_R_lo pm_M186 (pc' := 2) (ls' := [.ref 41, .int 2, .int 1, pm_no, pm_no, pm_no]) (st' := []) rfl rfl rfl ?_
  have L_211 : ∀ (N : Nat) (h_211 : pm_H) (m_211 : Nat → Int32) (w_211 : Int64) (x2_211 : Int32) (g3_211 : Value) (g4_211 : Value) (g5_211 : Value), rf_T m_211 w_211 h_211 → rf_G [41, 51, 52] h h_211 → rf_W [10, 12, 13, 14, 16, 17, 18, 21, 22] m m_211 → sf_B 1 1 x2_211 → g3_211.category = 1 → g5_211.category = 1 → rf_I 2 (m_211 17) h_211 ∧ (m 10).toInt ≤ (m_211 10).toInt → ((600 - (m_211 10).toInt).toNat + (if (m_211 13).toInt = 0 then 0 else 1)) = N → pm_R (d + 5) 186 2 [.ref 41, .int 2, .int x2_211, g3_211, g4_211, g5_211] [] h_211 Q := by
    intro N
    induction N using Nat.strongRecOn with
    | ind N ih_211 =>
      intro h_211 m_211 w_211 x2_211 g3_211 g4_211 g5_211 T_211 F_211 W_211 Bx2_211 Cg3_211 Cg5_211 X_211 hN_211
      have W214 : rf_W [10, 12, 13, 14, 16, 17, 18, 21, 22] m m_211 := (rf_W.refl [10, 12, 13, 14, 16, 17, 18, 21, 22] m).trans W_211 (by decide)
      obtain ⟨f215, e216, ct217, bd218⟩ := X_211.1
      have B219 : sf_B 0 4 (m_211 17) := T_211.2.2.1 17
      have B220 : sf_B 0 600 (m_211 10) := T_211.2.2.1 10
      refine pm_R_lo pm_M186 (pc' := 3) rfl rfl rfl ?_
      refine pm_R_ifc pm_M186 (t := 106) (pc' := 6) rfl rfl rfl (fun c221 => absurd c221 (sf_neq1 Bx2_211 sf_k0 (by decide))) (fun c221 => ?_)
      skip
      refine pm_R_lo pm_M186 (pc' := 7) rfl rfl rfl ?_
      have B222 : sf_B 0 4 (m_211 13) := T_211.2.2.1 13
      refine rf_R_get pm_M186 T_211 (pc' := 10) (v := .int (m_211 13)) rfl rfl rfl rfl ?_
      refine pm_R_ifc pm_M186 (t := 106) (pc' := 13) rfl rfl rfl (fun c223 => ?_) (fun c223 => ?_)
      · have B224 : sf_B 0 0 (m_211 13) := sf_eqL c223 sf_k0
        refine pm_R_lo pm_M186 (pc' := 107) rfl rfl rfl ?_
        rw [sf_pt2 Bx2_211 sf_k1]
        exact pm_R_ret pm_M186 (r := some (.int 1)) rfl rfl (K1 m_211 w_211 h_211 T_211 F_211 W214 (⟨f215, e216, ct217, fun z => (bd218 z)⟩) (sf_aux51 _ _ X_211.2))
      · have B225 : sf_B 1 4 (m_211 13) := sf_neL0 c223 sf_k0 B222
        refine pm_R_lo pm_M186 (pc' := 14) rfl rfl rfl ?_
        have B226 : sf_B 0 600 (m_211 12) := T_211.2.2.1 12
        refine rf_R_get pm_M186 T_211 (pc' := 17) (v := .int (m_211 12)) rfl rfl rfl rfl ?_
        refine pm_R_lo pm_M186 (pc' := 18) (ls' := [.ref 41, .int 2, .int x2_211, .int (m_211 12), g4_211, g5_211]) (st' := []) rfl rfl rfl ?_
        refine pm_R_lo pm_M186 (pc' := 19) rfl rfl rfl ?_
        refine rf_R_get pm_M186 T_211 (pc' := 22) (v := .int (m_211 13)) rfl rfl rfl rfl ?_
        refine pm_R_op pm_M186 (pc' := 23) (st' := [.int 2, .int (m_211 13)]) rfl rfl rfl ?_
        refine pm_R_icmp pm_M186 (t := 33) (pc' := 26) rfl rfl rfl (fun c227 => ?_) (fun c227 => ?_)
        · skip
          refine pm_R_op pm_M186 (pc' := 34) (st' := [.long 0]) rfl rfl rfl ?_
          refine pm_R_lo pm_M186 (pc' := 36) (ls' := [.ref 41, .int 2, .int x2_211, .int (m_211 12), .long 0, pm_no]) (st' := []) rfl rfl rfl ?_
          refine pm_R_lo pm_M186 (pc' := 37) rfl rfl rfl ?_
          refine pm_R_op pm_M186 (pc' := 38) (st' := [.int 1, .ref 41]) rfl rfl rfl ?_
          refine rf_R_put pm_M186 T_211 (pc' := 41) rfl rfl rfl (by decide) rfl rfl (sf_weak sf_k1 (by decide) (by decide)) rfl rfl (fun h228 m231 em232 T229 F230 => ?_)
          have F233 := F_211.trans F230 (by decide)
          have B234 : sf_B 0 4 (m231 17) := by rw [em232]; exact B219
          have ek235 : (m231 17).toInt = ((m_211 17)).toInt := by rw [em232]; rfl
          have B236 : sf_B 0 600 (m231 10) := by rw [em232]; exact B220
          have ek237 : (m231 10).toInt = ((m_211 10)).toInt := by rw [em232]; rfl
          have B238 : sf_B 1 4 (m231 13) := by rw [em232]; exact B225
          have B239 : sf_B 1 1 (m231 22) := by rw [em232]; exact sf_k1
          have W241 : rf_W [10, 12, 13, 14, 16, 17, 18, 21, 22] m m231 := by rw [em232]; exact W214.put (by decide)
          have W242 : rf_W [10, 12, 13, 14, 16, 17, 18, 21, 22] m m231 := by rw [em232]; exact W_211.put (by decide)
          refine pm_R_lo pm_M186 (pc' := 42) rfl rfl rfl ?_
          refine pm_R_br pm_M186 (pc' := 55) (st' := []) rfl rfl ?_
          refine pm_R_lo pm_M186 (pc' := 56) rfl rfl rfl ?_
          refine pm_R_op pm_M186 (pc' := 57) (st' := [.int 2, .int 2]) rfl rfl rfl ?_
          refine pm_R_br pm_M186 (pc' := 60) (st' := []) rfl rfl ?_
          refine pm_R_lo pm_M186 (pc' := 61) rfl rfl rfl ?_
          refine pm_R_lo pm_M186 (pc' := 63) rfl rfl rfl ?_
          refine pm_R_lo pm_M186 (pc' := 64) rfl rfl rfl ?_
          refine pm_R_cv pm_M186 (pc' := 67) (a := 41) (ra := [.int (m_211 12), .long 0]) (rest := []) (ls' := [.ref 41, .long 0, pm_no, .int (m_211 12), pm_no]) rfl rfl (Or.inl rfl) pm_M189 T229.2.1 rfl (by decide) (Nat.lt_of_lt_of_le (by decide) T229.1) rfl rfl (Nat.le_of_ble_eq_true rfl) rfl rfl ?_
          have e243 := (F230.cell (by decide) e216)
          refine rf_c189 (d := d + 0) T229 B226 (⟨f215, e243, ct217, fun z => (bd218 (sf_aux79 _ _ ek235 z))⟩) (fun m246 w247 h248 T249 F250 W251 X252 => ?_) (fun m255 w256 h257 T258 F259 W260 X261 X262 => ?_)
          · have F263 := F233.trans F250 (by decide)
            have W264 : rf_W [10, 12, 13, 14, 16, 17, 18, 21, 22] m m246 := W241.trans W251 (by decide)
            have W265 : rf_W [10, 12, 13, 14, 16, 17, 18, 21, 22] m m246 := W242.trans W251 (by decide)
            have B266 : sf_B 0 600 (m246 10) := T249.2.2.1 10
            have B267 : sf_B 0 4 (m246 17) := T249.2.2.1 17
            have B268 : sf_B 0 1 (m246 22) := T249.2.2.1 22
            show pm_R _ 186 67 [.ref 41, .int 2, .int x2_211, .int (m_211 12), .long 0, pm_no] [.int 0] _ _
            have R269 : (m 10).toInt ≤ (m246 10).toInt := (sf_aux77 _ _ _ _ ek237 X_211.2 X252)
            have R270 : (m_211 10).toInt ≤ (m246 10).toInt := (sf_aux80 _ _ _ _ ek237 X_211.2 X252)
            refine pm_R_br pm_M186 (pc' := 77) rfl rfl ?_
            refine pm_R_lo pm_M186 (pc' := 78) (ls' := [.ref 41, .int 2, .int 0, .int (m_211 12), .long 0, pm_no]) (st' := []) rfl rfl rfl ?_
            refine pm_R_lo pm_M186 (pc' := 79) rfl rfl rfl ?_
            refine pm_R_br pm_M186 (pc' := 95) (st' := []) rfl rfl ?_
            refine pm_R_lo pm_M186 (pc' := 96) rfl rfl rfl ?_
            refine pm_R_br pm_M186 (pc' := 103) (st' := []) rfl rfl ?_
            refine pm_R_br pm_M186 (pc' := 2) rfl rfl ?_
            refine pm_R_lo pm_M186 (pc' := 3) rfl rfl rfl ?_
            refine pm_R_br pm_M186 (pc' := 106) (st' := []) rfl rfl ?_
            refine pm_R_lo pm_M186 (pc' := 107) rfl rfl rfl ?_
            exact pm_R_ret pm_M186 (r := some (.int 0)) rfl rfl (K0 m246 w247 h248 T249 F263 W264 (sf_aux81 _ _ _ R269 R270))
          · have F271 := F233.trans F259 (by decide)
            have W272 : rf_W [10, 12, 13, 14, 16, 17, 18, 21, 22] m m255 := W241.trans W260 (by decide)
            have W273 : rf_W [10, 12, 13, 14, 16, 17, 18, 21, 22] m m255 := W242.trans W260 (by decide)
            have B274 : sf_B 0 600 (m255 10) := T258.2.2.1 10
            have B275 : sf_B 0 4 (m255 17) := T258.2.2.1 17
            have B276 : sf_B 0 1 (m255 22) := T258.2.2.1 22
            show pm_R _ 186 67 [.ref 41, .int 2, .int x2_211, .int (m_211 12), .long 0, pm_no] [.int 1] _ _
            have R277 : (m 10).toInt ≤ (m255 10).toInt := (sf_aux77 _ _ _ _ ek237 X_211.2 X262)
            have R278 : (m_211 10).toInt ≤ (m255 10).toInt := (sf_aux80 _ _ _ _ ek237 X_211.2 X262)
            obtain ⟨f279, e280, ct281, bd282⟩ := X261
            refine pm_R_br pm_M186 (pc' := 77) rfl rfl ?_
            refine pm_R_lo pm_M186 (pc' := 78) (ls' := [.ref 41, .int 2, .int 1, .int (m_211 12), .long 0, pm_no]) (st' := []) rfl rfl rfl ?_
            refine pm_R_lo pm_M186 (pc' := 79) rfl rfl rfl ?_
            refine pm_R_br pm_M186 (pc' := 82) (st' := []) rfl rfl ?_
            refine pm_R_lo pm_M186 (pc' := 83) rfl rfl rfl ?_
            have B283 : sf_B 0 4 (m255 13) := T258.2.2.1 13
            refine rf_R_get pm_M186 T258 (pc' := 86) (v := .int (m255 13)) rfl rfl rfl rfl ?_
            refine pm_R_op pm_M186 (pc' := 87) (st' := [.int 4, .int (m255 13)]) rfl rfl rfl ?_
            refine pm_R_icmp pm_M186 (t := 95) (pc' := 90) rfl rfl rfl (fun c284 => ?_) (fun c284 => ?_)
            · have B285 : sf_B 4 4 (m255 13) := sf_eqL c284 sf_k4
              refine pm_R_lo pm_M186 (pc' := 96) rfl rfl rfl ?_
              refine pm_R_br pm_M186 (pc' := 99) (st' := []) rfl rfl ?_
              refine pm_R_lo pm_M186 (pc' := 100) rfl rfl rfl ?_
              refine pm_R_cv pm_M186 (pc' := 103) (a := 41) (ra := []) (rest := []) (ls' := [.ref 41, pm_no, pm_no]) rfl rfl (Or.inl rfl) pm_M179 T258.2.1 rfl (by decide) (Nat.lt_of_lt_of_le (by decide) T258.1) rfl rfl (Nat.le_of_ble_eq_true rfl) rfl rfl ?_
              refine rf_c179 (d := d + 3) T258  (fun m288 w289 h290 T291 F292 W293 X294 X295 => ?_)
              have F296 := F271.trans F292 (by decide)
              have B297 : sf_B 0 4 (m288 17) := by rw [W293 17 (by decide)]; exact B275
              have ek298 : (m288 17).toInt = ((m255 17)).toInt := by rw [W293 17 (by decide)]
              have B299 : sf_B 0 1 (m288 22) := by rw [W293 22 (by decide)]; exact B276
              have ek300 : (m288 22).toInt = ((m255 22)).toInt := by rw [W293 22 (by decide)]
              have W301 : rf_W [10, 12, 13, 14, 16, 17, 18, 21, 22] m m288 := W272.trans W293 (by decide)
              have W302 : rf_W [10, 12, 13, 14, 16, 17, 18, 21, 22] m m288 := W273.trans W293 (by decide)
              have B303 : sf_B 0 600 (m288 10) := T291.2.2.1 10
              show pm_R _ 186 103 [.ref 41, .int 2, .int 1, .int (m_211 12), .long 0, pm_no] [] _ _
              have R304 : (m 10).toInt ≤ (m288 10).toInt := (sf_aux85 _ _ _ _ R277 R278 X294)
              have R305 : (m_211 10).toInt ≤ (m288 10).toInt := (sf_aux86 _ _ _ _ R277 R278 X294)
              refine pm_R_br pm_M186 (pc' := 2) rfl rfl ?_
              have B306 : sf_B 0 4 (m288 13) := T291.2.2.1 13
              have e307 := (F292.cell (by decide) e280)
              exact ih_211 _ (rf_mu hN_211 (sf_ne0 c223) (sf_aux87 _ _ _ R277 R278) X294 X295 B303.2) h290 m288 w289 1 (.int (m_211 12)) (.long 0) (pm_no) T291 F296 W302 sf_k1 rfl rfl ⟨⟨f279, e307, ct281, fun z => (bd282 (sf_aux79 _ _ ek298 z))⟩, (sf_aux81 _ _ _ R304 R305)⟩ rfl
            · have B308 : sf_B 0 3 (m255 13) := sf_neH0 c284 sf_k4 B283
              refine pm_R_lo pm_M186 (pc' := 91) rfl rfl rfl ?_
              refine pm_R_cv pm_M186 (pc' := 94) (a := 41) (ra := []) (rest := []) (ls' := [.ref 41]) rfl rfl (Or.inl rfl) pm_M184 T258.2.1 rfl (by decide) (Nat.lt_of_lt_of_le (by decide) T258.1) rfl rfl (Nat.le_of_ble_eq_true rfl) rfl rfl ?_
              refine pm_R_lo pm_M184 (pc' := 1) rfl rfl rfl ?_
              refine pm_R_lo pm_M184 (pc' := 2) rfl rfl rfl ?_
              have B309 : sf_B 0 600 (m255 12) := T258.2.2.1 12
              refine rf_R_get pm_M184 T258 (pc' := 5) (v := .int (m255 12)) rfl rfl rfl rfl ?_
              refine rf_R_put pm_M184 T258 (pc' := 8) rfl rfl rfl (by decide) rfl rfl B309 rfl rfl (fun h310 m313 em314 T311 F312 => ?_)
              have F315 := F271.trans F312 (by decide)
              have B316 : sf_B 0 600 (m313 10) := by rw [em314]; exact B274
              have ek317 : (m313 10).toInt = ((m255 10)).toInt := by rw [em314]; rfl
              have B318 : sf_B 0 4 (m313 17) := by rw [em314]; exact B275
              have ek319 : (m313 17).toInt = ((m255 17)).toInt := by rw [em314]; rfl
              have B320 : sf_B 0 1 (m313 22) := by rw [em314]; exact B276
              have ek321 : (m313 22).toInt = ((m255 22)).toInt := by rw [em314]; rfl
              have B322 : sf_B 0 3 (m313 13) := by rw [em314]; exact B308
              have B323 : sf_B 0 600 (m313 16) := by rw [em314]; exact B309
              have ek324 : (m313 16).toInt = ((m255 12)).toInt := by rw [em314]; rfl
              have W325 : rf_W [10, 12, 13, 14, 16, 17, 18, 21, 22] m m313 := by rw [em314]; exact W272.put (by decide)
              have W326 : rf_W [10, 12, 13, 14, 16, 17, 18, 21, 22] m m313 := by rw [em314]; exact W273.put (by decide)
              refine pm_R_op pm_M184 (pc' := 9) (st' := [.int 0]) rfl rfl rfl ?_
              refine pm_R_ret pm_M184 (r := some (.int 0)) rfl rfl ?_
              show pm_R _ 186 94 [.ref 41, .int 2, .int 1, .int (m_211 12), .long 0, pm_no] [.int 0] _ _
              refine pm_R_lo pm_M186 (pc' := 95) (ls' := [.ref 41, .int 2, .int 0, .int (m_211 12), .long 0, pm_no]) (st' := []) rfl rfl rfl ?_
              refine pm_R_lo pm_M186 (pc' := 96) rfl rfl rfl ?_
              refine pm_R_br pm_M186 (pc' := 103) (st' := []) rfl rfl ?_
              refine pm_R_br pm_M186 (pc' := 2) rfl rfl ?_
              refine pm_R_lo pm_M186 (pc' := 3) rfl rfl rfl ?_
              refine pm_R_br pm_M186 (pc' := 106) (st' := []) rfl rfl ?_
              refine pm_R_lo pm_M186 (pc' := 107) rfl rfl rfl ?_
              exact pm_R_ret pm_M186 (r := some (.int 0)) rfl rfl (K0 m313 w256 h310 T311 F315 W325 (sf_aux83 _ _ _ _ ek317 R277 R278))
        · have B327 : sf_B 2 2 (m_211 13) := sf_eqL (Classical.not_not.mp c227) sf_k2
          refine pm_R_lo pm_M186 (pc' := 27) rfl rfl rfl ?_
          refine rf_R_get pm_M186 T_211 (pc' := 30) (v := .long w_211) rfl rfl rfl rfl ?_
          refine pm_R_br pm_M186 (pc' := 34) rfl rfl ?_
          refine pm_R_lo pm_M186 (pc' := 36) (ls' := [.ref 41, .int 2, .int x2_211, .int (m_211 12), .long w_211, pm_no]) (st' := []) rfl rfl rfl ?_
          refine pm_R_lo pm_M186 (pc' := 37) rfl rfl rfl ?_
          refine pm_R_op pm_M186 (pc' := 38) (st' := [.int 1, .ref 41]) rfl rfl rfl ?_
          refine rf_R_put pm_M186 T_211 (pc' := 41) rfl rfl rfl (by decide) rfl rfl (sf_weak sf_k1 (by decide) (by decide)) rfl rfl (fun h328 m331 em332 T329 F330 => ?_)
          have F333 := F_211.trans F330 (by decide)
          have B334 : sf_B 0 4 (m331 17) := by rw [em332]; exact B219
          have ek335 : (m331 17).toInt = ((m_211 17)).toInt := by rw [em332]; rfl
          have B336 : sf_B 0 600 (m331 10) := by rw [em332]; exact B220
          have ek337 : (m331 10).toInt = ((m_211 10)).toInt := by rw [em332]; rfl
          have B338 : sf_B 2 2 (m331 13) := by rw [em332]; exact B327
          have B339 : sf_B 1 1 (m331 22) := by rw [em332]; exact sf_k1
          have W341 : rf_W [10, 12, 13, 14, 16, 17, 18, 21, 22] m m331 := by rw [em332]; exact W214.put (by decide)
          have W342 : rf_W [10, 12, 13, 14, 16, 17, 18, 21, 22] m m331 := by rw [em332]; exact W_211.put (by decide)
          refine pm_R_lo pm_M186 (pc' := 42) rfl rfl rfl ?_
          refine pm_R_br pm_M186 (pc' := 55) (st' := []) rfl rfl ?_
          refine pm_R_lo pm_M186 (pc' := 56) rfl rfl rfl ?_
          refine pm_R_op pm_M186 (pc' := 57) (st' := [.int 2, .int 2]) rfl rfl rfl ?_
          refine pm_R_br pm_M186 (pc' := 60) (st' := []) rfl rfl ?_
          refine pm_R_lo pm_M186 (pc' := 61) rfl rfl rfl ?_
          refine pm_R_lo pm_M186 (pc' := 63) rfl rfl rfl ?_
          refine pm_R_lo pm_M186 (pc' := 64) rfl rfl rfl ?_
          refine pm_R_cv pm_M186 (pc' := 67) (a := 41) (ra := [.int (m_211 12), .long w_211]) (rest := []) (ls' := [.ref 41, .long w_211, pm_no, .int (m_211 12), pm_no]) rfl rfl (Or.inl rfl) pm_M189 T329.2.1 rfl (by decide) (Nat.lt_of_lt_of_le (by decide) T329.1) rfl rfl (Nat.le_of_ble_eq_true rfl) rfl rfl ?_
          have e343 := (F330.cell (by decide) e216)
          refine rf_c189 (d := d + 0) T329 B226 (⟨f215, e343, ct217, fun z => (bd218 (sf_aux79 _ _ ek335 z))⟩) (fun m346 w347 h348 T349 F350 W351 X352 => ?_) (fun m355 w356 h357 T358 F359 W360 X361 X362 => ?_)
          · have F363 := F333.trans F350 (by decide)
            have W364 : rf_W [10, 12, 13, 14, 16, 17, 18, 21, 22] m m346 := W341.trans W351 (by decide)
            have W365 : rf_W [10, 12, 13, 14, 16, 17, 18, 21, 22] m m346 := W342.trans W351 (by decide)
            have B366 : sf_B 0 600 (m346 10) := T349.2.2.1 10
            have B367 : sf_B 0 4 (m346 17) := T349.2.2.1 17
            have B368 : sf_B 0 1 (m346 22) := T349.2.2.1 22
            show pm_R _ 186 67 [.ref 41, .int 2, .int x2_211, .int (m_211 12), .long w_211, pm_no] [.int 0] _ _
            have R369 : (m 10).toInt ≤ (m346 10).toInt := (sf_aux77 _ _ _ _ ek337 X_211.2 X352)
            have R370 : (m_211 10).toInt ≤ (m346 10).toInt := (sf_aux80 _ _ _ _ ek337 X_211.2 X352)
            refine pm_R_br pm_M186 (pc' := 77) rfl rfl ?_
            refine pm_R_lo pm_M186 (pc' := 78) (ls' := [.ref 41, .int 2, .int 0, .int (m_211 12), .long w_211, pm_no]) (st' := []) rfl rfl rfl ?_
            refine pm_R_lo pm_M186 (pc' := 79) rfl rfl rfl ?_
            refine pm_R_br pm_M186 (pc' := 95) (st' := []) rfl rfl ?_
            refine pm_R_lo pm_M186 (pc' := 96) rfl rfl rfl ?_
            refine pm_R_br pm_M186 (pc' := 103) (st' := []) rfl rfl ?_
            refine pm_R_br pm_M186 (pc' := 2) rfl rfl ?_
            refine pm_R_lo pm_M186 (pc' := 3) rfl rfl rfl ?_
            refine pm_R_br pm_M186 (pc' := 106) (st' := []) rfl rfl ?_
            refine pm_R_lo pm_M186 (pc' := 107) rfl rfl rfl ?_
            exact pm_R_ret pm_M186 (r := some (.int 0)) rfl rfl (K0 m346 w347 h348 T349 F363 W364 (sf_aux81 _ _ _ R369 R370))
          · have F371 := F333.trans F359 (by decide)
            have W372 : rf_W [10, 12, 13, 14, 16, 17, 18, 21, 22] m m355 := W341.trans W360 (by decide)
            have W373 : rf_W [10, 12, 13, 14, 16, 17, 18, 21, 22] m m355 := W342.trans W360 (by decide)
            have B374 : sf_B 0 600 (m355 10) := T358.2.2.1 10
            have B375 : sf_B 0 4 (m355 17) := T358.2.2.1 17
            have B376 : sf_B 0 1 (m355 22) := T358.2.2.1 22
            show pm_R _ 186 67 [.ref 41, .int 2, .int x2_211, .int (m_211 12), .long w_211, pm_no] [.int 1] _ _
            have R377 : (m 10).toInt ≤ (m355 10).toInt := (sf_aux77 _ _ _ _ ek337 X_211.2 X362)
            have R378 : (m_211 10).toInt ≤ (m355 10).toInt := (sf_aux80 _ _ _ _ ek337 X_211.2 X362)
            obtain ⟨f379, e380, ct381, bd382⟩ := X361
            refine pm_R_br pm_M186 (pc' := 77) rfl rfl ?_
            refine pm_R_lo pm_M186 (pc' := 78) (ls' := [.ref 41, .int 2, .int 1, .int (m_211 12), .long w_211, pm_no]) (st' := []) rfl rfl rfl ?_
            refine pm_R_lo pm_M186 (pc' := 79) rfl rfl rfl ?_
            refine pm_R_br pm_M186 (pc' := 82) (st' := []) rfl rfl ?_
            refine pm_R_lo pm_M186 (pc' := 83) rfl rfl rfl ?_
            have B383 : sf_B 0 4 (m355 13) := T358.2.2.1 13
            refine rf_R_get pm_M186 T358 (pc' := 86) (v := .int (m355 13)) rfl rfl rfl rfl ?_
            refine pm_R_op pm_M186 (pc' := 87) (st' := [.int 4, .int (m355 13)]) rfl rfl rfl ?_
            refine pm_R_icmp pm_M186 (t := 95) (pc' := 90) rfl rfl rfl (fun c384 => ?_) (fun c384 => ?_)
            · have B385 : sf_B 4 4 (m355 13) := sf_eqL c384 sf_k4
              refine pm_R_lo pm_M186 (pc' := 96) rfl rfl rfl ?_
              refine pm_R_br pm_M186 (pc' := 99) (st' := []) rfl rfl ?_
              refine pm_R_lo pm_M186 (pc' := 100) rfl rfl rfl ?_
              refine pm_R_cv pm_M186 (pc' := 103) (a := 41) (ra := []) (rest := []) (ls' := [.ref 41, pm_no, pm_no]) rfl rfl (Or.inl rfl) pm_M179 T358.2.1 rfl (by decide) (Nat.lt_of_lt_of_le (by decide) T358.1) rfl rfl (Nat.le_of_ble_eq_true rfl) rfl rfl ?_
              refine rf_c179 (d := d + 3) T358  (fun m388 w389 h390 T391 F392 W393 X394 X395 => ?_)
              have F396 := F371.trans F392 (by decide)
              have B397 : sf_B 0 4 (m388 17) := by rw [W393 17 (by decide)]; exact B375
              have ek398 : (m388 17).toInt = ((m355 17)).toInt := by rw [W393 17 (by decide)]
              have B399 : sf_B 0 1 (m388 22) := by rw [W393 22 (by decide)]; exact B376
              have ek400 : (m388 22).toInt = ((m355 22)).toInt := by rw [W393 22 (by decide)]
              have W401 : rf_W [10, 12, 13, 14, 16, 17, 18, 21, 22] m m388 := W372.trans W393 (by decide)
              have W402 : rf_W [10, 12, 13, 14, 16, 17, 18, 21, 22] m m388 := W373.trans W393 (by decide)
              have B403 : sf_B 0 600 (m388 10) := T391.2.2.1 10
              show pm_R _ 186 103 [.ref 41, .int 2, .int 1, .int (m_211 12), .long w_211, pm_no] [] _ _
              have R404 : (m 10).toInt ≤ (m388 10).toInt := (sf_aux85 _ _ _ _ R377 R378 X394)
              have R405 : (m_211 10).toInt ≤ (m388 10).toInt := (sf_aux86 _ _ _ _ R377 R378 X394)
              refine pm_R_br pm_M186 (pc' := 2) rfl rfl ?_
              have B406 : sf_B 0 4 (m388 13) := T391.2.2.1 13
              have e407 := (F392.cell (by decide) e380)
              exact ih_211 _ (rf_mu hN_211 (sf_ne0 c223) (sf_aux87 _ _ _ R377 R378) X394 X395 B403.2) h390 m388 w389 1 (.int (m_211 12)) (.long w_211) (pm_no) T391 F396 W402 sf_k1 rfl rfl ⟨⟨f379, e407, ct381, fun z => (bd382 (sf_aux79 _ _ ek398 z))⟩, (sf_aux81 _ _ _ R404 R405)⟩ rfl
            · have B408 : sf_B 0 3 (m355 13) := sf_neH0 c384 sf_k4 B383
              refine pm_R_lo pm_M186 (pc' := 91) rfl rfl rfl ?_
              refine pm_R_cv pm_M186 (pc' := 94) (a := 41) (ra := []) (rest := []) (ls' := [.ref 41]) rfl rfl (Or.inl rfl) pm_M184 T358.2.1 rfl (by decide) (Nat.lt_of_lt_of_le (by decide) T358.1) rfl rfl (Nat.le_of_ble_eq_true rfl) rfl rfl ?_
              refine pm_R_lo pm_M184 (pc' := 1) rfl rfl rfl ?_
              refine pm_R_lo pm_M184 (pc' := 2) rfl rfl rfl ?_
              have B409 : sf_B 0 600 (m355 12) := T358.2.2.1 12
              refine rf_R_get pm_M184 T358 (pc' := 5) (v := .int (m355 12)) rfl rfl rfl rfl ?_
              refine rf_R_put pm_M184 T358 (pc' := 8) rfl rfl rfl (by decide) rfl rfl B409 rfl rfl (fun h410 m413 em414 T411 F412 => ?_)
              have F415 := F371.trans F412 (by decide)
              have B416 : sf_B 0 600 (m413 10) := by rw [em414]; exact B374
              have ek417 : (m413 10).toInt = ((m355 10)).toInt := by rw [em414]; rfl
              have B418 : sf_B 0 4 (m413 17) := by rw [em414]; exact B375
              have ek419 : (m413 17).toInt = ((m355 17)).toInt := by rw [em414]; rfl
              have B420 : sf_B 0 1 (m413 22) := by rw [em414]; exact B376
              have ek421 : (m413 22).toInt = ((m355 22)).toInt := by rw [em414]; rfl
              have B422 : sf_B 0 3 (m413 13) := by rw [em414]; exact B408
              have B423 : sf_B 0 600 (m413 16) := by rw [em414]; exact B409
              have ek424 : (m413 16).toInt = ((m355 12)).toInt := by rw [em414]; rfl
              have W425 : rf_W [10, 12, 13, 14, 16, 17, 18, 21, 22] m m413 := by rw [em414]; exact W372.put (by decide)
              have W426 : rf_W [10, 12, 13, 14, 16, 17, 18, 21, 22] m m413 := by rw [em414]; exact W373.put (by decide)
              refine pm_R_op pm_M184 (pc' := 9) (st' := [.int 0]) rfl rfl rfl ?_
              refine pm_R_ret pm_M184 (r := some (.int 0)) rfl rfl ?_
              show pm_R _ 186 94 [.ref 41, .int 2, .int 1, .int (m_211 12), .long w_211, pm_no] [.int 0] _ _
              refine pm_R_lo pm_M186 (pc' := 95) (ls' := [.ref 41, .int 2, .int 0, .int (m_211 12), .long w_211, pm_no]) (st' := []) rfl rfl rfl ?_
              refine pm_R_lo pm_M186 (pc' := 96) rfl rfl rfl ?_
              refine pm_R_br pm_M186 (pc' := 103) (st' := []) rfl rfl ?_
              refine pm_R_br pm_M186 (pc' := 2) rfl rfl ?_
              refine pm_R_lo pm_M186 (pc' := 3) rfl rfl rfl ?_
              refine pm_R_br pm_M186 (pc' := 106) (st' := []) rfl rfl ?_
              refine pm_R_lo pm_M186 (pc' := 107) rfl rfl rfl ?_
              exact pm_R_ret pm_M186 (r := some (.int 0)) rfl rfl (K0 m413 w356 h410 T411 F415 W425 (sf_aux83 _ _ _ _ ek417 R377 R378))
  exact L_211 _ h m w 1 (pm_no) (pm_no) (pm_no) T (rf_G.refl [41, 51, 52] h) (rf_W.refl _ _) sf_k1 rfl rfl ⟨⟨f2, e3, ct4, fun z => (bd5 z)⟩, (sf_aux50 _ )⟩ rfl

set_option maxRecDepth 100000 in
set_option maxHeartbeats 4000000 in
/-- SilentTableModel.lines -/
theorem rf_c186_3 {d : Nat} {m : Nat → Int32} {w : Int64} {h : pm_H} {Q : Option Value → pm_H → Prop}  (T : rf_T m w h) (X : rf_I 3 (m 17) h) (K0 : ∀ (m' : Nat → Int32) (w' : Int64) (h' : pm_H), rf_T m' w' h' → rf_G [41, 51, 52] h h' → rf_W [10, 12, 13, 14, 16, 17, 18, 21, 22] m m' → (m 10).toInt ≤ (m' 10).toInt → Q (some (.int 0)) h') (K1 : ∀ (m' : Nat → Int32) (w' : Int64) (h' : pm_H), rf_T m' w' h' → rf_G [41, 51, 52] h h' → rf_W [10, 12, 13, 14, 16, 17, 18, 21, 22] m m' → rf_I 3 (m' 17) h' → (m 10).toInt ≤ (m' 10).toInt → Q (some (.int 1)) h') : pm_R (d + 5) 186 0 [.ref 41, .int 3, pm_no, pm_no, pm_no, pm_no] [] h Q := by
  have B1 : sf_B 0 600 (m 10) := T.2.2.1 10
  obtain ⟨f2, e3, ct4, bd5⟩ := X
  have B6 : sf_B 0 4 (m 17) := T.2.2.1 17
  refine pm_R_op pm_M186 (pc' := 1) (st' := [.int 1]) rfl rfl rfl ?_
  refine pm_R_lo pm_M186 (pc' := 2) (ls' := [.ref 41, .int 3, .int 1, pm_no, pm_no, pm_no]) (st' := []) rfl rfl rfl ?_
  have L_211 : ∀ (N : Nat) (h_211 : pm_H) (m_211 : Nat → Int32) (w_211 : Int64) (x2_211 : Int32) (g3_211 : Value) (g4_211 : Value) (g5_211 : Value), rf_T m_211 w_211 h_211 → rf_G [41, 51, 52] h h_211 → rf_W [10, 12, 13, 14, 16, 17, 18, 21, 22] m m_211 → sf_B 1 1 x2_211 → g3_211.category = 1 → g5_211.category = 1 → rf_I 3 (m_211 17) h_211 ∧ (m 10).toInt ≤ (m_211 10).toInt → ((600 - (m_211 10).toInt).toNat + (if (m_211 13).toInt = 0 then 0 else 1)) = N → pm_R (d + 5) 186 2 [.ref 41, .int 3, .int x2_211, g3_211, g4_211, g5_211] [] h_211 Q := by
    intro N
    induction N using Nat.strongRecOn with
    | ind N ih_211 =>
      intro h_211 m_211 w_211 x2_211 g3_211 g4_211 g5_211 T_211 F_211 W_211 Bx2_211 Cg3_211 Cg5_211 X_211 hN_211
      have W214 : rf_W [10, 12, 13, 14, 16, 17, 18, 21, 22] m m_211 := (rf_W.refl [10, 12, 13, 14, 16, 17, 18, 21, 22] m).trans W_211 (by decide)
      obtain ⟨f215, e216, ct217, bd218⟩ := X_211.1
      have B219 : sf_B 0 4 (m_211 17) := T_211.2.2.1 17
      have B220 : sf_B 0 600 (m_211 10) := T_211.2.2.1 10
      refine pm_R_lo pm_M186 (pc' := 3) rfl rfl rfl ?_
      refine pm_R_ifc pm_M186 (t := 106) (pc' := 6) rfl rfl rfl (fun c221 => absurd c221 (sf_neq1 Bx2_211 sf_k0 (by decide))) (fun c221 => ?_)
      skip
      refine pm_R_lo pm_M186 (pc' := 7) rfl rfl rfl ?_
      have B222 : sf_B 0 4 (m_211 13) := T_211.2.2.1 13
      refine rf_R_get pm_M186 T_211 (pc' := 10) (v := .int (m_211 13)) rfl rfl rfl rfl ?_
      refine pm_R_ifc pm_M186 (t := 106) (pc' := 13) rfl rfl rfl (fun c223 => ?_) (fun c223 => ?_)
      · have B224 : sf_B 0 0 (m_211 13) := sf_eqL c223 sf_k0
        refine pm_R_lo pm_M186 (pc' := 107) rfl rfl rfl ?_
        rw [sf_pt2 Bx2_211 sf_k1]
        exact pm_R_ret pm_M186 (r := some (.int 1)) rfl rfl (K1 m_211 w_211 h_211 T_211 F_211 W214 (⟨f215, e216, ct217, fun z => (bd218 z)⟩) (sf_aux51 _ _ X_211.2))
      · have B225 : sf_B 1 4 (m_211 13) := sf_neL0 c223 sf_k0 B222
        refine pm_R_lo pm_M186 (pc' := 14) rfl rfl rfl ?_
        have B226 : sf_B 0 600 (m_211 12) := T_211.2.2.1 12
        refine rf_R_get pm_M186 T_211 (pc' := 17) (v := .int (m_211 12)) rfl rfl rfl rfl ?_
        refine pm_R_lo pm_M186 (pc' := 18) (ls' := [.ref 41, .int 3, .int x2_211, .int (m_211 12), g4_211, g5_211]) (st' := []) rfl rfl rfl ?_
        refine pm_R_lo pm_M186 (pc' := 19) rfl rfl rfl ?_
        refine rf_R_get pm_M186 T_211 (pc' := 22) (v := .int (m_211 13)) rfl rfl rfl rfl ?_
        refine pm_R_op pm_M186 (pc' := 23) (st' := [.int 2, .int (m_211 13)]) rfl rfl rfl ?_
        refine pm_R_icmp pm_M186 (t := 33) (pc' := 26) rfl rfl rfl (fun c227 => ?_) (fun c227 => ?_)
        · skip
          refine pm_R_op pm_M186 (pc' := 34) (st' := [.long 0]) rfl rfl rfl ?_
          refine pm_R_lo pm_M186 (pc' := 36) (ls' := [.ref 41, .int 3, .int x2_211, .int (m_211 12), .long 0, pm_no]) (st' := []) rfl rfl rfl ?_
          refine pm_R_lo pm_M186 (pc' := 37) rfl rfl rfl ?_
          refine pm_R_op pm_M186 (pc' := 38) (st' := [.int 1, .ref 41]) rfl rfl rfl ?_
          refine rf_R_put pm_M186 T_211 (pc' := 41) rfl rfl rfl (by decide) rfl rfl (sf_weak sf_k1 (by decide) (by decide)) rfl rfl (fun h228 m231 em232 T229 F230 => ?_)
          have F233 := F_211.trans F230 (by decide)
          have B234 : sf_B 0 4 (m231 17) := by rw [em232]; exact B219
          have ek235 : (m231 17).toInt = ((m_211 17)).toInt := by rw [em232]; rfl
          have B236 : sf_B 0 600 (m231 10) := by rw [em232]; exact B220
          have ek237 : (m231 10).toInt = ((m_211 10)).toInt := by rw [em232]; rfl
          have B238 : sf_B 1 4 (m231 13) := by rw [em232]; exact B225
          have B239 : sf_B 1 1 (m231 22) := by rw [em232]; exact sf_k1
          have W241 : rf_W [10, 12, 13, 14, 16, 17, 18, 21, 22] m m231 := by rw [em232]; exact W214.put (by decide)
          have W242 : rf_W [10, 12, 13, 14, 16, 17, 18, 21, 22] m m231 := by rw [em232]; exact W_211.put (by decide)
          refine pm_R_lo pm_M186 (pc' := 42) rfl rfl rfl ?_
          refine pm_R_br pm_M186 (pc' := 55) (st' := []) rfl rfl ?_
          refine pm_R_lo pm_M186 (pc' := 56) rfl rfl rfl ?_
          refine pm_R_op pm_M186 (pc' := 57) (st' := [.int 2, .int 3]) rfl rfl rfl ?_
          refine pm_R_br pm_M186 (pc' := 70) (st' := []) rfl rfl ?_
          refine pm_R_lo pm_M186 (pc' := 71) rfl rfl rfl ?_
          refine pm_R_lo pm_M186 (pc' := 73) rfl rfl rfl ?_
          refine pm_R_lo pm_M186 (pc' := 74) rfl rfl rfl ?_
          refine pm_R_cv pm_M186 (pc' := 77) (a := 41) (ra := [.int (m_211 12), .long 0]) (rest := []) (ls' := [.ref 41, .long 0, pm_no, .int (m_211 12), pm_no]) rfl rfl (Or.inl rfl) pm_M192 T229.2.1 rfl (by decide) (Nat.lt_of_lt_of_le (by decide) T229.1) rfl rfl (Nat.le_of_ble_eq_true rfl) rfl rfl ?_
          have e243 := (F230.cell (by decide) e216)
          refine rf_c192 (d := d + 1) T229 B226 (⟨f215, e243, ct217, fun z => (bd218 (sf_aux79 _ _ ek235 z))⟩) (fun m246 w247 h248 T249 F250 W251 X252 => ?_) (fun m255 w256 h257 T258 F259 W260 X261 X262 => ?_)
          · have F263 := F233.trans F250 (by decide)
            have W264 : rf_W [10, 12, 13, 14, 16, 17, 18, 21, 22] m m246 := W241.trans W251 (by decide)
            have W265 : rf_W [10, 12, 13, 14, 16, 17, 18, 21, 22] m m246 := W242.trans W251 (by decide)
            have B266 : sf_B 0 600 (m246 10) := T249.2.2.1 10
            have B267 : sf_B 0 4 (m246 17) := T249.2.2.1 17
            have B268 : sf_B 0 1 (m246 22) := T249.2.2.1 22
            show pm_R _ 186 77 [.ref 41, .int 3, .int x2_211, .int (m_211 12), .long 0, pm_no] [.int 0] _ _
            have R269 : (m 10).toInt ≤ (m246 10).toInt := (sf_aux77 _ _ _ _ ek237 X_211.2 X252)
            have R270 : (m_211 10).toInt ≤ (m246 10).toInt := (sf_aux80 _ _ _ _ ek237 X_211.2 X252)
            refine pm_R_lo pm_M186 (pc' := 78) (ls' := [.ref 41, .int 3, .int 0, .int (m_211 12), .long 0, pm_no]) (st' := []) rfl rfl rfl ?_
            refine pm_R_lo pm_M186 (pc' := 79) rfl rfl rfl ?_
            refine pm_R_br pm_M186 (pc' := 95) (st' := []) rfl rfl ?_
            refine pm_R_lo pm_M186 (pc' := 96) rfl rfl rfl ?_
            refine pm_R_br pm_M186 (pc' := 103) (st' := []) rfl rfl ?_
            refine pm_R_br pm_M186 (pc' := 2) rfl rfl ?_
            refine pm_R_lo pm_M186 (pc' := 3) rfl rfl rfl ?_
            refine pm_R_br pm_M186 (pc' := 106) (st' := []) rfl rfl ?_
            refine pm_R_lo pm_M186 (pc' := 107) rfl rfl rfl ?_
            exact pm_R_ret pm_M186 (r := some (.int 0)) rfl rfl (K0 m246 w247 h248 T249 F263 W264 (sf_aux81 _ _ _ R269 R270))
          · have F271 := F233.trans F259 (by decide)
            have W272 : rf_W [10, 12, 13, 14, 16, 17, 18, 21, 22] m m255 := W241.trans W260 (by decide)
            have W273 : rf_W [10, 12, 13, 14, 16, 17, 18, 21, 22] m m255 := W242.trans W260 (by decide)
            have B274 : sf_B 0 600 (m255 10) := T258.2.2.1 10
            have B275 : sf_B 0 4 (m255 17) := T258.2.2.1 17
            have B276 : sf_B 0 1 (m255 22) := T258.2.2.1 22
            show pm_R _ 186 77 [.ref 41, .int 3, .int x2_211, .int (m_211 12), .long 0, pm_no] [.int 1] _ _
            have R277 : (m 10).toInt ≤ (m255 10).toInt := (sf_aux77 _ _ _ _ ek237 X_211.2 X262)
            have R278 : (m_211 10).toInt ≤ (m255 10).toInt := (sf_aux80 _ _ _ _ ek237 X_211.2 X262)
            obtain ⟨f279, e280, ct281, bd282⟩ := X261
            refine pm_R_lo pm_M186 (pc' := 78) (ls' := [.ref 41, .int 3, .int 1, .int (m_211 12), .long 0, pm_no]) (st' := []) rfl rfl rfl ?_
            refine pm_R_lo pm_M186 (pc' := 79) rfl rfl rfl ?_
            refine pm_R_br pm_M186 (pc' := 82) (st' := []) rfl rfl ?_
            refine pm_R_lo pm_M186 (pc' := 83) rfl rfl rfl ?_
            have B283 : sf_B 0 4 (m255 13) := T258.2.2.1 13
            refine rf_R_get pm_M186 T258 (pc' := 86) (v := .int (m255 13)) rfl rfl rfl rfl ?_
            refine pm_R_op pm_M186 (pc' := 87) (st' := [.int 4, .int (m255 13)]) rfl rfl rfl ?_
            refine pm_R_icmp pm_M186 (t := 95) (pc' := 90) rfl rfl rfl (fun c284 => ?_) (fun c284 => ?_)
            · have B285 : sf_B 4 4 (m255 13) := sf_eqL c284 sf_k4
              refine pm_R_lo pm_M186 (pc' := 96) rfl rfl rfl ?_
              refine pm_R_br pm_M186 (pc' := 99) (st' := []) rfl rfl ?_
              refine pm_R_lo pm_M186 (pc' := 100) rfl rfl rfl ?_
              refine pm_R_cv pm_M186 (pc' := 103) (a := 41) (ra := []) (rest := []) (ls' := [.ref 41, pm_no, pm_no]) rfl rfl (Or.inl rfl) pm_M179 T258.2.1 rfl (by decide) (Nat.lt_of_lt_of_le (by decide) T258.1) rfl rfl (Nat.le_of_ble_eq_true rfl) rfl rfl ?_
              refine rf_c179 (d := d + 3) T258  (fun m288 w289 h290 T291 F292 W293 X294 X295 => ?_)
              have F296 := F271.trans F292 (by decide)
              have B297 : sf_B 0 4 (m288 17) := by rw [W293 17 (by decide)]; exact B275
              have ek298 : (m288 17).toInt = ((m255 17)).toInt := by rw [W293 17 (by decide)]
              have B299 : sf_B 0 1 (m288 22) := by rw [W293 22 (by decide)]; exact B276
              have ek300 : (m288 22).toInt = ((m255 22)).toInt := by rw [W293 22 (by decide)]
              have W301 : rf_W [10, 12, 13, 14, 16, 17, 18, 21, 22] m m288 := W272.trans W293 (by decide)
              have W302 : rf_W [10, 12, 13, 14, 16, 17, 18, 21, 22] m m288 := W273.trans W293 (by decide)
              have B303 : sf_B 0 600 (m288 10) := T291.2.2.1 10
              show pm_R _ 186 103 [.ref 41, .int 3, .int 1, .int (m_211 12), .long 0, pm_no] [] _ _
              have R304 : (m 10).toInt ≤ (m288 10).toInt := (sf_aux85 _ _ _ _ R277 R278 X294)
              have R305 : (m_211 10).toInt ≤ (m288 10).toInt := (sf_aux86 _ _ _ _ R277 R278 X294)
              refine pm_R_br pm_M186 (pc' := 2) rfl rfl ?_
              have B306 : sf_B 0 4 (m288 13) := T291.2.2.1 13
              have e307 := (F292.cell (by decide) e280)
              exact ih_211 _ (rf_mu hN_211 (sf_ne0 c223) (sf_aux87 _ _ _ R277 R278) X294 X295 B303.2) h290 m288 w289 1 (.int (m_211 12)) (.long 0) (pm_no) T291 F296 W302 sf_k1 rfl rfl ⟨⟨f279, e307, ct281, fun z => (bd282 (sf_aux79 _ _ ek298 z))⟩, (sf_aux81 _ _ _ R304 R305)⟩ rfl
            · have B308 : sf_B 0 3 (m255 13) := sf_neH0 c284 sf_k4 B283
              refine pm_R_lo pm_M186 (pc' := 91) rfl rfl rfl ?_
              refine pm_R_cv pm_M186 (pc' := 94) (a := 41) (ra := []) (rest := []) (ls' := [.ref 41]) rfl rfl (Or.inl rfl) pm_M184 T258.2.1 rfl (by decide) (Nat.lt_of_lt_of_le (by decide) T258.1) rfl rfl (Nat.le_of_ble_eq_true rfl) rfl rfl ?_
              refine pm_R_lo pm_M184 (pc' := 1) rfl rfl rfl ?_
              refine pm_R_lo pm_M184 (pc' := 2) rfl rfl rfl ?_
              have B309 : sf_B 0 600 (m255 12) := T258.2.2.1 12
              refine rf_R_get pm_M184 T258 (pc' := 5) (v := .int (m255 12)) rfl rfl rfl rfl ?_
              refine rf_R_put pm_M184 T258 (pc' := 8) rfl rfl rfl (by decide) rfl rfl B309 rfl rfl (fun h310 m313 em314 T311 F312 => ?_)
              have F315 := F271.trans F312 (by decide)
              have B316 : sf_B 0 600 (m313 10) := by rw [em314]; exact B274
              have ek317 : (m313 10).toInt = ((m255 10)).toInt := by rw [em314]; rfl
              have B318 : sf_B 0 4 (m313 17) := by rw [em314]; exact B275
              have ek319 : (m313 17).toInt = ((m255 17)).toInt := by rw [em314]; rfl
              have B320 : sf_B 0 1 (m313 22) := by rw [em314]; exact B276
              have ek321 : (m313 22).toInt = ((m255 22)).toInt := by rw [em314]; rfl
              have B322 : sf_B 0 3 (m313 13) := by rw [em314]; exact B308
              have B323 : sf_B 0 600 (m313 16) := by rw [em314]; exact B309
              have ek324 : (m313 16).toInt = ((m255 12)).toInt := by rw [em314]; rfl
              have W325 : rf_W [10, 12, 13, 14, 16, 17, 18, 21, 22] m m313 := by rw [em314]; exact W272.put (by decide)
              have W326 : rf_W [10, 12, 13, 14, 16, 17, 18, 21, 22] m m313 := by rw [em314]; exact W273.put (by decide)
              refine pm_R_op pm_M184 (pc' := 9) (st' := [.int 0]) rfl rfl rfl ?_
              refine pm_R_ret pm_M184 (r := some (.int 0)) rfl rfl ?_
              show pm_R _ 186 94 [.ref 41, .int 3, .int 1, .int (m_211 12), .long 0, pm_no] [.int 0] _ _
              refine pm_R_lo pm_M186 (pc' := 95) (ls' := [.ref 41, .int 3, .int 0, .int (m_211 12), .long 0, pm_no]) (st' := []) rfl rfl rfl ?_
              refine pm_R_lo pm_M186 (pc' := 96) rfl rfl rfl ?_
              refine pm_R_br pm_M186 (pc' := 103) (st' := []) rfl rfl ?_
              refine pm_R_br pm_M186 (pc' := 2) rfl rfl ?_
              refine pm_R_lo pm_M186 (pc' := 3) rfl rfl rfl ?_
              refine pm_R_br pm_M186 (pc' := 106) (st' := []) rfl rfl ?_
              refine pm_R_lo pm_M186 (pc' := 107) rfl rfl rfl ?_
              exact pm_R_ret pm_M186 (r := some (.int 0)) rfl rfl (K0 m313 w256 h310 T311 F315 W325 (sf_aux83 _ _ _ _ ek317 R277 R278))
        · have B327 : sf_B 2 2 (m_211 13) := sf_eqL (Classical.not_not.mp c227) sf_k2
          refine pm_R_lo pm_M186 (pc' := 27) rfl rfl rfl ?_
          refine rf_R_get pm_M186 T_211 (pc' := 30) (v := .long w_211) rfl rfl rfl rfl ?_
          refine pm_R_br pm_M186 (pc' := 34) rfl rfl ?_
          refine pm_R_lo pm_M186 (pc' := 36) (ls' := [.ref 41, .int 3, .int x2_211, .int (m_211 12), .long w_211, pm_no]) (st' := []) rfl rfl rfl ?_
          refine pm_R_lo pm_M186 (pc' := 37) rfl rfl rfl ?_
          refine pm_R_op pm_M186 (pc' := 38) (st' := [.int 1, .ref 41]) rfl rfl rfl ?_
          refine rf_R_put pm_M186 T_211 (pc' := 41) rfl rfl rfl (by decide) rfl rfl (sf_weak sf_k1 (by decide) (by decide)) rfl rfl (fun h328 m331 em332 T329 F330 => ?_)
          have F333 := F_211.trans F330 (by decide)
          have B334 : sf_B 0 4 (m331 17) := by rw [em332]; exact B219
          have ek335 : (m331 17).toInt = ((m_211 17)).toInt := by rw [em332]; rfl
          have B336 : sf_B 0 600 (m331 10) := by rw [em332]; exact B220
          have ek337 : (m331 10).toInt = ((m_211 10)).toInt := by rw [em332]; rfl
          have B338 : sf_B 2 2 (m331 13) := by rw [em332]; exact B327
          have B339 : sf_B 1 1 (m331 22) := by rw [em332]; exact sf_k1
          have W341 : rf_W [10, 12, 13, 14, 16, 17, 18, 21, 22] m m331 := by rw [em332]; exact W214.put (by decide)
          have W342 : rf_W [10, 12, 13, 14, 16, 17, 18, 21, 22] m m331 := by rw [em332]; exact W_211.put (by decide)
          refine pm_R_lo pm_M186 (pc' := 42) rfl rfl rfl ?_
          refine pm_R_br pm_M186 (pc' := 55) (st' := []) rfl rfl ?_
          refine pm_R_lo pm_M186 (pc' := 56) rfl rfl rfl ?_
          refine pm_R_op pm_M186 (pc' := 57) (st' := [.int 2, .int 3]) rfl rfl rfl ?_
          refine pm_R_br pm_M186 (pc' := 70) (st' := []) rfl rfl ?_
          refine pm_R_lo pm_M186 (pc' := 71) rfl rfl rfl ?_
          refine pm_R_lo pm_M186 (pc' := 73) rfl rfl rfl ?_
          refine pm_R_lo pm_M186 (pc' := 74) rfl rfl rfl ?_
          refine pm_R_cv pm_M186 (pc' := 77) (a := 41) (ra := [.int (m_211 12), .long w_211]) (rest := []) (ls' := [.ref 41, .long w_211, pm_no, .int (m_211 12), pm_no]) rfl rfl (Or.inl rfl) pm_M192 T329.2.1 rfl (by decide) (Nat.lt_of_lt_of_le (by decide) T329.1) rfl rfl (Nat.le_of_ble_eq_true rfl) rfl rfl ?_
          have e343 := (F330.cell (by decide) e216)
          refine rf_c192 (d := d + 1) T329 B226 (⟨f215, e343, ct217, fun z => (bd218 (sf_aux79 _ _ ek335 z))⟩) (fun m346 w347 h348 T349 F350 W351 X352 => ?_) (fun m355 w356 h357 T358 F359 W360 X361 X362 => ?_)
          · have F363 := F333.trans F350 (by decide)
            have W364 : rf_W [10, 12, 13, 14, 16, 17, 18, 21, 22] m m346 := W341.trans W351 (by decide)
            have W365 : rf_W [10, 12, 13, 14, 16, 17, 18, 21, 22] m m346 := W342.trans W351 (by decide)
            have B366 : sf_B 0 600 (m346 10) := T349.2.2.1 10
            have B367 : sf_B 0 4 (m346 17) := T349.2.2.1 17
            have B368 : sf_B 0 1 (m346 22) := T349.2.2.1 22
            show pm_R _ 186 77 [.ref 41, .int 3, .int x2_211, .int (m_211 12), .long w_211, pm_no] [.int 0] _ _
            have R369 : (m 10).toInt ≤ (m346 10).toInt := (sf_aux77 _ _ _ _ ek337 X_211.2 X352)
            have R370 : (m_211 10).toInt ≤ (m346 10).toInt := (sf_aux80 _ _ _ _ ek337 X_211.2 X352)
            refine pm_R_lo pm_M186 (pc' := 78) (ls' := [.ref 41, .int 3, .int 0, .int (m_211 12), .long w_211, pm_no]) (st' := []) rfl rfl rfl ?_
            refine pm_R_lo pm_M186 (pc' := 79) rfl rfl rfl ?_
            refine pm_R_br pm_M186 (pc' := 95) (st' := []) rfl rfl ?_
            refine pm_R_lo pm_M186 (pc' := 96) rfl rfl rfl ?_
            refine pm_R_br pm_M186 (pc' := 103) (st' := []) rfl rfl ?_
            refine pm_R_br pm_M186 (pc' := 2) rfl rfl ?_
            refine pm_R_lo pm_M186 (pc' := 3) rfl rfl rfl ?_
            refine pm_R_br pm_M186 (pc' := 106) (st' := []) rfl rfl ?_
            refine pm_R_lo pm_M186 (pc' := 107) rfl rfl rfl ?_
            exact pm_R_ret pm_M186 (r := some (.int 0)) rfl rfl (K0 m346 w347 h348 T349 F363 W364 (sf_aux81 _ _ _ R369 R370))
          · have F371 := F333.trans F359 (by decide)
            have W372 : rf_W [10, 12, 13, 14, 16, 17, 18, 21, 22] m m355 := W341.trans W360 (by decide)
            have W373 : rf_W [10, 12, 13, 14, 16, 17, 18, 21, 22] m m355 := W342.trans W360 (by decide)
            have B374 : sf_B 0 600 (m355 10) := T358.2.2.1 10
            have B375 : sf_B 0 4 (m355 17) := T358.2.2.1 17
            have B376 : sf_B 0 1 (m355 22) := T358.2.2.1 22
            show pm_R _ 186 77 [.ref 41, .int 3, .int x2_211, .int (m_211 12), .long w_211, pm_no] [.int 1] _ _
            have R377 : (m 10).toInt ≤ (m355 10).toInt := (sf_aux77 _ _ _ _ ek337 X_211.2 X362)
            have R378 : (m_211 10).toInt ≤ (m355 10).toInt := (sf_aux80 _ _ _ _ ek337 X_211.2 X362)
            obtain ⟨f379, e380, ct381, bd382⟩ := X361
            refine pm_R_lo pm_M186 (pc' := 78) (ls' := [.ref 41, .int 3, .int 1, .int (m_211 12), .long w_211, pm_no]) (st' := []) rfl rfl rfl ?_
            refine pm_R_lo pm_M186 (pc' := 79) rfl rfl rfl ?_
            refine pm_R_br pm_M186 (pc' := 82) (st' := []) rfl rfl ?_
            refine pm_R_lo pm_M186 (pc' := 83) rfl rfl rfl ?_
            have B383 : sf_B 0 4 (m355 13) := T358.2.2.1 13
            refine rf_R_get pm_M186 T358 (pc' := 86) (v := .int (m355 13)) rfl rfl rfl rfl ?_
            refine pm_R_op pm_M186 (pc' := 87) (st' := [.int 4, .int (m355 13)]) rfl rfl rfl ?_
            refine pm_R_icmp pm_M186 (t := 95) (pc' := 90) rfl rfl rfl (fun c384 => ?_) (fun c384 => ?_)
            · have B385 : sf_B 4 4 (m355 13) := sf_eqL c384 sf_k4
              refine pm_R_lo pm_M186 (pc' := 96) rfl rfl rfl ?_
              refine pm_R_br pm_M186 (pc' := 99) (st' := []) rfl rfl ?_
              refine pm_R_lo pm_M186 (pc' := 100) rfl rfl rfl ?_
              refine pm_R_cv pm_M186 (pc' := 103) (a := 41) (ra := []) (rest := []) (ls' := [.ref 41, pm_no, pm_no]) rfl rfl (Or.inl rfl) pm_M179 T358.2.1 rfl (by decide) (Nat.lt_of_lt_of_le (by decide) T358.1) rfl rfl (Nat.le_of_ble_eq_true rfl) rfl rfl ?_
              refine rf_c179 (d := d + 3) T358  (fun m388 w389 h390 T391 F392 W393 X394 X395 => ?_)
              have F396 := F371.trans F392 (by decide)
              have B397 : sf_B 0 4 (m388 17) := by rw [W393 17 (by decide)]; exact B375
              have ek398 : (m388 17).toInt = ((m355 17)).toInt := by rw [W393 17 (by decide)]
              have B399 : sf_B 0 1 (m388 22) := by rw [W393 22 (by decide)]; exact B376
              have ek400 : (m388 22).toInt = ((m355 22)).toInt := by rw [W393 22 (by decide)]
              have W401 : rf_W [10, 12, 13, 14, 16, 17, 18, 21, 22] m m388 := W372.trans W393 (by decide)
              have W402 : rf_W [10, 12, 13, 14, 16, 17, 18, 21, 22] m m388 := W373.trans W393 (by decide)
              have B403 : sf_B 0 600 (m388 10) := T391.2.2.1 10
              show pm_R _ 186 103 [.ref 41, .int 3, .int 1, .int (m_211 12), .long w_211, pm_no] [] _ _
              have R404 : (m 10).toInt ≤ (m388 10).toInt := (sf_aux85 _ _ _ _ R377 R378 X394)
              have R405 : (m_211 10).toInt ≤ (m388 10).toInt := (sf_aux86 _ _ _ _ R377 R378 X394)
              refine pm_R_br pm_M186 (pc' := 2) rfl rfl ?_
              have B406 : sf_B 0 4 (m388 13) := T391.2.2.1 13
              have e407 := (F392.cell (by decide) e380)
              exact ih_211 _ (rf_mu hN_211 (sf_ne0 c223) (sf_aux87 _ _ _ R377 R378) X394 X395 B403.2) h390 m388 w389 1 (.int (m_211 12)) (.long w_211) (pm_no) T391 F396 W402 sf_k1 rfl rfl ⟨⟨f379, e407, ct381, fun z => (bd382 (sf_aux79 _ _ ek398 z))⟩, (sf_aux81 _ _ _ R404 R405)⟩ rfl
            · have B408 : sf_B 0 3 (m355 13) := sf_neH0 c384 sf_k4 B383
              refine pm_R_lo pm_M186 (pc' := 91) rfl rfl rfl ?_
              refine pm_R_cv pm_M186 (pc' := 94) (a := 41) (ra := []) (rest := []) (ls' := [.ref 41]) rfl rfl (Or.inl rfl) pm_M184 T358.2.1 rfl (by decide) (Nat.lt_of_lt_of_le (by decide) T358.1) rfl rfl (Nat.le_of_ble_eq_true rfl) rfl rfl ?_
              refine pm_R_lo pm_M184 (pc' := 1) rfl rfl rfl ?_
              refine pm_R_lo pm_M184 (pc' := 2) rfl rfl rfl ?_
              have B409 : sf_B 0 600 (m355 12) := T358.2.2.1 12
              refine rf_R_get pm_M184 T358 (pc' := 5) (v := .int (m355 12)) rfl rfl rfl rfl ?_
              refine rf_R_put pm_M184 T358 (pc' := 8) rfl rfl rfl (by decide) rfl rfl B409 rfl rfl (fun h410 m413 em414 T411 F412 => ?_)
              have F415 := F371.trans F412 (by decide)
              have B416 : sf_B 0 600 (m413 10) := by rw [em414]; exact B374
              have ek417 : (m413 10).toInt = ((m355 10)).toInt := by rw [em414]; rfl
              have B418 : sf_B 0 4 (m413 17) := by rw [em414]; exact B375
              have ek419 : (m413 17).toInt = ((m355 17)).toInt := by rw [em414]; rfl
              have B420 : sf_B 0 1 (m413 22) := by rw [em414]; exact B376
              have ek421 : (m413 22).toInt = ((m355 22)).toInt := by rw [em414]; rfl
              have B422 : sf_B 0 3 (m413 13) := by rw [em414]; exact B408
              have B423 : sf_B 0 600 (m413 16) := by rw [em414]; exact B409
              have ek424 : (m413 16).toInt = ((m355 12)).toInt := by rw [em414]; rfl
              have W425 : rf_W [10, 12, 13, 14, 16, 17, 18, 21, 22] m m413 := by rw [em414]; exact W372.put (by decide)
              have W426 : rf_W [10, 12, 13, 14, 16, 17, 18, 21, 22] m m413 := by rw [em414]; exact W373.put (by decide)
              refine pm_R_op pm_M184 (pc' := 9) (st' := [.int 0]) rfl rfl rfl ?_
              refine pm_R_ret pm_M184 (r := some (.int 0)) rfl rfl ?_
              show pm_R _ 186 94 [.ref 41, .int 3, .int 1, .int (m_211 12), .long w_211, pm_no] [.int 0] _ _
              refine pm_R_lo pm_M186 (pc' := 95) (ls' := [.ref 41, .int 3, .int 0, .int (m_211 12), .long w_211, pm_no]) (st' := []) rfl rfl rfl ?_
              refine pm_R_lo pm_M186 (pc' := 96) rfl rfl rfl ?_
              refine pm_R_br pm_M186 (pc' := 103) (st' := []) rfl rfl ?_
              refine pm_R_br pm_M186 (pc' := 2) rfl rfl ?_
              refine pm_R_lo pm_M186 (pc' := 3) rfl rfl rfl ?_
              refine pm_R_br pm_M186 (pc' := 106) (st' := []) rfl rfl ?_
              refine pm_R_lo pm_M186 (pc' := 107) rfl rfl rfl ?_
              exact pm_R_ret pm_M186 (r := some (.int 0)) rfl rfl (K0 m413 w356 h410 T411 F415 W425 (sf_aux83 _ _ _ _ ek417 R377 R378))
  exact L_211 _ h m w 1 (pm_no) (pm_no) (pm_no) T (rf_G.refl [41, 51, 52] h) (rf_W.refl _ _) sf_k1 rfl rfl ⟨⟨f2, e3, ct4, fun z => (bd5 z)⟩, (sf_aux50 _ )⟩ rfl
