set_option maxRecDepth 100000 in
set_option maxHeartbeats 4000000 in
/-- SilentTableModel.readText -/
theorem rf_c178_0 {d : Nat} {m : Nat → Int32} {w : Int64} {h : pm_H} {Q : Option Value → pm_H → Prop}  (T : rf_T m w h)  (K0 : ∀ (m_q : Nat → Int32) (w_q : Int64) (h_q : pm_H), rf_T m_q w_q h_q → rf_G [41, 44, 45, 51, 52] h h_q → rf_W [10, 12, 13, 14, 16, 17, 18, 21, 22] m m_q → Q (some (.int 0)) h_q) (K1 : ∀ (m_q : Nat → Int32) (w_q : Int64) (h_q : pm_H), rf_T m_q w_q h_q → rf_G [41, 44, 45, 51, 52] h h_q → rf_W [10, 12, 13, 14, 16, 17, 18, 21, 22] m m_q → (∃ f : Nat → Int32, h_q.2.2 51 = .inl (0, 152, .inl f) ∧ rf_bd 0 f) → Q (some (.int 1)) h_q) : pm_R (d + 6) 178 0 [.ref 41, .int 0, pm_no, pm_no] [] h Q := by
  refine pm_R_op pm_M178 (pc_q := 1) (st_q := [.int 0]) rfl rfl rfl ?_
  refine pm_R_lo pm_M178 (pc_q := 2) (ls_q := [.ref 41, .int 0, .int 0, pm_no]) (st_q := []) rfl rfl rfl ?_
  have L_410 : ∀ (N : Nat) (h_410 : pm_H) (m_410 : Nat → Int32) (w_410 : Int64) (x2_410 : Int32), rf_T m_410 w_410 h_410 → rf_G [41, 44, 45, 51, 52] h h_410 → rf_W [] m m_410 → sf_B 0 152 x2_410 → (∃ f : Nat → Int32, h_410.2.2 51 = .inl (0, 152, .inl f) ∧ ∀ j : Nat, (j : Int) < x2_410.toInt → f j = 0) → (152 - x2_410.toInt).toNat = N → pm_R (d + 6) 178 2 [.ref 41, .int 0, .int x2_410, pm_no] [] h_410 Q := by
    intro N
    induction N using Nat.strongRecOn with
    | ind N ih_410 =>
      intro h_410 m_410 w_410 x2_410 T_410 F_410 W_410 Bx2_410 X_410 hN_410
      have W413 : rf_W [10, 12, 13, 14, 16, 17, 18, 21, 22] m m_410 := (rf_W.refl [10, 12, 13, 14, 16, 17, 18, 21, 22] m).trans W_410 (by decide)
      obtain ⟨f414, e415, zz416⟩ := X_410
      refine pm_R_lo pm_M178 (pc_q := 3) rfl rfl rfl ?_
      refine pm_R_op pm_M178 (pc_q := 6) (st_q := [.int 152, .int x2_410]) rfl rfl rfl ?_
      refine pm_R_icmp pm_M178 (t := 22) (pc_q := 9) rfl rfl rfl (fun c417 => ?_) (fun c417 => ?_)
      · have B418 : sf_B 152 152 x2_410 := sf_leR c417 sf_k152 Bx2_410
        refine pm_R_lo pm_M178 (pc_q := 23) rfl rfl rfl ?_
        refine rf_R_get pm_M178 T_410 (pc_q := 26) (v := .ref 51) rfl rfl rfl rfl ?_
        refine pm_R_op pm_M178 (pc_q := 27) (st_q := [.int 0, .ref 51]) rfl rfl rfl ?_
        refine pm_R_lo pm_M178 (pc_q := 28) rfl rfl rfl ?_
        refine pm_R_op pm_M178 (pc_q := 29) (st_q := [.int 2, .int 0, .int 0, .ref 51]) rfl rfl rfl ?_
        refine pm_R_br pm_M178 (pc_q := 36) (st_q := [.int 0, .ref 51]) rfl rfl ?_
        refine pm_R_op pm_M178 (pc_q := 37) (st_q := [.int 0, .int 0, .ref 51]) rfl rfl rfl ?_
        refine rf_R_ist pm_M178 T_410 (pc_q := 38) rfl e415 (by decide) (by decide) rfl ⟨_, rfl⟩ rfl (fun h419 T420 F421 e422 => ?_)
        have F423 := F_410.trans F421 (by decide)
        have ct424 : rf_ct 0 (upd f414 (Int32.toNatClampNeg 0) 0) ∧ rf_bd 0 (upd f414 (Int32.toNatClampNeg 0) 0) := rf_all0_0 (fun j hj => zz416 j (by have := Int32.le_iff_toInt_le.mp c417; have e0 : (152 : Int32).toInt = 152 := rfl; omega))
        refine pm_R_lo pm_M178 (pc_q := 39) rfl rfl rfl ?_
        refine pm_R_op pm_M178 (pc_q := 40) (st_q := [.int (-1), .ref 41]) rfl rfl rfl ?_
        refine rf_R_put pm_M178 T420 (pc_q := 43) rfl rfl rfl (by decide) rfl rfl (sf_weak sf_kn1 (by decide) (by decide)) rfl rfl (fun h426 m429 em430 T427 F428 => ?_)
        have F431 := F423.trans F428 (by decide)
        have B432 : sf_B (-1) (-1) (m429 21) := by rw [em430]; exact sf_kn1
        have W434 : rf_W [10, 12, 13, 14, 16, 17, 18, 21, 22] m m429 := by rw [em430]; exact W413.put (by decide)
        have B435 : sf_B 0 600 (m429 10) := T427.2.2.1 10
        have B436 : sf_B 0 4 (m429 17) := T427.2.2.1 17
        have B437 : sf_B 0 1 (m429 22) := T427.2.2.1 22
        refine pm_R_lo pm_M178 (pc_q := 44) rfl rfl rfl ?_
        refine pm_R_op pm_M178 (pc_q := 45) (st_q := [.int 0, .ref 41]) rfl rfl rfl ?_
        refine rf_R_put pm_M178 T427 (pc_q := 48) rfl rfl rfl (by decide) rfl rfl (sf_weak sf_k0 (by decide) (by decide)) rfl rfl (fun h438 m441 em442 T439 F440 => ?_)
        have F443 := F431.trans F440 (by decide)
        have B444 : sf_B (-1) (-1) (m441 21) := by rw [em442]; exact B432
        have B445 : sf_B 0 4 (m441 17) := by rw [em442]; exact B436
        have ek446 : (m441 17).toInt = ((m429 17)).toInt := by rw [em442]; rfl
        have B447 : sf_B 0 1 (m441 22) := by rw [em442]; exact B437
        have ek448 : (m441 22).toInt = ((m429 22)).toInt := by rw [em442]; rfl
        have B449 : sf_B 0 0 (m441 10) := by rw [em442]; exact sf_k0
        have W451 : rf_W [10, 12, 13, 14, 16, 17, 18, 21, 22] m m441 := by rw [em442]; exact W434.put (by decide)
        refine pm_R_lo pm_M178 (pc_q := 49) rfl rfl rfl ?_
        refine pm_R_op pm_M178 (pc_q := 50) (st_q := [.int 0, .ref 41]) rfl rfl rfl ?_
        refine rf_R_put pm_M178 T439 (pc_q := 53) rfl rfl rfl (by decide) rfl rfl (sf_weak sf_k0 (by decide) (by decide)) rfl rfl (fun h452 m455 em456 T453 F454 => ?_)
        have F457 := F443.trans F454 (by decide)
        have B458 : sf_B (-1) (-1) (m455 21) := by rw [em456]; exact B444
        have B459 : sf_B 0 1 (m455 22) := by rw [em456]; exact B447
        have ek460 : (m455 22).toInt = ((m429 22)).toInt := by rw [em456]; exact ek448
        have B461 : sf_B 0 0 (m455 10) := by rw [em456]; exact B449
        have ek462 : (m455 10).toInt = ((m441 10)).toInt := by rw [em456]; rfl
        have B463 : sf_B 0 0 (m455 17) := by rw [em456]; exact sf_k0
        have W465 : rf_W [10, 12, 13, 14, 16, 17, 18, 21, 22] m m455 := by rw [em456]; exact W451.put (by decide)
        refine pm_R_lo pm_M178 (pc_q := 54) rfl rfl rfl ?_
        refine pm_R_cv pm_M178 (pc_q := 57) (a := 41) (ra := []) (rest := []) (ls_q := [.ref 41, pm_no, pm_no]) rfl rfl (Or.inl rfl) pm_M179 T453.2.1 rfl (by decide) (Nat.lt_of_lt_of_le (by decide) T453.1) rfl rfl (Nat.le_of_ble_eq_true rfl) rfl rfl ?_
        refine rf_c179 (d := d + 4) T453  (fun m468 w469 h470 T471 F472 W473 X474 X475 => ?_)
        have F476 := F457.trans F472 (by decide)
        have B477 : sf_B (-1) (-1) (m468 21) := by rw [W473 21 (by decide)]; exact B458
        have B478 : sf_B 0 1 (m468 22) := by rw [W473 22 (by decide)]; exact B459
        have ek479 : (m468 22).toInt = ((m429 22)).toInt := by rw [W473 22 (by decide)]; exact ek460
        have B480 : sf_B 0 0 (m468 17) := by rw [W473 17 (by decide)]; exact B463
        have ek481 : (m468 17).toInt = ((m455 17)).toInt := by rw [W473 17 (by decide)]
        have W482 : rf_W [10, 12, 13, 14, 16, 17, 18, 21, 22] m m468 := W465.trans W473 (by decide)
        have B483 : sf_B 0 600 (m468 10) := T471.2.2.1 10
        show pm_R _ 178 57 [.ref 41, .int 0, .int x2_410, pm_no] [] _ _
        refine pm_R_lo pm_M178 (pc_q := 58) rfl rfl rfl ?_
        refine pm_R_op pm_M178 (pc_q := 59) (st_q := [.int 1, .int 0]) rfl rfl rfl ?_
        refine pm_R_br pm_M178 (pc_q := 69) (st_q := []) rfl rfl ?_
        refine pm_R_lo pm_M178 (pc_q := 70) rfl rfl rfl ?_
        refine pm_R_lo pm_M178 (pc_q := 71) rfl rfl rfl ?_
        refine pm_R_cv pm_M178 (pc_q := 74) (a := 41) (ra := [.int 0]) (rest := []) (ls_q := [.ref 41, .int 0, pm_no, pm_no, pm_no, pm_no]) rfl rfl (Or.inl rfl) pm_M186 T471.2.1 rfl (by decide) (Nat.lt_of_lt_of_le (by decide) T471.1) rfl rfl (Nat.le_of_ble_eq_true rfl) rfl rfl ?_
        have e484 := (F472.cell (by decide) (F454.cell (by decide) (F440.cell (by decide) (F428.cell (by decide) e422))))
        refine rf_c186_0 (d := d + 0) T471 (⟨(upd f414 (Int32.toNatClampNeg 0) 0), e484, ct424.1, fun z => ct424.2⟩) (fun m487 w488 h489 T490 F491 W492 X493 => ?_) (fun m496 w497 h498 T499 F500 W501 X502 X503 => ?_)
        · have F504 := F476.trans F491 (by decide)
          have W505 : rf_W [10, 12, 13, 14, 16, 17, 18, 21, 22] m m487 := W482.trans W492 (by decide)
          have B506 : sf_B 0 600 (m487 10) := T490.2.2.1 10
          have B507 : sf_B 0 4 (m487 17) := T490.2.2.1 17
          have B508 : sf_B 0 1 (m487 22) := T490.2.2.1 22
          show pm_R _ 178 74 [.ref 41, .int 0, .int x2_410, pm_no] [.int 0] _ _
          refine pm_R_lo pm_M178 (pc_q := 75) (ls_q := [.ref 41, .int 0, .int 0, pm_no]) (st_q := []) rfl rfl rfl ?_
          refine pm_R_lo pm_M178 (pc_q := 76) rfl rfl rfl ?_
          refine pm_R_op pm_M178 (pc_q := 77) (st_q := [.int 1, .int 0]) rfl rfl rfl ?_
          refine pm_R_br pm_M178 (pc_q := 97) (st_q := []) rfl rfl ?_
          refine pm_R_lo pm_M178 (pc_q := 98) rfl rfl rfl ?_
          refine pm_R_op pm_M178 (pc_q := 99) (st_q := [.int 2, .int 0]) rfl rfl rfl ?_
          refine pm_R_br pm_M178 (pc_q := 119) (st_q := []) rfl rfl ?_
          refine pm_R_op pm_M178 (pc_q := 120) (st_q := [.int 0]) (pm_q178_1 (Nat.le_of_ble_eq_true rfl)) rfl rfl ?_
          refine pm_R_lo pm_M178 (pc_q := 121) (ls_q := [.ref 41, .int 0, .int 0, .int 0]) (st_q := []) (pm_q178_1 (Nat.le_of_ble_eq_true rfl)) rfl rfl ?_
          refine pm_R_lo pm_M178 (pc_q := 122) (pm_q178_1 (Nat.le_of_ble_eq_true rfl)) rfl rfl ?_
          refine pm_R_br pm_M178 (pc_q := 145) (st_q := []) (pm_q178_1 (Nat.le_of_ble_eq_true rfl)) rfl ?_
          refine pm_R_lo pm_M178 (pc_q := 146) (pm_q178_1 (Nat.le_of_ble_eq_true rfl)) rfl rfl ?_
          refine rf_R_get pm_M178 T490 (pc_q := 149) (v := .ref 44) (pm_q178_1 (Nat.le_of_ble_eq_true rfl)) rfl rfl rfl ?_
          refine pm_R_op pm_M178 (pc_q := 150) (st_q := [.int 0, .ref 44]) (pm_q178_1 (Nat.le_of_ble_eq_true rfl)) rfl rfl ?_
          refine pm_R_lo pm_M178 (pc_q := 151) (pm_q178_1 (Nat.le_of_ble_eq_true rfl)) rfl rfl ?_
          refine pm_R_br pm_M178 (pc_q := 161) (st_q := [.int 0, .ref 44]) (pm_q178_1 (Nat.le_of_ble_eq_true rfl)) rfl ?_
          refine pm_R_op pm_M178 (pc_q := 162) (st_q := [.int 1, .int 0, .ref 44]) (pm_q178_1 (Nat.le_of_ble_eq_true rfl)) rfl rfl ?_
          obtain ⟨f509, e510, b511⟩ := T490.2.2.2.1 44 (by decide) (by decide)
          refine rf_R_ist2 pm_M178 T490 (pc_q := 163) (pm_q178_1 (Nat.le_of_ble_eq_true rfl)) e510 (by decide) (by decide) rfl ⟨_, rfl, sf_upd b511 (sf_weak sf_k1 (by decide) (by decide)) _⟩ rfl (fun h512 T513 F514 e515 => ?_)
          have F516 := F504.trans F514 (by decide)
          refine pm_R_lo pm_M178 (pc_q := 164) (pm_q178_1 (Nat.le_of_ble_eq_true rfl)) rfl rfl ?_
          refine rf_R_get pm_M178 T513 (pc_q := 167) (v := .ref 45) (pm_q178_1 (Nat.le_of_ble_eq_true rfl)) rfl rfl rfl ?_
          refine pm_R_op pm_M178 (pc_q := 168) (st_q := [.int 0, .ref 45]) (pm_q178_1 (Nat.le_of_ble_eq_true rfl)) rfl rfl ?_
          refine pm_R_lo pm_M178 (pc_q := 169) (pm_q178_1 (Nat.le_of_ble_eq_true rfl)) rfl rfl ?_
          refine pm_R_br pm_M178 (pc_q := 172) (st_q := [.int 0, .ref 45]) (pm_q178_1 (Nat.le_of_ble_eq_true rfl)) rfl ?_
          refine pm_R_lo pm_M178 (pc_q := 173) (pm_q178_1 (Nat.le_of_ble_eq_true rfl)) rfl rfl ?_
          have B517 : sf_B 0 600 (m487 16) := T513.2.2.1 16
          refine rf_R_get pm_M178 T513 (pc_q := 176) (v := .int (m487 16)) (pm_q178_1 (Nat.le_of_ble_eq_true rfl)) rfl rfl rfl ?_
          refine pm_R_br pm_M178 (pc_q := 194) (pm_q178_1 (Nat.le_of_ble_eq_true rfl)) rfl ?_
          obtain ⟨f518, e519, b520⟩ := T513.2.2.2.1 45 (by decide) (by decide)
          refine rf_R_ist2 pm_M178 T513 (pc_q := 195) (pm_q178_1 (Nat.le_of_ble_eq_true rfl)) e519 (by decide) (by decide) rfl ⟨_, rfl, sf_upd b520 (sf_weak B517 (by decide) (by decide)) _⟩ rfl (fun h521 T522 F523 e524 => ?_)
          have F525 := F516.trans F523 (by decide)
          refine pm_R_lo pm_M178 (pc_q := 196) (pm_q178_1 (Nat.le_of_ble_eq_true rfl)) rfl rfl ?_
          refine rf_R_get pm_M178 T522 (pc_q := 199) (v := .ref 44) (pm_q178_1 (Nat.le_of_ble_eq_true rfl)) rfl rfl rfl ?_
          refine pm_R_op pm_M178 (pc_q := 200) (st_q := [.int 0, .ref 44]) (pm_q178_1 (Nat.le_of_ble_eq_true rfl)) rfl rfl ?_
          have e526 := (F523.cell (by decide) e515)
          refine pm_R_iald pm_M178 (pc_q := 201) (v := 1) (pm_q178_1 (Nat.le_of_ble_eq_true rfl)) e526 (Nat.lt_of_lt_of_le (by decide) T522.1) rfl sf_upd_eq rfl ?_
          refine pm_R_br pm_M178 (pc_q := 208) (st_q := []) (pm_q178_1 (Nat.le_of_ble_eq_true rfl)) rfl ?_
          refine pm_R_op pm_M178 (pc_q := 209) (st_q := [.int 0]) (pm_q178_1 (Nat.le_of_ble_eq_true rfl)) rfl rfl ?_
          exact pm_R_ret pm_M178 (r := some (.int 0)) (pm_q178_1 (Nat.le_of_ble_eq_true rfl)) rfl (K0 m487 w488 h521 T522 F525 W505)
        · have F529 := F476.trans F500 (by decide)
          have W530 : rf_W [10, 12, 13, 14, 16, 17, 18, 21, 22] m m496 := W482.trans W501 (by decide)
          have B531 : sf_B 0 600 (m496 10) := T499.2.2.1 10
          have B532 : sf_B 0 4 (m496 17) := T499.2.2.1 17
          have B533 : sf_B 0 1 (m496 22) := T499.2.2.1 22
          show pm_R _ 178 74 [.ref 41, .int 0, .int x2_410, pm_no] [.int 1] _ _
          obtain ⟨f534, e535, ct536, bd537⟩ := X502
          refine pm_R_lo pm_M178 (pc_q := 75) (ls_q := [.ref 41, .int 0, .int 1, pm_no]) (st_q := []) rfl rfl rfl ?_
          refine pm_R_lo pm_M178 (pc_q := 76) rfl rfl rfl ?_
          refine pm_R_op pm_M178 (pc_q := 77) (st_q := [.int 1, .int 0]) rfl rfl rfl ?_
          refine pm_R_br pm_M178 (pc_q := 97) (st_q := []) rfl rfl ?_
          refine pm_R_lo pm_M178 (pc_q := 98) rfl rfl rfl ?_
          refine pm_R_op pm_M178 (pc_q := 99) (st_q := [.int 2, .int 0]) rfl rfl rfl ?_
          refine pm_R_br pm_M178 (pc_q := 119) (st_q := []) rfl rfl ?_
          refine pm_R_op pm_M178 (pc_q := 120) (st_q := [.int 0]) (pm_q178_1 (Nat.le_of_ble_eq_true rfl)) rfl rfl ?_
          refine pm_R_lo pm_M178 (pc_q := 121) (ls_q := [.ref 41, .int 0, .int 1, .int 0]) (st_q := []) (pm_q178_1 (Nat.le_of_ble_eq_true rfl)) rfl rfl ?_
          refine pm_R_lo pm_M178 (pc_q := 122) (pm_q178_1 (Nat.le_of_ble_eq_true rfl)) rfl rfl ?_
          refine pm_R_br pm_M178 (pc_q := 125) (st_q := []) (pm_q178_1 (Nat.le_of_ble_eq_true rfl)) rfl ?_
          refine pm_R_lo pm_M178 (pc_q := 126) (pm_q178_1 (Nat.le_of_ble_eq_true rfl)) rfl rfl ?_
          refine rf_R_get pm_M178 T499 (pc_q := 129) (v := .int (m496 17)) (pm_q178_1 (Nat.le_of_ble_eq_true rfl)) rfl rfl rfl ?_
          refine pm_R_ifc pm_M178 (t := 145) (pc_q := 132) (pm_q178_1 (Nat.le_of_ble_eq_true rfl)) rfl rfl (fun c538 => ?_) (fun c538 => ?_)
          · have B539 : sf_B 1 4 (m496 17) := sf_neL0 c538 sf_k0 B532
            refine pm_R_lo pm_M178 (pc_q := 146) (pm_q178_1 (Nat.le_of_ble_eq_true rfl)) rfl rfl ?_
            refine rf_R_get pm_M178 T499 (pc_q := 149) (v := .ref 44) (pm_q178_1 (Nat.le_of_ble_eq_true rfl)) rfl rfl rfl ?_
            refine pm_R_op pm_M178 (pc_q := 150) (st_q := [.int 0, .ref 44]) (pm_q178_1 (Nat.le_of_ble_eq_true rfl)) rfl rfl ?_
            refine pm_R_lo pm_M178 (pc_q := 151) (pm_q178_1 (Nat.le_of_ble_eq_true rfl)) rfl rfl ?_
            refine pm_R_br pm_M178 (pc_q := 154) (st_q := [.int 0, .ref 44]) (pm_q178_1 (Nat.le_of_ble_eq_true rfl)) rfl ?_
            refine pm_R_lo pm_M178 (pc_q := 155) (pm_q178_1 (Nat.le_of_ble_eq_true rfl)) rfl rfl ?_
            refine rf_R_get pm_M178 T499 (pc_q := 158) (v := .int (m496 17)) (pm_q178_1 (Nat.le_of_ble_eq_true rfl)) rfl rfl rfl ?_
            refine pm_R_br pm_M178 (pc_q := 162) (pm_q178_1 (Nat.le_of_ble_eq_true rfl)) rfl ?_
            obtain ⟨f540, e541, b542⟩ := T499.2.2.2.1 44 (by decide) (by decide)
            refine rf_R_ist2 pm_M178 T499 (pc_q := 163) (pm_q178_1 (Nat.le_of_ble_eq_true rfl)) e541 (by decide) (by decide) rfl ⟨_, rfl, sf_upd b542 (sf_weak B539 (by decide) (by decide)) _⟩ rfl (fun h543 T544 F545 e546 => ?_)
            have F547 := F529.trans F545 (by decide)
            refine pm_R_lo pm_M178 (pc_q := 164) (pm_q178_1 (Nat.le_of_ble_eq_true rfl)) rfl rfl ?_
            refine rf_R_get pm_M178 T544 (pc_q := 167) (v := .ref 45) (pm_q178_1 (Nat.le_of_ble_eq_true rfl)) rfl rfl rfl ?_
            refine pm_R_op pm_M178 (pc_q := 168) (st_q := [.int 0, .ref 45]) (pm_q178_1 (Nat.le_of_ble_eq_true rfl)) rfl rfl ?_
            refine pm_R_lo pm_M178 (pc_q := 169) (pm_q178_1 (Nat.le_of_ble_eq_true rfl)) rfl rfl ?_
            refine pm_R_br pm_M178 (pc_q := 179) (st_q := [.int 0, .ref 45]) (pm_q178_1 (Nat.le_of_ble_eq_true rfl)) rfl ?_
            refine pm_R_lo pm_M178 (pc_q := 180) (pm_q178_1 (Nat.le_of_ble_eq_true rfl)) rfl rfl ?_
            refine rf_R_get pm_M178 T544 (pc_q := 183) (v := .int (m496 17)) (pm_q178_1 (Nat.le_of_ble_eq_true rfl)) rfl rfl rfl ?_
            refine pm_R_ifc pm_M178 (t := 193) (pc_q := 186) (pm_q178_1 (Nat.le_of_ble_eq_true rfl)) rfl rfl (fun c548 => absurd c548 (sf_nle B539 sf_k0 (by decide))) (fun c548 => ?_)
            skip
            refine pm_R_lo pm_M178 (pc_q := 187) (pm_q178_1 (Nat.le_of_ble_eq_true rfl)) rfl rfl ?_
            have B549 : sf_B 0 600 (m496 18) := T544.2.2.1 18
            refine rf_R_get pm_M178 T544 (pc_q := 190) (v := .int (m496 18)) (pm_q178_1 (Nat.le_of_ble_eq_true rfl)) rfl rfl rfl ?_
            refine pm_R_br pm_M178 (pc_q := 194) (pm_q178_1 (Nat.le_of_ble_eq_true rfl)) rfl ?_
            obtain ⟨f550, e551, b552⟩ := T544.2.2.2.1 45 (by decide) (by decide)
            refine rf_R_ist2 pm_M178 T544 (pc_q := 195) (pm_q178_1 (Nat.le_of_ble_eq_true rfl)) e551 (by decide) (by decide) rfl ⟨_, rfl, sf_upd b552 (sf_weak B549 (by decide) (by decide)) _⟩ rfl (fun h553 T554 F555 e556 => ?_)
            have F557 := F547.trans F555 (by decide)
            refine pm_R_lo pm_M178 (pc_q := 196) (pm_q178_1 (Nat.le_of_ble_eq_true rfl)) rfl rfl ?_
            refine rf_R_get pm_M178 T554 (pc_q := 199) (v := .ref 44) (pm_q178_1 (Nat.le_of_ble_eq_true rfl)) rfl rfl rfl ?_
            refine pm_R_op pm_M178 (pc_q := 200) (st_q := [.int 0, .ref 44]) (pm_q178_1 (Nat.le_of_ble_eq_true rfl)) rfl rfl ?_
            have e558 := (F555.cell (by decide) e546)
            refine pm_R_iald pm_M178 (pc_q := 201) (v := (m496 17)) (pm_q178_1 (Nat.le_of_ble_eq_true rfl)) e558 (Nat.lt_of_lt_of_le (by decide) T554.1) rfl sf_upd_eq rfl ?_
            refine pm_R_ifc pm_M178 (t := 208) (pc_q := 204) (pm_q178_1 (Nat.le_of_ble_eq_true rfl)) rfl rfl (fun c561 => ?_) (fun c561 => absurd (Classical.not_not.mp c561) (sf_neq1 B539 sf_k0 (by decide)))
            skip
            refine pm_R_op pm_M178 (pc_q := 209) (st_q := [.int 0]) (pm_q178_1 (Nat.le_of_ble_eq_true rfl)) rfl rfl ?_
            exact pm_R_ret pm_M178 (r := some (.int 0)) (pm_q178_1 (Nat.le_of_ble_eq_true rfl)) rfl (K0 m496 w497 h553 T554 F557 W530)
          · have B562 : sf_B 0 0 (m496 17) := sf_eqL (Classical.not_not.mp c538) sf_k0
            refine pm_R_lo pm_M178 (pc_q := 133) (pm_q178_1 (Nat.le_of_ble_eq_true rfl)) rfl rfl ?_
            refine pm_R_br pm_M178 (pc_q := 145) (st_q := []) (pm_q178_1 (Nat.le_of_ble_eq_true rfl)) rfl ?_
            refine pm_R_lo pm_M178 (pc_q := 146) (pm_q178_1 (Nat.le_of_ble_eq_true rfl)) rfl rfl ?_
            refine rf_R_get pm_M178 T499 (pc_q := 149) (v := .ref 44) (pm_q178_1 (Nat.le_of_ble_eq_true rfl)) rfl rfl rfl ?_
            refine pm_R_op pm_M178 (pc_q := 150) (st_q := [.int 0, .ref 44]) (pm_q178_1 (Nat.le_of_ble_eq_true rfl)) rfl rfl ?_
            refine pm_R_lo pm_M178 (pc_q := 151) (pm_q178_1 (Nat.le_of_ble_eq_true rfl)) rfl rfl ?_
            refine pm_R_br pm_M178 (pc_q := 154) (st_q := [.int 0, .ref 44]) (pm_q178_1 (Nat.le_of_ble_eq_true rfl)) rfl ?_
            refine pm_R_lo pm_M178 (pc_q := 155) (pm_q178_1 (Nat.le_of_ble_eq_true rfl)) rfl rfl ?_
            refine rf_R_get pm_M178 T499 (pc_q := 158) (v := .int (m496 17)) (pm_q178_1 (Nat.le_of_ble_eq_true rfl)) rfl rfl rfl ?_
            refine pm_R_br pm_M178 (pc_q := 162) (pm_q178_1 (Nat.le_of_ble_eq_true rfl)) rfl ?_
            obtain ⟨f563, e564, b565⟩ := T499.2.2.2.1 44 (by decide) (by decide)
            refine rf_R_ist2 pm_M178 T499 (pc_q := 163) (pm_q178_1 (Nat.le_of_ble_eq_true rfl)) e564 (by decide) (by decide) rfl ⟨_, rfl, sf_upd b565 (sf_weak B562 (by decide) (by decide)) _⟩ rfl (fun h566 T567 F568 e569 => ?_)
            have F570 := F529.trans F568 (by decide)
            refine pm_R_lo pm_M178 (pc_q := 164) (pm_q178_1 (Nat.le_of_ble_eq_true rfl)) rfl rfl ?_
            refine rf_R_get pm_M178 T567 (pc_q := 167) (v := .ref 45) (pm_q178_1 (Nat.le_of_ble_eq_true rfl)) rfl rfl rfl ?_
            refine pm_R_op pm_M178 (pc_q := 168) (st_q := [.int 0, .ref 45]) (pm_q178_1 (Nat.le_of_ble_eq_true rfl)) rfl rfl ?_
            refine pm_R_lo pm_M178 (pc_q := 169) (pm_q178_1 (Nat.le_of_ble_eq_true rfl)) rfl rfl ?_
            refine pm_R_br pm_M178 (pc_q := 179) (st_q := [.int 0, .ref 45]) (pm_q178_1 (Nat.le_of_ble_eq_true rfl)) rfl ?_
            refine pm_R_lo pm_M178 (pc_q := 180) (pm_q178_1 (Nat.le_of_ble_eq_true rfl)) rfl rfl ?_
            refine rf_R_get pm_M178 T567 (pc_q := 183) (v := .int (m496 17)) (pm_q178_1 (Nat.le_of_ble_eq_true rfl)) rfl rfl rfl ?_
            refine pm_R_ifc pm_M178 (t := 193) (pc_q := 186) (pm_q178_1 (Nat.le_of_ble_eq_true rfl)) rfl rfl (fun c571 => ?_) (fun c571 => absurd (Int32.not_le.mp c571) (sf_nlt sf_k0 B562 (by decide)))
            skip
            refine pm_R_op pm_M178 (pc_q := 194) (st_q := [.int (-1), .int 0, .ref 45]) (pm_q178_1 (Nat.le_of_ble_eq_true rfl)) rfl rfl ?_
            obtain ⟨f572, e573, b574⟩ := T567.2.2.2.1 45 (by decide) (by decide)
            refine rf_R_ist2 pm_M178 T567 (pc_q := 195) (pm_q178_1 (Nat.le_of_ble_eq_true rfl)) e573 (by decide) (by decide) rfl ⟨_, rfl, sf_upd b574 (sf_weak sf_kn1 (by decide) (by decide)) _⟩ rfl (fun h575 T576 F577 e578 => ?_)
            have F579 := F570.trans F577 (by decide)
            refine pm_R_lo pm_M178 (pc_q := 196) (pm_q178_1 (Nat.le_of_ble_eq_true rfl)) rfl rfl ?_
            refine rf_R_get pm_M178 T576 (pc_q := 199) (v := .ref 44) (pm_q178_1 (Nat.le_of_ble_eq_true rfl)) rfl rfl rfl ?_
            refine pm_R_op pm_M178 (pc_q := 200) (st_q := [.int 0, .ref 44]) (pm_q178_1 (Nat.le_of_ble_eq_true rfl)) rfl rfl ?_
            have e580 := (F577.cell (by decide) e569)
            refine pm_R_iald pm_M178 (pc_q := 201) (v := (m496 17)) (pm_q178_1 (Nat.le_of_ble_eq_true rfl)) e580 (Nat.lt_of_lt_of_le (by decide) T576.1) rfl sf_upd_eq rfl ?_
            refine pm_R_ifc pm_M178 (t := 208) (pc_q := 204) (pm_q178_1 (Nat.le_of_ble_eq_true rfl)) rfl rfl (fun c583 => absurd (sf_pt2 B562 sf_k0) c583) (fun c583 => ?_)
            refine pm_R_op pm_M178 (pc_q := 205) (st_q := [.int 1]) (pm_q178_1 (Nat.le_of_ble_eq_true rfl)) rfl rfl ?_
            refine pm_R_br pm_M178 (pc_q := 209) (pm_q178_1 (Nat.le_of_ble_eq_true rfl)) rfl ?_
            have e584 := (F577.cell (by decide) (F568.cell (by decide) e535))
            exact pm_R_ret pm_M178 (r := some (.int 1)) (pm_q178_1 (Nat.le_of_ble_eq_true rfl)) rfl (K1 m496 w497 h575 T576 F579 W530 ⟨f534, e584, (by have z : ((m496 17)).toInt = 0 := (sf_aux35 _ B562.1 B562.2); exact (bd537 z))⟩)
      · have B585 : sf_B 0 151 x2_410 := sf_ltL (Int32.not_le.mp c417) Bx2_410 sf_k152
        refine pm_R_lo pm_M178 (pc_q := 10) rfl rfl rfl ?_
        refine rf_R_get pm_M178 T_410 (pc_q := 13) (v := .ref 51) rfl rfl rfl rfl ?_
        refine pm_R_lo pm_M178 (pc_q := 14) rfl rfl rfl ?_
        refine pm_R_op pm_M178 (pc_q := 15) (st_q := [.int 0, .int x2_410, .ref 51]) rfl rfl rfl ?_
        refine rf_R_ist pm_M178 T_410 (pc_q := 16) rfl e415 (by decide) (by decide) (sf_in B585 (by decide) (by decide)) ⟨_, rfl⟩ rfl (fun h586 T587 F588 e589 => ?_)
        have F590 := F_410.trans F588 (by decide)
        refine sf_R_iinc pm_M178 (pc_q := 19) (ls_q := fun z => [.ref 41, .int 0, .int z, pm_no]) rfl B585 rfl (by decide) (by decide) (by decide) (fun _ => rfl) rfl (fun z591 e592 B593 => ?_)
        show pm_R _ 178 19 [.ref 41, .int 0, .int z591, pm_no] [] _ _
        refine pm_R_br pm_M178 (pc_q := 2) rfl rfl ?_
        exact ih_410 _ (sf_up hN_410 e592 B585 (by decide) (by decide)) h586 m_410 w_410 z591 T587 F590 W_410 (sf_weak B593 (by decide) (by decide)) ⟨(upd f414 (Int32.toNatClampNeg x2_410) 0), e589, rf_zero zz416 e592 B585 (by decide)⟩ rfl
  obtain ⟨f594, e595⟩ := T.2.2.2.1 51 (by decide) (by decide)
  exact L_410 _ h m w 0 T (rf_G.refl [41, 44, 45, 51, 52] h) (rf_W.refl _ _) (sf_weak sf_k0 (by decide) (by decide)) ⟨f594, e595, fun j hj => absurd hj (by show ¬ (j : Int) < 0; omega)⟩ rfl

set_option maxRecDepth 100000 in
set_option maxHeartbeats 4000000 in
/-- SilentTableModel.readText -/
theorem rf_c178_1 {d : Nat} {m : Nat → Int32} {w : Int64} {h : pm_H} {Q : Option Value → pm_H → Prop}  (T : rf_T m w h)  (K0 : ∀ (m_q : Nat → Int32) (w_q : Int64) (h_q : pm_H), rf_T m_q w_q h_q → rf_G [41, 44, 45, 51, 52] h h_q → rf_W [10, 12, 13, 14, 16, 17, 18, 21, 22] m m_q → Q (some (.int 0)) h_q) (K1 : ∀ (m_q : Nat → Int32) (w_q : Int64) (h_q : pm_H), rf_T m_q w_q h_q → rf_G [41, 44, 45, 51, 52] h h_q → rf_W [10, 12, 13, 14, 16, 17, 18, 21, 22] m m_q → (∃ f : Nat → Int32, h_q.2.2 51 = .inl (0, 152, .inl f) ∧ rf_bd 1 f ∧ 1 ≤ (f 0).toInt) → Q (some (.int 1)) h_q) : pm_R (d + 6) 178 0 [.ref 41, .int 1, pm_no, pm_no] [] h Q := by
  refine pm_R_op pm_M178 (pc_q := 1) (st_q := [.int 0]) rfl rfl rfl ?_
  refine pm_R_lo pm_M178 (pc_q := 2) (ls_q := [.ref 41, .int 1, .int 0, pm_no]) (st_q := []) rfl rfl rfl ?_
  have L_608 : ∀ (N : Nat) (h_608 : pm_H) (m_608 : Nat → Int32) (w_608 : Int64) (x2_608 : Int32), rf_T m_608 w_608 h_608 → rf_G [41, 44, 45, 51, 52] h h_608 → rf_W [] m m_608 → sf_B 0 152 x2_608 → (∃ f : Nat → Int32, h_608.2.2 51 = .inl (0, 152, .inl f) ∧ ∀ j : Nat, (j : Int) < x2_608.toInt → f j = 0) → (152 - x2_608.toInt).toNat = N → pm_R (d + 6) 178 2 [.ref 41, .int 1, .int x2_608, pm_no] [] h_608 Q := by
    intro N
    induction N using Nat.strongRecOn with
    | ind N ih_608 =>
      intro h_608 m_608 w_608 x2_608 T_608 F_608 W_608 Bx2_608 X_608 hN_608
      have W611 : rf_W [10, 12, 13, 14, 16, 17, 18, 21, 22] m m_608 := (rf_W.refl [10, 12, 13, 14, 16, 17, 18, 21, 22] m).trans W_608 (by decide)
      obtain ⟨f612, e613, zz614⟩ := X_608
      refine pm_R_lo pm_M178 (pc_q := 3) rfl rfl rfl ?_
      refine pm_R_op pm_M178 (pc_q := 6) (st_q := [.int 152, .int x2_608]) rfl rfl rfl ?_
      refine pm_R_icmp pm_M178 (t := 22) (pc_q := 9) rfl rfl rfl (fun c615 => ?_) (fun c615 => ?_)
      · have B616 : sf_B 152 152 x2_608 := sf_leR c615 sf_k152 Bx2_608
        refine pm_R_lo pm_M178 (pc_q := 23) rfl rfl rfl ?_
        refine rf_R_get pm_M178 T_608 (pc_q := 26) (v := .ref 51) rfl rfl rfl rfl ?_
        refine pm_R_op pm_M178 (pc_q := 27) (st_q := [.int 0, .ref 51]) rfl rfl rfl ?_
        refine pm_R_lo pm_M178 (pc_q := 28) rfl rfl rfl ?_
        refine pm_R_op pm_M178 (pc_q := 29) (st_q := [.int 2, .int 1, .int 0, .ref 51]) rfl rfl rfl ?_
        refine pm_R_br pm_M178 (pc_q := 36) (st_q := [.int 0, .ref 51]) rfl rfl ?_
        refine pm_R_op pm_M178 (pc_q := 37) (st_q := [.int 0, .int 0, .ref 51]) rfl rfl rfl ?_
        refine rf_R_ist pm_M178 T_608 (pc_q := 38) rfl e613 (by decide) (by decide) rfl ⟨_, rfl⟩ rfl (fun h617 T618 F619 e620 => ?_)
        have F621 := F_608.trans F619 (by decide)
        have ct622 : rf_ct 1 (upd f612 (Int32.toNatClampNeg 0) 0) ∧ rf_bd 1 (upd f612 (Int32.toNatClampNeg 0) 0) := rf_all0_1 (fun j hj => zz614 j (by have := Int32.le_iff_toInt_le.mp c615; have e0 : (152 : Int32).toInt = 152 := rfl; omega))
        refine pm_R_lo pm_M178 (pc_q := 39) rfl rfl rfl ?_
        refine pm_R_op pm_M178 (pc_q := 40) (st_q := [.int (-1), .ref 41]) rfl rfl rfl ?_
        refine rf_R_put pm_M178 T618 (pc_q := 43) rfl rfl rfl (by decide) rfl rfl (sf_weak sf_kn1 (by decide) (by decide)) rfl rfl (fun h624 m627 em628 T625 F626 => ?_)
        have F629 := F621.trans F626 (by decide)
        have B630 : sf_B (-1) (-1) (m627 21) := by rw [em628]; exact sf_kn1
        have W632 : rf_W [10, 12, 13, 14, 16, 17, 18, 21, 22] m m627 := by rw [em628]; exact W611.put (by decide)
        have B633 : sf_B 0 600 (m627 10) := T625.2.2.1 10
        have B634 : sf_B 0 4 (m627 17) := T625.2.2.1 17
        have B635 : sf_B 0 1 (m627 22) := T625.2.2.1 22
        refine pm_R_lo pm_M178 (pc_q := 44) rfl rfl rfl ?_
        refine pm_R_op pm_M178 (pc_q := 45) (st_q := [.int 0, .ref 41]) rfl rfl rfl ?_
        refine rf_R_put pm_M178 T625 (pc_q := 48) rfl rfl rfl (by decide) rfl rfl (sf_weak sf_k0 (by decide) (by decide)) rfl rfl (fun h636 m639 em640 T637 F638 => ?_)
        have F641 := F629.trans F638 (by decide)
        have B642 : sf_B (-1) (-1) (m639 21) := by rw [em640]; exact B630
        have B643 : sf_B 0 4 (m639 17) := by rw [em640]; exact B634
        have ek644 : (m639 17).toInt = ((m627 17)).toInt := by rw [em640]; rfl
        have B645 : sf_B 0 1 (m639 22) := by rw [em640]; exact B635
        have ek646 : (m639 22).toInt = ((m627 22)).toInt := by rw [em640]; rfl
        have B647 : sf_B 0 0 (m639 10) := by rw [em640]; exact sf_k0
        have W649 : rf_W [10, 12, 13, 14, 16, 17, 18, 21, 22] m m639 := by rw [em640]; exact W632.put (by decide)
        refine pm_R_lo pm_M178 (pc_q := 49) rfl rfl rfl ?_
        refine pm_R_op pm_M178 (pc_q := 50) (st_q := [.int 0, .ref 41]) rfl rfl rfl ?_
        refine rf_R_put pm_M178 T637 (pc_q := 53) rfl rfl rfl (by decide) rfl rfl (sf_weak sf_k0 (by decide) (by decide)) rfl rfl (fun h650 m653 em654 T651 F652 => ?_)
        have F655 := F641.trans F652 (by decide)
        have B656 : sf_B (-1) (-1) (m653 21) := by rw [em654]; exact B642
        have B657 : sf_B 0 1 (m653 22) := by rw [em654]; exact B645
        have ek658 : (m653 22).toInt = ((m627 22)).toInt := by rw [em654]; exact ek646
        have B659 : sf_B 0 0 (m653 10) := by rw [em654]; exact B647
        have ek660 : (m653 10).toInt = ((m639 10)).toInt := by rw [em654]; rfl
        have B661 : sf_B 0 0 (m653 17) := by rw [em654]; exact sf_k0
        have W663 : rf_W [10, 12, 13, 14, 16, 17, 18, 21, 22] m m653 := by rw [em654]; exact W649.put (by decide)
        refine pm_R_lo pm_M178 (pc_q := 54) rfl rfl rfl ?_
        refine pm_R_cv pm_M178 (pc_q := 57) (a := 41) (ra := []) (rest := []) (ls_q := [.ref 41, pm_no, pm_no]) rfl rfl (Or.inl rfl) pm_M179 T651.2.1 rfl (by decide) (Nat.lt_of_lt_of_le (by decide) T651.1) rfl rfl (Nat.le_of_ble_eq_true rfl) rfl rfl ?_
        refine rf_c179 (d := d + 4) T651  (fun m666 w667 h668 T669 F670 W671 X672 X673 => ?_)
        have F674 := F655.trans F670 (by decide)
        have B675 : sf_B (-1) (-1) (m666 21) := by rw [W671 21 (by decide)]; exact B656
        have B676 : sf_B 0 1 (m666 22) := by rw [W671 22 (by decide)]; exact B657
        have ek677 : (m666 22).toInt = ((m627 22)).toInt := by rw [W671 22 (by decide)]; exact ek658
        have B678 : sf_B 0 0 (m666 17) := by rw [W671 17 (by decide)]; exact B661
        have ek679 : (m666 17).toInt = ((m653 17)).toInt := by rw [W671 17 (by decide)]
        have W680 : rf_W [10, 12, 13, 14, 16, 17, 18, 21, 22] m m666 := W663.trans W671 (by decide)
        have B681 : sf_B 0 600 (m666 10) := T669.2.2.1 10
        show pm_R _ 178 57 [.ref 41, .int 1, .int x2_608, pm_no] [] _ _
        refine pm_R_lo pm_M178 (pc_q := 58) rfl rfl rfl ?_
        refine pm_R_op pm_M178 (pc_q := 59) (st_q := [.int 1, .int 1]) rfl rfl rfl ?_
        refine pm_R_br pm_M178 (pc_q := 62) (st_q := []) rfl rfl ?_
        refine pm_R_lo pm_M178 (pc_q := 63) rfl rfl rfl ?_
        refine pm_R_cv pm_M178 (pc_q := 66) (a := 41) (ra := []) (rest := []) (ls_q := [.ref 41]) rfl rfl (Or.inl rfl) pm_M181 T669.2.1 rfl (by decide) (Nat.lt_of_lt_of_le (by decide) T669.1) rfl rfl (Nat.le_of_ble_eq_true rfl) rfl rfl ?_
        have e682 := (F670.cell (by decide) (F652.cell (by decide) (F638.cell (by decide) (F626.cell (by decide) e620))))
        refine rf_c181 (d := d + 2) T669 (⟨(upd f612 (Int32.toNatClampNeg 0) 0), e682, ct622.1, fun z => ct622.2⟩) (fun m685 w686 h687 T688 F689 W690 X691 => ?_) (fun m694 w695 h696 T697 F698 W699 X700 X701 => ?_)
        · have F702 := F674.trans F689 (by decide)
          have B703 : sf_B (-1) (-1) (m685 21) := by rw [W690 21 (by decide)]; exact B675
          have W704 : rf_W [10, 12, 13, 14, 16, 17, 18, 21, 22] m m685 := W680.trans W690 (by decide)
          have B705 : sf_B 0 600 (m685 10) := T688.2.2.1 10
          have B706 : sf_B 0 4 (m685 17) := T688.2.2.1 17
          have B707 : sf_B 0 1 (m685 22) := T688.2.2.1 22
          show pm_R _ 178 66 [.ref 41, .int 1, .int x2_608, pm_no] [.int 0] _ _
          refine pm_R_br pm_M178 (pc_q := 74) rfl rfl ?_
          refine pm_R_lo pm_M178 (pc_q := 75) (ls_q := [.ref 41, .int 1, .int 0, pm_no]) (st_q := []) rfl rfl rfl ?_
          refine pm_R_lo pm_M178 (pc_q := 76) rfl rfl rfl ?_
          refine pm_R_op pm_M178 (pc_q := 77) (st_q := [.int 1, .int 1]) rfl rfl rfl ?_
          refine pm_R_br pm_M178 (pc_q := 80) (st_q := []) rfl rfl ?_
          refine pm_R_lo pm_M178 (pc_q := 81) rfl rfl rfl ?_
          refine rf_R_get pm_M178 T688 (pc_q := 84) (v := .ref 51) rfl rfl rfl rfl ?_
          refine pm_R_op pm_M178 (pc_q := 85) (st_q := [.int 0, .ref 51]) rfl rfl rfl ?_
          obtain ⟨f708, e709⟩ := T688.2.2.2.1 51 (by decide) (by decide)
          refine rf_R_ild pm_M178 T688 (pc_q := 86) rfl e709 (by decide) rfl rfl (fun z711 ez712 => ?_)
          refine pm_R_ifc pm_M178 (t := 93) (pc_q := 89) rfl rfl rfl (fun c713 => ?_) (fun c713 => ?_)
          · skip
            refine pm_R_op pm_M178 (pc_q := 94) (st_q := [.int 0]) rfl rfl rfl ?_
            refine pm_R_br pm_M178 (pc_q := 120) rfl rfl ?_
            refine pm_R_lo pm_M178 (pc_q := 121) (ls_q := [.ref 41, .int 1, .int 0, .int 0]) (st_q := []) (pm_q178_1 (Nat.le_of_ble_eq_true rfl)) rfl rfl ?_
            refine pm_R_lo pm_M178 (pc_q := 122) (pm_q178_1 (Nat.le_of_ble_eq_true rfl)) rfl rfl ?_
            refine pm_R_br pm_M178 (pc_q := 145) (st_q := []) (pm_q178_1 (Nat.le_of_ble_eq_true rfl)) rfl ?_
            refine pm_R_lo pm_M178 (pc_q := 146) (pm_q178_1 (Nat.le_of_ble_eq_true rfl)) rfl rfl ?_
            refine rf_R_get pm_M178 T688 (pc_q := 149) (v := .ref 44) (pm_q178_1 (Nat.le_of_ble_eq_true rfl)) rfl rfl rfl ?_
            refine pm_R_op pm_M178 (pc_q := 150) (st_q := [.int 0, .ref 44]) (pm_q178_1 (Nat.le_of_ble_eq_true rfl)) rfl rfl ?_
            refine pm_R_lo pm_M178 (pc_q := 151) (pm_q178_1 (Nat.le_of_ble_eq_true rfl)) rfl rfl ?_
            refine pm_R_br pm_M178 (pc_q := 161) (st_q := [.int 0, .ref 44]) (pm_q178_1 (Nat.le_of_ble_eq_true rfl)) rfl ?_
            refine pm_R_op pm_M178 (pc_q := 162) (st_q := [.int 1, .int 0, .ref 44]) (pm_q178_1 (Nat.le_of_ble_eq_true rfl)) rfl rfl ?_
            obtain ⟨f714, e715, b716⟩ := T688.2.2.2.1 44 (by decide) (by decide)
            refine rf_R_ist2 pm_M178 T688 (pc_q := 163) (pm_q178_1 (Nat.le_of_ble_eq_true rfl)) e715 (by decide) (by decide) rfl ⟨_, rfl, sf_upd b716 (sf_weak sf_k1 (by decide) (by decide)) _⟩ rfl (fun h717 T718 F719 e720 => ?_)
            have F721 := F702.trans F719 (by decide)
            refine pm_R_lo pm_M178 (pc_q := 164) (pm_q178_1 (Nat.le_of_ble_eq_true rfl)) rfl rfl ?_
            refine rf_R_get pm_M178 T718 (pc_q := 167) (v := .ref 45) (pm_q178_1 (Nat.le_of_ble_eq_true rfl)) rfl rfl rfl ?_
            refine pm_R_op pm_M178 (pc_q := 168) (st_q := [.int 0, .ref 45]) (pm_q178_1 (Nat.le_of_ble_eq_true rfl)) rfl rfl ?_
            refine pm_R_lo pm_M178 (pc_q := 169) (pm_q178_1 (Nat.le_of_ble_eq_true rfl)) rfl rfl ?_
            refine pm_R_br pm_M178 (pc_q := 172) (st_q := [.int 0, .ref 45]) (pm_q178_1 (Nat.le_of_ble_eq_true rfl)) rfl ?_
            refine pm_R_lo pm_M178 (pc_q := 173) (pm_q178_1 (Nat.le_of_ble_eq_true rfl)) rfl rfl ?_
            have B722 : sf_B 0 600 (m685 16) := T718.2.2.1 16
            refine rf_R_get pm_M178 T718 (pc_q := 176) (v := .int (m685 16)) (pm_q178_1 (Nat.le_of_ble_eq_true rfl)) rfl rfl rfl ?_
            refine pm_R_br pm_M178 (pc_q := 194) (pm_q178_1 (Nat.le_of_ble_eq_true rfl)) rfl ?_
            obtain ⟨f723, e724, b725⟩ := T718.2.2.2.1 45 (by decide) (by decide)
            refine rf_R_ist2 pm_M178 T718 (pc_q := 195) (pm_q178_1 (Nat.le_of_ble_eq_true rfl)) e724 (by decide) (by decide) rfl ⟨_, rfl, sf_upd b725 (sf_weak B722 (by decide) (by decide)) _⟩ rfl (fun h726 T727 F728 e729 => ?_)
            have F730 := F721.trans F728 (by decide)
            refine pm_R_lo pm_M178 (pc_q := 196) (pm_q178_1 (Nat.le_of_ble_eq_true rfl)) rfl rfl ?_
            refine rf_R_get pm_M178 T727 (pc_q := 199) (v := .ref 44) (pm_q178_1 (Nat.le_of_ble_eq_true rfl)) rfl rfl rfl ?_
            refine pm_R_op pm_M178 (pc_q := 200) (st_q := [.int 0, .ref 44]) (pm_q178_1 (Nat.le_of_ble_eq_true rfl)) rfl rfl ?_
            have e731 := (F728.cell (by decide) e720)
            refine pm_R_iald pm_M178 (pc_q := 201) (v := 1) (pm_q178_1 (Nat.le_of_ble_eq_true rfl)) e731 (Nat.lt_of_lt_of_le (by decide) T727.1) rfl sf_upd_eq rfl ?_
            refine pm_R_br pm_M178 (pc_q := 208) (st_q := []) (pm_q178_1 (Nat.le_of_ble_eq_true rfl)) rfl ?_
            refine pm_R_op pm_M178 (pc_q := 209) (st_q := [.int 0]) (pm_q178_1 (Nat.le_of_ble_eq_true rfl)) rfl rfl ?_
            exact pm_R_ret pm_M178 (r := some (.int 0)) (pm_q178_1 (Nat.le_of_ble_eq_true rfl)) rfl (K0 m685 w686 h726 T727 F730 W704)
          · have B734 : sf_B 0 0 z711 := sf_eqL (Classical.not_not.mp c713) sf_k0
            refine pm_R_op pm_M178 (pc_q := 90) (st_q := [.int 1]) rfl rfl rfl ?_
            refine pm_R_br pm_M178 (pc_q := 120) rfl rfl ?_
            refine pm_R_lo pm_M178 (pc_q := 121) (ls_q := [.ref 41, .int 1, .int 0, .int 1]) (st_q := []) (pm_q178_1 (Nat.le_of_ble_eq_true rfl)) rfl rfl ?_
            refine pm_R_lo pm_M178 (pc_q := 122) (pm_q178_1 (Nat.le_of_ble_eq_true rfl)) rfl rfl ?_
            refine pm_R_br pm_M178 (pc_q := 145) (st_q := []) (pm_q178_1 (Nat.le_of_ble_eq_true rfl)) rfl ?_
            refine pm_R_lo pm_M178 (pc_q := 146) (pm_q178_1 (Nat.le_of_ble_eq_true rfl)) rfl rfl ?_
            refine rf_R_get pm_M178 T688 (pc_q := 149) (v := .ref 44) (pm_q178_1 (Nat.le_of_ble_eq_true rfl)) rfl rfl rfl ?_
            refine pm_R_op pm_M178 (pc_q := 150) (st_q := [.int 0, .ref 44]) (pm_q178_1 (Nat.le_of_ble_eq_true rfl)) rfl rfl ?_
            refine pm_R_lo pm_M178 (pc_q := 151) (pm_q178_1 (Nat.le_of_ble_eq_true rfl)) rfl rfl ?_
            refine pm_R_br pm_M178 (pc_q := 161) (st_q := [.int 0, .ref 44]) (pm_q178_1 (Nat.le_of_ble_eq_true rfl)) rfl ?_
            refine pm_R_op pm_M178 (pc_q := 162) (st_q := [.int 1, .int 0, .ref 44]) (pm_q178_1 (Nat.le_of_ble_eq_true rfl)) rfl rfl ?_
            obtain ⟨f735, e736, b737⟩ := T688.2.2.2.1 44 (by decide) (by decide)
            refine rf_R_ist2 pm_M178 T688 (pc_q := 163) (pm_q178_1 (Nat.le_of_ble_eq_true rfl)) e736 (by decide) (by decide) rfl ⟨_, rfl, sf_upd b737 (sf_weak sf_k1 (by decide) (by decide)) _⟩ rfl (fun h738 T739 F740 e741 => ?_)
            have F742 := F702.trans F740 (by decide)
            refine pm_R_lo pm_M178 (pc_q := 164) (pm_q178_1 (Nat.le_of_ble_eq_true rfl)) rfl rfl ?_
            refine rf_R_get pm_M178 T739 (pc_q := 167) (v := .ref 45) (pm_q178_1 (Nat.le_of_ble_eq_true rfl)) rfl rfl rfl ?_
            refine pm_R_op pm_M178 (pc_q := 168) (st_q := [.int 0, .ref 45]) (pm_q178_1 (Nat.le_of_ble_eq_true rfl)) rfl rfl ?_
            refine pm_R_lo pm_M178 (pc_q := 169) (pm_q178_1 (Nat.le_of_ble_eq_true rfl)) rfl rfl ?_
            refine pm_R_br pm_M178 (pc_q := 172) (st_q := [.int 0, .ref 45]) (pm_q178_1 (Nat.le_of_ble_eq_true rfl)) rfl ?_
            refine pm_R_lo pm_M178 (pc_q := 173) (pm_q178_1 (Nat.le_of_ble_eq_true rfl)) rfl rfl ?_
            have B743 : sf_B 0 600 (m685 16) := T739.2.2.1 16
            refine rf_R_get pm_M178 T739 (pc_q := 176) (v := .int (m685 16)) (pm_q178_1 (Nat.le_of_ble_eq_true rfl)) rfl rfl rfl ?_
            refine pm_R_br pm_M178 (pc_q := 194) (pm_q178_1 (Nat.le_of_ble_eq_true rfl)) rfl ?_
            obtain ⟨f744, e745, b746⟩ := T739.2.2.2.1 45 (by decide) (by decide)
            refine rf_R_ist2 pm_M178 T739 (pc_q := 195) (pm_q178_1 (Nat.le_of_ble_eq_true rfl)) e745 (by decide) (by decide) rfl ⟨_, rfl, sf_upd b746 (sf_weak B743 (by decide) (by decide)) _⟩ rfl (fun h747 T748 F749 e750 => ?_)
            have F751 := F742.trans F749 (by decide)
            refine pm_R_lo pm_M178 (pc_q := 196) (pm_q178_1 (Nat.le_of_ble_eq_true rfl)) rfl rfl ?_
            refine rf_R_get pm_M178 T748 (pc_q := 199) (v := .ref 44) (pm_q178_1 (Nat.le_of_ble_eq_true rfl)) rfl rfl rfl ?_
            refine pm_R_op pm_M178 (pc_q := 200) (st_q := [.int 0, .ref 44]) (pm_q178_1 (Nat.le_of_ble_eq_true rfl)) rfl rfl ?_
            have e752 := (F749.cell (by decide) e741)
            refine pm_R_iald pm_M178 (pc_q := 201) (v := 1) (pm_q178_1 (Nat.le_of_ble_eq_true rfl)) e752 (Nat.lt_of_lt_of_le (by decide) T748.1) rfl sf_upd_eq rfl ?_
            refine pm_R_br pm_M178 (pc_q := 208) (st_q := []) (pm_q178_1 (Nat.le_of_ble_eq_true rfl)) rfl ?_
            refine pm_R_op pm_M178 (pc_q := 209) (st_q := [.int 0]) (pm_q178_1 (Nat.le_of_ble_eq_true rfl)) rfl rfl ?_
            exact pm_R_ret pm_M178 (r := some (.int 0)) (pm_q178_1 (Nat.le_of_ble_eq_true rfl)) rfl (K0 m685 w686 h747 T748 F751 W704)
        · have F755 := F674.trans F698 (by decide)
          have B756 : sf_B (-1) (-1) (m694 21) := by rw [W699 21 (by decide)]; exact B675
          have W757 : rf_W [10, 12, 13, 14, 16, 17, 18, 21, 22] m m694 := W680.trans W699 (by decide)
          have B758 : sf_B 0 600 (m694 10) := T697.2.2.1 10
          have B759 : sf_B 0 4 (m694 17) := T697.2.2.1 17
          have B760 : sf_B 0 1 (m694 22) := T697.2.2.1 22
          show pm_R _ 178 66 [.ref 41, .int 1, .int x2_608, pm_no] [.int 1] _ _
          obtain ⟨f761, e762, ct763, bd764⟩ := X700
          refine pm_R_br pm_M178 (pc_q := 74) rfl rfl ?_
          refine pm_R_lo pm_M178 (pc_q := 75) (ls_q := [.ref 41, .int 1, .int 1, pm_no]) (st_q := []) rfl rfl rfl ?_
          refine pm_R_lo pm_M178 (pc_q := 76) rfl rfl rfl ?_
          refine pm_R_op pm_M178 (pc_q := 77) (st_q := [.int 1, .int 1]) rfl rfl rfl ?_
          refine pm_R_br pm_M178 (pc_q := 80) (st_q := []) rfl rfl ?_
          refine pm_R_lo pm_M178 (pc_q := 81) rfl rfl rfl ?_
          refine rf_R_get pm_M178 T697 (pc_q := 84) (v := .ref 51) rfl rfl rfl rfl ?_
          refine pm_R_op pm_M178 (pc_q := 85) (st_q := [.int 0, .ref 51]) rfl rfl rfl ?_
          refine pm_R_iald pm_M178 (pc_q := 86) (v := (f761 0)) rfl e762 (Nat.lt_of_lt_of_le (by decide) T697.1) rfl rfl rfl ?_
          refine pm_R_ifc pm_M178 (t := 93) (pc_q := 89) rfl rfl rfl (fun c767 => ?_) (fun c767 => ?_)
          · have B768 : sf_B 1 12 (f761 0) := sf_neL0 c767 sf_k0 ct763
            refine pm_R_op pm_M178 (pc_q := 94) (st_q := [.int 0]) rfl rfl rfl ?_
            refine pm_R_br pm_M178 (pc_q := 120) rfl rfl ?_
            refine pm_R_lo pm_M178 (pc_q := 121) (ls_q := [.ref 41, .int 1, .int 1, .int 0]) (st_q := []) (pm_q178_1 (Nat.le_of_ble_eq_true rfl)) rfl rfl ?_
            refine pm_R_lo pm_M178 (pc_q := 122) (pm_q178_1 (Nat.le_of_ble_eq_true rfl)) rfl rfl ?_
            refine pm_R_br pm_M178 (pc_q := 125) (st_q := []) (pm_q178_1 (Nat.le_of_ble_eq_true rfl)) rfl ?_
            refine pm_R_lo pm_M178 (pc_q := 126) (pm_q178_1 (Nat.le_of_ble_eq_true rfl)) rfl rfl ?_
            refine rf_R_get pm_M178 T697 (pc_q := 129) (v := .int (m694 17)) (pm_q178_1 (Nat.le_of_ble_eq_true rfl)) rfl rfl rfl ?_
            refine pm_R_ifc pm_M178 (t := 145) (pc_q := 132) (pm_q178_1 (Nat.le_of_ble_eq_true rfl)) rfl rfl (fun c769 => ?_) (fun c769 => ?_)
            · have B770 : sf_B 1 4 (m694 17) := sf_neL0 c769 sf_k0 B759
              refine pm_R_lo pm_M178 (pc_q := 146) (pm_q178_1 (Nat.le_of_ble_eq_true rfl)) rfl rfl ?_
              refine rf_R_get pm_M178 T697 (pc_q := 149) (v := .ref 44) (pm_q178_1 (Nat.le_of_ble_eq_true rfl)) rfl rfl rfl ?_
              refine pm_R_op pm_M178 (pc_q := 150) (st_q := [.int 0, .ref 44]) (pm_q178_1 (Nat.le_of_ble_eq_true rfl)) rfl rfl ?_
              refine pm_R_lo pm_M178 (pc_q := 151) (pm_q178_1 (Nat.le_of_ble_eq_true rfl)) rfl rfl ?_
              refine pm_R_br pm_M178 (pc_q := 154) (st_q := [.int 0, .ref 44]) (pm_q178_1 (Nat.le_of_ble_eq_true rfl)) rfl ?_
              refine pm_R_lo pm_M178 (pc_q := 155) (pm_q178_1 (Nat.le_of_ble_eq_true rfl)) rfl rfl ?_
              refine rf_R_get pm_M178 T697 (pc_q := 158) (v := .int (m694 17)) (pm_q178_1 (Nat.le_of_ble_eq_true rfl)) rfl rfl rfl ?_
              refine pm_R_br pm_M178 (pc_q := 162) (pm_q178_1 (Nat.le_of_ble_eq_true rfl)) rfl ?_
              obtain ⟨f771, e772, b773⟩ := T697.2.2.2.1 44 (by decide) (by decide)
              refine rf_R_ist2 pm_M178 T697 (pc_q := 163) (pm_q178_1 (Nat.le_of_ble_eq_true rfl)) e772 (by decide) (by decide) rfl ⟨_, rfl, sf_upd b773 (sf_weak B770 (by decide) (by decide)) _⟩ rfl (fun h774 T775 F776 e777 => ?_)
              have F778 := F755.trans F776 (by decide)
              refine pm_R_lo pm_M178 (pc_q := 164) (pm_q178_1 (Nat.le_of_ble_eq_true rfl)) rfl rfl ?_
              refine rf_R_get pm_M178 T775 (pc_q := 167) (v := .ref 45) (pm_q178_1 (Nat.le_of_ble_eq_true rfl)) rfl rfl rfl ?_
              refine pm_R_op pm_M178 (pc_q := 168) (st_q := [.int 0, .ref 45]) (pm_q178_1 (Nat.le_of_ble_eq_true rfl)) rfl rfl ?_
              refine pm_R_lo pm_M178 (pc_q := 169) (pm_q178_1 (Nat.le_of_ble_eq_true rfl)) rfl rfl ?_
              refine pm_R_br pm_M178 (pc_q := 179) (st_q := [.int 0, .ref 45]) (pm_q178_1 (Nat.le_of_ble_eq_true rfl)) rfl ?_
              refine pm_R_lo pm_M178 (pc_q := 180) (pm_q178_1 (Nat.le_of_ble_eq_true rfl)) rfl rfl ?_
              refine rf_R_get pm_M178 T775 (pc_q := 183) (v := .int (m694 17)) (pm_q178_1 (Nat.le_of_ble_eq_true rfl)) rfl rfl rfl ?_
              refine pm_R_ifc pm_M178 (t := 193) (pc_q := 186) (pm_q178_1 (Nat.le_of_ble_eq_true rfl)) rfl rfl (fun c779 => absurd c779 (sf_nle B770 sf_k0 (by decide))) (fun c779 => ?_)
              skip
              refine pm_R_lo pm_M178 (pc_q := 187) (pm_q178_1 (Nat.le_of_ble_eq_true rfl)) rfl rfl ?_
              have B780 : sf_B 0 600 (m694 18) := T775.2.2.1 18
              refine rf_R_get pm_M178 T775 (pc_q := 190) (v := .int (m694 18)) (pm_q178_1 (Nat.le_of_ble_eq_true rfl)) rfl rfl rfl ?_
              refine pm_R_br pm_M178 (pc_q := 194) (pm_q178_1 (Nat.le_of_ble_eq_true rfl)) rfl ?_
              obtain ⟨f781, e782, b783⟩ := T775.2.2.2.1 45 (by decide) (by decide)
              refine rf_R_ist2 pm_M178 T775 (pc_q := 195) (pm_q178_1 (Nat.le_of_ble_eq_true rfl)) e782 (by decide) (by decide) rfl ⟨_, rfl, sf_upd b783 (sf_weak B780 (by decide) (by decide)) _⟩ rfl (fun h784 T785 F786 e787 => ?_)
              have F788 := F778.trans F786 (by decide)
              refine pm_R_lo pm_M178 (pc_q := 196) (pm_q178_1 (Nat.le_of_ble_eq_true rfl)) rfl rfl ?_
              refine rf_R_get pm_M178 T785 (pc_q := 199) (v := .ref 44) (pm_q178_1 (Nat.le_of_ble_eq_true rfl)) rfl rfl rfl ?_
              refine pm_R_op pm_M178 (pc_q := 200) (st_q := [.int 0, .ref 44]) (pm_q178_1 (Nat.le_of_ble_eq_true rfl)) rfl rfl ?_
              have e789 := (F786.cell (by decide) e777)
              refine pm_R_iald pm_M178 (pc_q := 201) (v := (m694 17)) (pm_q178_1 (Nat.le_of_ble_eq_true rfl)) e789 (Nat.lt_of_lt_of_le (by decide) T785.1) rfl sf_upd_eq rfl ?_
              refine pm_R_ifc pm_M178 (t := 208) (pc_q := 204) (pm_q178_1 (Nat.le_of_ble_eq_true rfl)) rfl rfl (fun c792 => ?_) (fun c792 => absurd (Classical.not_not.mp c792) (sf_neq1 B770 sf_k0 (by decide)))
              skip
              refine pm_R_op pm_M178 (pc_q := 209) (st_q := [.int 0]) (pm_q178_1 (Nat.le_of_ble_eq_true rfl)) rfl rfl ?_
              exact pm_R_ret pm_M178 (r := some (.int 0)) (pm_q178_1 (Nat.le_of_ble_eq_true rfl)) rfl (K0 m694 w695 h784 T785 F788 W757)
            · have B793 : sf_B 0 0 (m694 17) := sf_eqL (Classical.not_not.mp c769) sf_k0
              refine pm_R_lo pm_M178 (pc_q := 133) (pm_q178_1 (Nat.le_of_ble_eq_true rfl)) rfl rfl ?_
              refine pm_R_br pm_M178 (pc_q := 145) (st_q := []) (pm_q178_1 (Nat.le_of_ble_eq_true rfl)) rfl ?_
              refine pm_R_lo pm_M178 (pc_q := 146) (pm_q178_1 (Nat.le_of_ble_eq_true rfl)) rfl rfl ?_
              refine rf_R_get pm_M178 T697 (pc_q := 149) (v := .ref 44) (pm_q178_1 (Nat.le_of_ble_eq_true rfl)) rfl rfl rfl ?_
              refine pm_R_op pm_M178 (pc_q := 150) (st_q := [.int 0, .ref 44]) (pm_q178_1 (Nat.le_of_ble_eq_true rfl)) rfl rfl ?_
              refine pm_R_lo pm_M178 (pc_q := 151) (pm_q178_1 (Nat.le_of_ble_eq_true rfl)) rfl rfl ?_
              refine pm_R_br pm_M178 (pc_q := 154) (st_q := [.int 0, .ref 44]) (pm_q178_1 (Nat.le_of_ble_eq_true rfl)) rfl ?_
              refine pm_R_lo pm_M178 (pc_q := 155) (pm_q178_1 (Nat.le_of_ble_eq_true rfl)) rfl rfl ?_
              refine rf_R_get pm_M178 T697 (pc_q := 158) (v := .int (m694 17)) (pm_q178_1 (Nat.le_of_ble_eq_true rfl)) rfl rfl rfl ?_
              refine pm_R_br pm_M178 (pc_q := 162) (pm_q178_1 (Nat.le_of_ble_eq_true rfl)) rfl ?_
              obtain ⟨f794, e795, b796⟩ := T697.2.2.2.1 44 (by decide) (by decide)
              refine rf_R_ist2 pm_M178 T697 (pc_q := 163) (pm_q178_1 (Nat.le_of_ble_eq_true rfl)) e795 (by decide) (by decide) rfl ⟨_, rfl, sf_upd b796 (sf_weak B793 (by decide) (by decide)) _⟩ rfl (fun h797 T798 F799 e800 => ?_)
              have F801 := F755.trans F799 (by decide)
              refine pm_R_lo pm_M178 (pc_q := 164) (pm_q178_1 (Nat.le_of_ble_eq_true rfl)) rfl rfl ?_
              refine rf_R_get pm_M178 T798 (pc_q := 167) (v := .ref 45) (pm_q178_1 (Nat.le_of_ble_eq_true rfl)) rfl rfl rfl ?_
              refine pm_R_op pm_M178 (pc_q := 168) (st_q := [.int 0, .ref 45]) (pm_q178_1 (Nat.le_of_ble_eq_true rfl)) rfl rfl ?_
              refine pm_R_lo pm_M178 (pc_q := 169) (pm_q178_1 (Nat.le_of_ble_eq_true rfl)) rfl rfl ?_
              refine pm_R_br pm_M178 (pc_q := 179) (st_q := [.int 0, .ref 45]) (pm_q178_1 (Nat.le_of_ble_eq_true rfl)) rfl ?_
              refine pm_R_lo pm_M178 (pc_q := 180) (pm_q178_1 (Nat.le_of_ble_eq_true rfl)) rfl rfl ?_
              refine rf_R_get pm_M178 T798 (pc_q := 183) (v := .int (m694 17)) (pm_q178_1 (Nat.le_of_ble_eq_true rfl)) rfl rfl rfl ?_
              refine pm_R_ifc pm_M178 (t := 193) (pc_q := 186) (pm_q178_1 (Nat.le_of_ble_eq_true rfl)) rfl rfl (fun c802 => ?_) (fun c802 => absurd (Int32.not_le.mp c802) (sf_nlt sf_k0 B793 (by decide)))
              skip
              refine pm_R_op pm_M178 (pc_q := 194) (st_q := [.int (-1), .int 0, .ref 45]) (pm_q178_1 (Nat.le_of_ble_eq_true rfl)) rfl rfl ?_
              obtain ⟨f803, e804, b805⟩ := T798.2.2.2.1 45 (by decide) (by decide)
              refine rf_R_ist2 pm_M178 T798 (pc_q := 195) (pm_q178_1 (Nat.le_of_ble_eq_true rfl)) e804 (by decide) (by decide) rfl ⟨_, rfl, sf_upd b805 (sf_weak sf_kn1 (by decide) (by decide)) _⟩ rfl (fun h806 T807 F808 e809 => ?_)
              have F810 := F801.trans F808 (by decide)
              refine pm_R_lo pm_M178 (pc_q := 196) (pm_q178_1 (Nat.le_of_ble_eq_true rfl)) rfl rfl ?_
              refine rf_R_get pm_M178 T807 (pc_q := 199) (v := .ref 44) (pm_q178_1 (Nat.le_of_ble_eq_true rfl)) rfl rfl rfl ?_
              refine pm_R_op pm_M178 (pc_q := 200) (st_q := [.int 0, .ref 44]) (pm_q178_1 (Nat.le_of_ble_eq_true rfl)) rfl rfl ?_
              have e811 := (F808.cell (by decide) e800)
              refine pm_R_iald pm_M178 (pc_q := 201) (v := (m694 17)) (pm_q178_1 (Nat.le_of_ble_eq_true rfl)) e811 (Nat.lt_of_lt_of_le (by decide) T807.1) rfl sf_upd_eq rfl ?_
              refine pm_R_ifc pm_M178 (t := 208) (pc_q := 204) (pm_q178_1 (Nat.le_of_ble_eq_true rfl)) rfl rfl (fun c814 => absurd (sf_pt2 B793 sf_k0) c814) (fun c814 => ?_)
              refine pm_R_op pm_M178 (pc_q := 205) (st_q := [.int 1]) (pm_q178_1 (Nat.le_of_ble_eq_true rfl)) rfl rfl ?_
              refine pm_R_br pm_M178 (pc_q := 209) (pm_q178_1 (Nat.le_of_ble_eq_true rfl)) rfl ?_
              have e815 := (F808.cell (by decide) (F799.cell (by decide) e762))
              exact pm_R_ret pm_M178 (r := some (.int 1)) (pm_q178_1 (Nat.le_of_ble_eq_true rfl)) rfl (K1 m694 w695 h806 T807 F810 W757 ⟨f761, e815, (by have z : ((m694 17)).toInt = 0 := (sf_aux35 _ B793.1 B793.2); exact (bd764 z)), (sf_eqL rfl B768).1⟩)
          · have B816 : sf_B 0 0 (f761 0) := sf_eqL (Classical.not_not.mp c767) sf_k0
            refine pm_R_op pm_M178 (pc_q := 90) (st_q := [.int 1]) rfl rfl rfl ?_
            refine pm_R_br pm_M178 (pc_q := 120) rfl rfl ?_
            refine pm_R_lo pm_M178 (pc_q := 121) (ls_q := [.ref 41, .int 1, .int 1, .int 1]) (st_q := []) (pm_q178_1 (Nat.le_of_ble_eq_true rfl)) rfl rfl ?_
            refine pm_R_lo pm_M178 (pc_q := 122) (pm_q178_1 (Nat.le_of_ble_eq_true rfl)) rfl rfl ?_
            refine pm_R_br pm_M178 (pc_q := 125) (st_q := []) (pm_q178_1 (Nat.le_of_ble_eq_true rfl)) rfl ?_
            refine pm_R_lo pm_M178 (pc_q := 126) (pm_q178_1 (Nat.le_of_ble_eq_true rfl)) rfl rfl ?_
            refine rf_R_get pm_M178 T697 (pc_q := 129) (v := .int (m694 17)) (pm_q178_1 (Nat.le_of_ble_eq_true rfl)) rfl rfl rfl ?_
            refine pm_R_ifc pm_M178 (t := 145) (pc_q := 132) (pm_q178_1 (Nat.le_of_ble_eq_true rfl)) rfl rfl (fun c817 => ?_) (fun c817 => ?_)
            · have B818 : sf_B 1 4 (m694 17) := sf_neL0 c817 sf_k0 B759
              refine pm_R_lo pm_M178 (pc_q := 146) (pm_q178_1 (Nat.le_of_ble_eq_true rfl)) rfl rfl ?_
              refine rf_R_get pm_M178 T697 (pc_q := 149) (v := .ref 44) (pm_q178_1 (Nat.le_of_ble_eq_true rfl)) rfl rfl rfl ?_
              refine pm_R_op pm_M178 (pc_q := 150) (st_q := [.int 0, .ref 44]) (pm_q178_1 (Nat.le_of_ble_eq_true rfl)) rfl rfl ?_
              refine pm_R_lo pm_M178 (pc_q := 151) (pm_q178_1 (Nat.le_of_ble_eq_true rfl)) rfl rfl ?_
              refine pm_R_br pm_M178 (pc_q := 154) (st_q := [.int 0, .ref 44]) (pm_q178_1 (Nat.le_of_ble_eq_true rfl)) rfl ?_
              refine pm_R_lo pm_M178 (pc_q := 155) (pm_q178_1 (Nat.le_of_ble_eq_true rfl)) rfl rfl ?_
              refine rf_R_get pm_M178 T697 (pc_q := 158) (v := .int (m694 17)) (pm_q178_1 (Nat.le_of_ble_eq_true rfl)) rfl rfl rfl ?_
              refine pm_R_br pm_M178 (pc_q := 162) (pm_q178_1 (Nat.le_of_ble_eq_true rfl)) rfl ?_
              obtain ⟨f819, e820, b821⟩ := T697.2.2.2.1 44 (by decide) (by decide)
              refine rf_R_ist2 pm_M178 T697 (pc_q := 163) (pm_q178_1 (Nat.le_of_ble_eq_true rfl)) e820 (by decide) (by decide) rfl ⟨_, rfl, sf_upd b821 (sf_weak B818 (by decide) (by decide)) _⟩ rfl (fun h822 T823 F824 e825 => ?_)
              have F826 := F755.trans F824 (by decide)
              refine pm_R_lo pm_M178 (pc_q := 164) (pm_q178_1 (Nat.le_of_ble_eq_true rfl)) rfl rfl ?_
              refine rf_R_get pm_M178 T823 (pc_q := 167) (v := .ref 45) (pm_q178_1 (Nat.le_of_ble_eq_true rfl)) rfl rfl rfl ?_
              refine pm_R_op pm_M178 (pc_q := 168) (st_q := [.int 0, .ref 45]) (pm_q178_1 (Nat.le_of_ble_eq_true rfl)) rfl rfl ?_
              refine pm_R_lo pm_M178 (pc_q := 169) (pm_q178_1 (Nat.le_of_ble_eq_true rfl)) rfl rfl ?_
              refine pm_R_br pm_M178 (pc_q := 179) (st_q := [.int 0, .ref 45]) (pm_q178_1 (Nat.le_of_ble_eq_true rfl)) rfl ?_
              refine pm_R_lo pm_M178 (pc_q := 180) (pm_q178_1 (Nat.le_of_ble_eq_true rfl)) rfl rfl ?_
              refine rf_R_get pm_M178 T823 (pc_q := 183) (v := .int (m694 17)) (pm_q178_1 (Nat.le_of_ble_eq_true rfl)) rfl rfl rfl ?_
              refine pm_R_ifc pm_M178 (t := 193) (pc_q := 186) (pm_q178_1 (Nat.le_of_ble_eq_true rfl)) rfl rfl (fun c827 => absurd c827 (sf_nle B818 sf_k0 (by decide))) (fun c827 => ?_)
              skip
              refine pm_R_lo pm_M178 (pc_q := 187) (pm_q178_1 (Nat.le_of_ble_eq_true rfl)) rfl rfl ?_
              have B828 : sf_B 0 600 (m694 18) := T823.2.2.1 18
              refine rf_R_get pm_M178 T823 (pc_q := 190) (v := .int (m694 18)) (pm_q178_1 (Nat.le_of_ble_eq_true rfl)) rfl rfl rfl ?_
              refine pm_R_br pm_M178 (pc_q := 194) (pm_q178_1 (Nat.le_of_ble_eq_true rfl)) rfl ?_
              obtain ⟨f829, e830, b831⟩ := T823.2.2.2.1 45 (by decide) (by decide)
              refine rf_R_ist2 pm_M178 T823 (pc_q := 195) (pm_q178_1 (Nat.le_of_ble_eq_true rfl)) e830 (by decide) (by decide) rfl ⟨_, rfl, sf_upd b831 (sf_weak B828 (by decide) (by decide)) _⟩ rfl (fun h832 T833 F834 e835 => ?_)
              have F836 := F826.trans F834 (by decide)
              refine pm_R_lo pm_M178 (pc_q := 196) (pm_q178_1 (Nat.le_of_ble_eq_true rfl)) rfl rfl ?_
              refine rf_R_get pm_M178 T833 (pc_q := 199) (v := .ref 44) (pm_q178_1 (Nat.le_of_ble_eq_true rfl)) rfl rfl rfl ?_
              refine pm_R_op pm_M178 (pc_q := 200) (st_q := [.int 0, .ref 44]) (pm_q178_1 (Nat.le_of_ble_eq_true rfl)) rfl rfl ?_
              have e837 := (F834.cell (by decide) e825)
              refine pm_R_iald pm_M178 (pc_q := 201) (v := (m694 17)) (pm_q178_1 (Nat.le_of_ble_eq_true rfl)) e837 (Nat.lt_of_lt_of_le (by decide) T833.1) rfl sf_upd_eq rfl ?_
              refine pm_R_ifc pm_M178 (t := 208) (pc_q := 204) (pm_q178_1 (Nat.le_of_ble_eq_true rfl)) rfl rfl (fun c840 => ?_) (fun c840 => absurd (Classical.not_not.mp c840) (sf_neq1 B818 sf_k0 (by decide)))
              skip
              refine pm_R_op pm_M178 (pc_q := 209) (st_q := [.int 0]) (pm_q178_1 (Nat.le_of_ble_eq_true rfl)) rfl rfl ?_
              exact pm_R_ret pm_M178 (r := some (.int 0)) (pm_q178_1 (Nat.le_of_ble_eq_true rfl)) rfl (K0 m694 w695 h832 T833 F836 W757)
            · have B841 : sf_B 0 0 (m694 17) := sf_eqL (Classical.not_not.mp c817) sf_k0
              refine pm_R_lo pm_M178 (pc_q := 133) (pm_q178_1 (Nat.le_of_ble_eq_true rfl)) rfl rfl ?_
              refine pm_R_br pm_M178 (pc_q := 136) (st_q := []) (pm_q178_1 (Nat.le_of_ble_eq_true rfl)) rfl ?_
              refine pm_R_lo pm_M178 (pc_q := 137) (pm_q178_1 (Nat.le_of_ble_eq_true rfl)) rfl rfl ?_
              refine pm_R_op pm_M178 (pc_q := 138) (st_q := [.int 4, .ref 41]) (pm_q178_1 (Nat.le_of_ble_eq_true rfl)) rfl rfl ?_
              refine pm_R_lo pm_M178 (pc_q := 139) (pm_q178_1 (Nat.le_of_ble_eq_true rfl)) rfl rfl ?_
              have B842 : sf_B 0 600 (m694 12) := T697.2.2.1 12
              refine rf_R_get pm_M178 T697 (pc_q := 142) (v := .int (m694 12)) (pm_q178_1 (Nat.le_of_ble_eq_true rfl)) rfl rfl rfl ?_
              refine pm_R_cv pm_M178 (pc_q := 145) (a := 41) (ra := [.int (m694 12), .int 4]) (rest := []) (ls_q := [.ref 41, .int 4, .int (m694 12)]) (pm_q178_1 (Nat.le_of_ble_eq_true rfl)) rfl (Or.inl rfl) pm_M182 T697.2.1 rfl (by decide) (Nat.lt_of_lt_of_le (by decide) T697.1) rfl rfl (Nat.le_of_ble_eq_true rfl) rfl rfl ?_
              refine rf_c182 (d := d + 5) T697 (sf_weak sf_k4 (by decide) (by decide)) B842 (fun m845 w846 h847 T848 F849 W850 B851 => ?_)
              have F852 := F755.trans F849 (by decide)
              have B853 : sf_B (-1) (-1) (m845 21) := by rw [W850 21 (by decide)]; exact B756
              have B854 : sf_B 0 600 (m845 10) := by rw [W850 10 (by decide)]; exact B758
              have ek855 : (m845 10).toInt = ((m694 10)).toInt := by rw [W850 10 (by decide)]
              have B856 : sf_B 0 1 (m845 22) := by rw [W850 22 (by decide)]; exact B760
              have ek857 : (m845 22).toInt = ((m694 22)).toInt := by rw [W850 22 (by decide)]
              have W858 : rf_W [10, 12, 13, 14, 16, 17, 18, 21, 22] m m845 := W757.trans W850 (by decide)
              have B859 : sf_B 0 4 (m845 17) := T848.2.2.1 17
              show pm_R _ 178 145 [.ref 41, .int 1, .int 1, .int 1] [] _ _
              refine pm_R_lo pm_M178 (pc_q := 146) (pm_q178_1 (Nat.le_of_ble_eq_true rfl)) rfl rfl ?_
              refine rf_R_get pm_M178 T848 (pc_q := 149) (v := .ref 44) (pm_q178_1 (Nat.le_of_ble_eq_true rfl)) rfl rfl rfl ?_
              refine pm_R_op pm_M178 (pc_q := 150) (st_q := [.int 0, .ref 44]) (pm_q178_1 (Nat.le_of_ble_eq_true rfl)) rfl rfl ?_
              refine pm_R_lo pm_M178 (pc_q := 151) (pm_q178_1 (Nat.le_of_ble_eq_true rfl)) rfl rfl ?_
              refine pm_R_br pm_M178 (pc_q := 154) (st_q := [.int 0, .ref 44]) (pm_q178_1 (Nat.le_of_ble_eq_true rfl)) rfl ?_
              refine pm_R_lo pm_M178 (pc_q := 155) (pm_q178_1 (Nat.le_of_ble_eq_true rfl)) rfl rfl ?_
              refine rf_R_get pm_M178 T848 (pc_q := 158) (v := .int (m845 17)) (pm_q178_1 (Nat.le_of_ble_eq_true rfl)) rfl rfl rfl ?_
              refine pm_R_br pm_M178 (pc_q := 162) (pm_q178_1 (Nat.le_of_ble_eq_true rfl)) rfl ?_
              obtain ⟨f860, e861, b862⟩ := T848.2.2.2.1 44 (by decide) (by decide)
              refine rf_R_ist2 pm_M178 T848 (pc_q := 163) (pm_q178_1 (Nat.le_of_ble_eq_true rfl)) e861 (by decide) (by decide) rfl ⟨_, rfl, sf_upd b862 (sf_weak B851 (by decide) (by decide)) _⟩ rfl (fun h863 T864 F865 e866 => ?_)
              have F867 := F852.trans F865 (by decide)
              refine pm_R_lo pm_M178 (pc_q := 164) (pm_q178_1 (Nat.le_of_ble_eq_true rfl)) rfl rfl ?_
              refine rf_R_get pm_M178 T864 (pc_q := 167) (v := .ref 45) (pm_q178_1 (Nat.le_of_ble_eq_true rfl)) rfl rfl rfl ?_
              refine pm_R_op pm_M178 (pc_q := 168) (st_q := [.int 0, .ref 45]) (pm_q178_1 (Nat.le_of_ble_eq_true rfl)) rfl rfl ?_
              refine pm_R_lo pm_M178 (pc_q := 169) (pm_q178_1 (Nat.le_of_ble_eq_true rfl)) rfl rfl ?_
              refine pm_R_br pm_M178 (pc_q := 179) (st_q := [.int 0, .ref 45]) (pm_q178_1 (Nat.le_of_ble_eq_true rfl)) rfl ?_
              refine pm_R_lo pm_M178 (pc_q := 180) (pm_q178_1 (Nat.le_of_ble_eq_true rfl)) rfl rfl ?_
              refine rf_R_get pm_M178 T864 (pc_q := 183) (v := .int (m845 17)) (pm_q178_1 (Nat.le_of_ble_eq_true rfl)) rfl rfl rfl ?_
              refine pm_R_ifc pm_M178 (t := 193) (pc_q := 186) (pm_q178_1 (Nat.le_of_ble_eq_true rfl)) rfl rfl (fun c868 => absurd c868 (sf_nle B851 sf_k0 (by decide))) (fun c868 => ?_)
              skip
              refine pm_R_lo pm_M178 (pc_q := 187) (pm_q178_1 (Nat.le_of_ble_eq_true rfl)) rfl rfl ?_
              have B869 : sf_B 0 600 (m845 18) := T864.2.2.1 18
              refine rf_R_get pm_M178 T864 (pc_q := 190) (v := .int (m845 18)) (pm_q178_1 (Nat.le_of_ble_eq_true rfl)) rfl rfl rfl ?_
              refine pm_R_br pm_M178 (pc_q := 194) (pm_q178_1 (Nat.le_of_ble_eq_true rfl)) rfl ?_
              obtain ⟨f870, e871, b872⟩ := T864.2.2.2.1 45 (by decide) (by decide)
              refine rf_R_ist2 pm_M178 T864 (pc_q := 195) (pm_q178_1 (Nat.le_of_ble_eq_true rfl)) e871 (by decide) (by decide) rfl ⟨_, rfl, sf_upd b872 (sf_weak B869 (by decide) (by decide)) _⟩ rfl (fun h873 T874 F875 e876 => ?_)
              have F877 := F867.trans F875 (by decide)
              refine pm_R_lo pm_M178 (pc_q := 196) (pm_q178_1 (Nat.le_of_ble_eq_true rfl)) rfl rfl ?_
              refine rf_R_get pm_M178 T874 (pc_q := 199) (v := .ref 44) (pm_q178_1 (Nat.le_of_ble_eq_true rfl)) rfl rfl rfl ?_
              refine pm_R_op pm_M178 (pc_q := 200) (st_q := [.int 0, .ref 44]) (pm_q178_1 (Nat.le_of_ble_eq_true rfl)) rfl rfl ?_
              have e878 := (F875.cell (by decide) e866)
              refine pm_R_iald pm_M178 (pc_q := 201) (v := (m845 17)) (pm_q178_1 (Nat.le_of_ble_eq_true rfl)) e878 (Nat.lt_of_lt_of_le (by decide) T874.1) rfl sf_upd_eq rfl ?_
              refine pm_R_ifc pm_M178 (t := 208) (pc_q := 204) (pm_q178_1 (Nat.le_of_ble_eq_true rfl)) rfl rfl (fun c881 => ?_) (fun c881 => absurd (Classical.not_not.mp c881) (sf_neq1 B851 sf_k0 (by decide)))
              skip
              refine pm_R_op pm_M178 (pc_q := 209) (st_q := [.int 0]) (pm_q178_1 (Nat.le_of_ble_eq_true rfl)) rfl rfl ?_
              exact pm_R_ret pm_M178 (r := some (.int 0)) (pm_q178_1 (Nat.le_of_ble_eq_true rfl)) rfl (K0 m845 w846 h873 T874 F877 W858)
      · have B882 : sf_B 0 151 x2_608 := sf_ltL (Int32.not_le.mp c615) Bx2_608 sf_k152
        refine pm_R_lo pm_M178 (pc_q := 10) rfl rfl rfl ?_
        refine rf_R_get pm_M178 T_608 (pc_q := 13) (v := .ref 51) rfl rfl rfl rfl ?_
        refine pm_R_lo pm_M178 (pc_q := 14) rfl rfl rfl ?_
        refine pm_R_op pm_M178 (pc_q := 15) (st_q := [.int 0, .int x2_608, .ref 51]) rfl rfl rfl ?_
        refine rf_R_ist pm_M178 T_608 (pc_q := 16) rfl e613 (by decide) (by decide) (sf_in B882 (by decide) (by decide)) ⟨_, rfl⟩ rfl (fun h883 T884 F885 e886 => ?_)
        have F887 := F_608.trans F885 (by decide)
        refine sf_R_iinc pm_M178 (pc_q := 19) (ls_q := fun z => [.ref 41, .int 1, .int z, pm_no]) rfl B882 rfl (by decide) (by decide) (by decide) (fun _ => rfl) rfl (fun z888 e889 B890 => ?_)
        show pm_R _ 178 19 [.ref 41, .int 1, .int z888, pm_no] [] _ _
        refine pm_R_br pm_M178 (pc_q := 2) rfl rfl ?_
        exact ih_608 _ (sf_up hN_608 e889 B882 (by decide) (by decide)) h883 m_608 w_608 z888 T884 F887 W_608 (sf_weak B890 (by decide) (by decide)) ⟨(upd f612 (Int32.toNatClampNeg x2_608) 0), e886, rf_zero zz614 e889 B882 (by decide)⟩ rfl
  obtain ⟨f891, e892⟩ := T.2.2.2.1 51 (by decide) (by decide)
  exact L_608 _ h m w 0 T (rf_G.refl [41, 44, 45, 51, 52] h) (rf_W.refl _ _) (sf_weak sf_k0 (by decide) (by decide)) ⟨f891, e892, fun j hj => absurd hj (by show ¬ (j : Int) < 0; omega)⟩ rfl

set_option maxRecDepth 100000 in
set_option maxHeartbeats 4000000 in
/-- SilentTableModel.readText -/
theorem rf_c178_2 {d : Nat} {m : Nat → Int32} {w : Int64} {h : pm_H} {Q : Option Value → pm_H → Prop}  (T : rf_T m w h)  (K0 : ∀ (m_q : Nat → Int32) (w_q : Int64) (h_q : pm_H), rf_T m_q w_q h_q → rf_G [41, 44, 45, 51, 52] h h_q → rf_W [10, 12, 13, 14, 16, 17, 18, 21, 22] m m_q → Q (some (.int 0)) h_q) (K1 : ∀ (m_q : Nat → Int32) (w_q : Int64) (h_q : pm_H), rf_T m_q w_q h_q → rf_G [41, 44, 45, 51, 52] h h_q → rf_W [10, 12, 13, 14, 16, 17, 18, 21, 22] m m_q → (∃ f : Nat → Int32, h_q.2.2 51 = .inl (0, 152, .inl f) ∧ rf_bd 2 f) → Q (some (.int 1)) h_q) : pm_R (d + 6) 178 0 [.ref 41, .int 2, pm_no, pm_no] [] h Q := by
  refine pm_R_op pm_M178 (pc_q := 1) (st_q := [.int 0]) rfl rfl rfl ?_
  refine pm_R_lo pm_M178 (pc_q := 2) (ls_q := [.ref 41, .int 2, .int 0, pm_no]) (st_q := []) rfl rfl rfl ?_
  have L_608 : ∀ (N : Nat) (h_608 : pm_H) (m_608 : Nat → Int32) (w_608 : Int64) (x2_608 : Int32), rf_T m_608 w_608 h_608 → rf_G [41, 44, 45, 51, 52] h h_608 → rf_W [] m m_608 → sf_B 0 152 x2_608 → (∃ f : Nat → Int32, h_608.2.2 51 = .inl (0, 152, .inl f) ∧ ∀ j : Nat, (j : Int) < x2_608.toInt → f j = 0) → (152 - x2_608.toInt).toNat = N → pm_R (d + 6) 178 2 [.ref 41, .int 2, .int x2_608, pm_no] [] h_608 Q := by
    intro N
    induction N using Nat.strongRecOn with
    | ind N ih_608 =>
      intro h_608 m_608 w_608 x2_608 T_608 F_608 W_608 Bx2_608 X_608 hN_608
      have W611 : rf_W [10, 12, 13, 14, 16, 17, 18, 21, 22] m m_608 := (rf_W.refl [10, 12, 13, 14, 16, 17, 18, 21, 22] m).trans W_608 (by decide)
      obtain ⟨f612, e613, zz614⟩ := X_608
      refine pm_R_lo pm_M178 (pc_q := 3) rfl rfl rfl ?_
      refine pm_R_op pm_M178 (pc_q := 6) (st_q := [.int 152, .int x2_608]) rfl rfl rfl ?_
      refine pm_R_icmp pm_M178 (t := 22) (pc_q := 9) rfl rfl rfl (fun c615 => ?_) (fun c615 => ?_)
      · have B616 : sf_B 152 152 x2_608 := sf_leR c615 sf_k152 Bx2_608
        refine pm_R_lo pm_M178 (pc_q := 23) rfl rfl rfl ?_
        refine rf_R_get pm_M178 T_608 (pc_q := 26) (v := .ref 51) rfl rfl rfl rfl ?_
        refine pm_R_op pm_M178 (pc_q := 27) (st_q := [.int 0, .ref 51]) rfl rfl rfl ?_
        refine pm_R_lo pm_M178 (pc_q := 28) rfl rfl rfl ?_
        refine pm_R_op pm_M178 (pc_q := 29) (st_q := [.int 2, .int 2, .int 0, .ref 51]) rfl rfl rfl ?_
        refine pm_R_br pm_M178 (pc_q := 32) (st_q := [.int 0, .ref 51]) rfl rfl ?_
        refine pm_R_op pm_M178 (pc_q := 33) (st_q := [.int 4, .int 0, .ref 51]) rfl rfl rfl ?_
        refine pm_R_br pm_M178 (pc_q := 37) rfl rfl ?_
        refine rf_R_ist pm_M178 T_608 (pc_q := 38) rfl e613 (by decide) (by decide) rfl ⟨_, rfl⟩ rfl (fun h617 T618 F619 e620 => ?_)
        have F621 := F_608.trans F619 (by decide)
        have ct622 : rf_ct 2 (upd f612 (Int32.toNatClampNeg 0) 4) ∧ rf_bd 2 (upd f612 (Int32.toNatClampNeg 0) 4) := rf_all0_2 (fun j hj => zz614 j (by have := Int32.le_iff_toInt_le.mp c615; have e0 : (152 : Int32).toInt = 152 := rfl; omega))
        refine pm_R_lo pm_M178 (pc_q := 39) rfl rfl rfl ?_
        refine pm_R_op pm_M178 (pc_q := 40) (st_q := [.int (-1), .ref 41]) rfl rfl rfl ?_
        refine rf_R_put pm_M178 T618 (pc_q := 43) rfl rfl rfl (by decide) rfl rfl (sf_weak sf_kn1 (by decide) (by decide)) rfl rfl (fun h624 m627 em628 T625 F626 => ?_)
        have F629 := F621.trans F626 (by decide)
        have B630 : sf_B (-1) (-1) (m627 21) := by rw [em628]; exact sf_kn1
        have W632 : rf_W [10, 12, 13, 14, 16, 17, 18, 21, 22] m m627 := by rw [em628]; exact W611.put (by decide)
        have B633 : sf_B 0 600 (m627 10) := T625.2.2.1 10
        have B634 : sf_B 0 4 (m627 17) := T625.2.2.1 17
        have B635 : sf_B 0 1 (m627 22) := T625.2.2.1 22
        refine pm_R_lo pm_M178 (pc_q := 44) rfl rfl rfl ?_
        refine pm_R_op pm_M178 (pc_q := 45) (st_q := [.int 0, .ref 41]) rfl rfl rfl ?_
        refine rf_R_put pm_M178 T625 (pc_q := 48) rfl rfl rfl (by decide) rfl rfl (sf_weak sf_k0 (by decide) (by decide)) rfl rfl (fun h636 m639 em640 T637 F638 => ?_)
        have F641 := F629.trans F638 (by decide)
        have B642 : sf_B (-1) (-1) (m639 21) := by rw [em640]; exact B630
        have B643 : sf_B 0 4 (m639 17) := by rw [em640]; exact B634
        have ek644 : (m639 17).toInt = ((m627 17)).toInt := by rw [em640]; rfl
        have B645 : sf_B 0 1 (m639 22) := by rw [em640]; exact B635
        have ek646 : (m639 22).toInt = ((m627 22)).toInt := by rw [em640]; rfl
        have B647 : sf_B 0 0 (m639 10) := by rw [em640]; exact sf_k0
        have W649 : rf_W [10, 12, 13, 14, 16, 17, 18, 21, 22] m m639 := by rw [em640]; exact W632.put (by decide)
        refine pm_R_lo pm_M178 (pc_q := 49) rfl rfl rfl ?_
        refine pm_R_op pm_M178 (pc_q := 50) (st_q := [.int 0, .ref 41]) rfl rfl rfl ?_
        refine rf_R_put pm_M178 T637 (pc_q := 53) rfl rfl rfl (by decide) rfl rfl (sf_weak sf_k0 (by decide) (by decide)) rfl rfl (fun h650 m653 em654 T651 F652 => ?_)
        have F655 := F641.trans F652 (by decide)
        have B656 : sf_B (-1) (-1) (m653 21) := by rw [em654]; exact B642
        have B657 : sf_B 0 1 (m653 22) := by rw [em654]; exact B645
        have ek658 : (m653 22).toInt = ((m627 22)).toInt := by rw [em654]; exact ek646
        have B659 : sf_B 0 0 (m653 10) := by rw [em654]; exact B647
        have ek660 : (m653 10).toInt = ((m639 10)).toInt := by rw [em654]; rfl
        have B661 : sf_B 0 0 (m653 17) := by rw [em654]; exact sf_k0
        have W663 : rf_W [10, 12, 13, 14, 16, 17, 18, 21, 22] m m653 := by rw [em654]; exact W649.put (by decide)
        refine pm_R_lo pm_M178 (pc_q := 54) rfl rfl rfl ?_
        refine pm_R_cv pm_M178 (pc_q := 57) (a := 41) (ra := []) (rest := []) (ls_q := [.ref 41, pm_no, pm_no]) rfl rfl (Or.inl rfl) pm_M179 T651.2.1 rfl (by decide) (Nat.lt_of_lt_of_le (by decide) T651.1) rfl rfl (Nat.le_of_ble_eq_true rfl) rfl rfl ?_
        refine rf_c179 (d := d + 4) T651  (fun m666 w667 h668 T669 F670 W671 X672 X673 => ?_)
        have F674 := F655.trans F670 (by decide)
        have B675 : sf_B (-1) (-1) (m666 21) := by rw [W671 21 (by decide)]; exact B656
        have B676 : sf_B 0 1 (m666 22) := by rw [W671 22 (by decide)]; exact B657
        have ek677 : (m666 22).toInt = ((m627 22)).toInt := by rw [W671 22 (by decide)]; exact ek658
        have B678 : sf_B 0 0 (m666 17) := by rw [W671 17 (by decide)]; exact B661
        have ek679 : (m666 17).toInt = ((m653 17)).toInt := by rw [W671 17 (by decide)]
        have W680 : rf_W [10, 12, 13, 14, 16, 17, 18, 21, 22] m m666 := W663.trans W671 (by decide)
        have B681 : sf_B 0 600 (m666 10) := T669.2.2.1 10
        show pm_R _ 178 57 [.ref 41, .int 2, .int x2_608, pm_no] [] _ _
        refine pm_R_lo pm_M178 (pc_q := 58) rfl rfl rfl ?_
        refine pm_R_op pm_M178 (pc_q := 59) (st_q := [.int 1, .int 2]) rfl rfl rfl ?_
        refine pm_R_br pm_M178 (pc_q := 69) (st_q := []) rfl rfl ?_
        refine pm_R_lo pm_M178 (pc_q := 70) rfl rfl rfl ?_
        refine pm_R_lo pm_M178 (pc_q := 71) rfl rfl rfl ?_
        refine pm_R_cv pm_M178 (pc_q := 74) (a := 41) (ra := [.int 2]) (rest := []) (ls_q := [.ref 41, .int 2, pm_no, pm_no, pm_no, pm_no]) rfl rfl (Or.inl rfl) pm_M186 T669.2.1 rfl (by decide) (Nat.lt_of_lt_of_le (by decide) T669.1) rfl rfl (Nat.le_of_ble_eq_true rfl) rfl rfl ?_
        have e682 := (F670.cell (by decide) (F652.cell (by decide) (F638.cell (by decide) (F626.cell (by decide) e620))))
        refine rf_c186_2 (d := d + 0) T669 (⟨(upd f612 (Int32.toNatClampNeg 0) 4), e682, ct622.1, fun z => ct622.2⟩) (fun m685 w686 h687 T688 F689 W690 X691 => ?_) (fun m694 w695 h696 T697 F698 W699 X700 X701 => ?_)
        · have F702 := F674.trans F689 (by decide)
          have W703 : rf_W [10, 12, 13, 14, 16, 17, 18, 21, 22] m m685 := W680.trans W690 (by decide)
          have B704 : sf_B 0 600 (m685 10) := T688.2.2.1 10
          have B705 : sf_B 0 4 (m685 17) := T688.2.2.1 17
          have B706 : sf_B 0 1 (m685 22) := T688.2.2.1 22
          show pm_R _ 178 74 [.ref 41, .int 2, .int x2_608, pm_no] [.int 0] _ _
          refine pm_R_lo pm_M178 (pc_q := 75) (ls_q := [.ref 41, .int 2, .int 0, pm_no]) (st_q := []) rfl rfl rfl ?_
          refine pm_R_lo pm_M178 (pc_q := 76) rfl rfl rfl ?_
          refine pm_R_op pm_M178 (pc_q := 77) (st_q := [.int 1, .int 2]) rfl rfl rfl ?_
          refine pm_R_br pm_M178 (pc_q := 97) (st_q := []) rfl rfl ?_
          refine pm_R_lo pm_M178 (pc_q := 98) rfl rfl rfl ?_
          refine pm_R_op pm_M178 (pc_q := 99) (st_q := [.int 2, .int 2]) rfl rfl rfl ?_
          refine pm_R_br pm_M178 (pc_q := 102) (st_q := []) rfl rfl ?_
          refine pm_R_lo pm_M178 (pc_q := 103) rfl rfl rfl ?_
          have B707 : sf_B (-1) 99 (m685 21) := T688.2.2.1 21
          refine rf_R_get pm_M178 T688 (pc_q := 106) (v := .int (m685 21)) rfl rfl rfl rfl ?_
          refine pm_R_lo pm_M178 (pc_q := 107) (pm_q178_1 (Nat.le_of_ble_eq_true rfl)) rfl rfl ?_
          refine rf_R_get pm_M178 T688 (pc_q := 110) (v := .ref 51) (pm_q178_1 (Nat.le_of_ble_eq_true rfl)) rfl rfl rfl ?_
          refine pm_R_op pm_M178 (pc_q := 111) (st_q := [.int 0, .ref 51, .int (m685 21)]) (pm_q178_1 (Nat.le_of_ble_eq_true rfl)) rfl rfl ?_
          obtain ⟨f708, e709⟩ := T688.2.2.2.1 51 (by decide) (by decide)
          refine rf_R_ild pm_M178 T688 (pc_q := 112) (pm_q178_1 (Nat.le_of_ble_eq_true rfl)) e709 (by decide) rfl rfl (fun z711 ez712 => ?_)
          refine pm_R_icmp pm_M178 (t := 119) (pc_q := 115) (pm_q178_1 (Nat.le_of_ble_eq_true rfl)) rfl rfl (fun c713 => ?_) (fun c713 => ?_)
          · have B714 : sf_B 0 2147483647 z711 := sf_ltR c713 B707 (sf_any z711)
            refine pm_R_op pm_M178 (pc_q := 120) (st_q := [.int 0]) (pm_q178_1 (Nat.le_of_ble_eq_true rfl)) rfl rfl ?_
            refine pm_R_lo pm_M178 (pc_q := 121) (ls_q := [.ref 41, .int 2, .int 0, .int 0]) (st_q := []) (pm_q178_1 (Nat.le_of_ble_eq_true rfl)) rfl rfl ?_
            refine pm_R_lo pm_M178 (pc_q := 122) (pm_q178_1 (Nat.le_of_ble_eq_true rfl)) rfl rfl ?_
            refine pm_R_br pm_M178 (pc_q := 145) (st_q := []) (pm_q178_1 (Nat.le_of_ble_eq_true rfl)) rfl ?_
            refine pm_R_lo pm_M178 (pc_q := 146) (pm_q178_1 (Nat.le_of_ble_eq_true rfl)) rfl rfl ?_
            refine rf_R_get pm_M178 T688 (pc_q := 149) (v := .ref 44) (pm_q178_1 (Nat.le_of_ble_eq_true rfl)) rfl rfl rfl ?_
            refine pm_R_op pm_M178 (pc_q := 150) (st_q := [.int 0, .ref 44]) (pm_q178_1 (Nat.le_of_ble_eq_true rfl)) rfl rfl ?_
            refine pm_R_lo pm_M178 (pc_q := 151) (pm_q178_1 (Nat.le_of_ble_eq_true rfl)) rfl rfl ?_
            refine pm_R_br pm_M178 (pc_q := 161) (st_q := [.int 0, .ref 44]) (pm_q178_1 (Nat.le_of_ble_eq_true rfl)) rfl ?_
            refine pm_R_op pm_M178 (pc_q := 162) (st_q := [.int 1, .int 0, .ref 44]) (pm_q178_1 (Nat.le_of_ble_eq_true rfl)) rfl rfl ?_
            obtain ⟨f715, e716, b717⟩ := T688.2.2.2.1 44 (by decide) (by decide)
            refine rf_R_ist2 pm_M178 T688 (pc_q := 163) (pm_q178_1 (Nat.le_of_ble_eq_true rfl)) e716 (by decide) (by decide) rfl ⟨_, rfl, sf_upd b717 (sf_weak sf_k1 (by decide) (by decide)) _⟩ rfl (fun h718 T719 F720 e721 => ?_)
            have F722 := F702.trans F720 (by decide)
            refine pm_R_lo pm_M178 (pc_q := 164) (pm_q178_1 (Nat.le_of_ble_eq_true rfl)) rfl rfl ?_
            refine rf_R_get pm_M178 T719 (pc_q := 167) (v := .ref 45) (pm_q178_1 (Nat.le_of_ble_eq_true rfl)) rfl rfl rfl ?_
            refine pm_R_op pm_M178 (pc_q := 168) (st_q := [.int 0, .ref 45]) (pm_q178_1 (Nat.le_of_ble_eq_true rfl)) rfl rfl ?_
            refine pm_R_lo pm_M178 (pc_q := 169) (pm_q178_1 (Nat.le_of_ble_eq_true rfl)) rfl rfl ?_
            refine pm_R_br pm_M178 (pc_q := 172) (st_q := [.int 0, .ref 45]) (pm_q178_1 (Nat.le_of_ble_eq_true rfl)) rfl ?_
            refine pm_R_lo pm_M178 (pc_q := 173) (pm_q178_1 (Nat.le_of_ble_eq_true rfl)) rfl rfl ?_
            have B723 : sf_B 0 600 (m685 16) := T719.2.2.1 16
            refine rf_R_get pm_M178 T719 (pc_q := 176) (v := .int (m685 16)) (pm_q178_1 (Nat.le_of_ble_eq_true rfl)) rfl rfl rfl ?_
            refine pm_R_br pm_M178 (pc_q := 194) (pm_q178_1 (Nat.le_of_ble_eq_true rfl)) rfl ?_
            obtain ⟨f724, e725, b726⟩ := T719.2.2.2.1 45 (by decide) (by decide)
            refine rf_R_ist2 pm_M178 T719 (pc_q := 195) (pm_q178_1 (Nat.le_of_ble_eq_true rfl)) e725 (by decide) (by decide) rfl ⟨_, rfl, sf_upd b726 (sf_weak B723 (by decide) (by decide)) _⟩ rfl (fun h727 T728 F729 e730 => ?_)
            have F731 := F722.trans F729 (by decide)
            refine pm_R_lo pm_M178 (pc_q := 196) (pm_q178_1 (Nat.le_of_ble_eq_true rfl)) rfl rfl ?_
            refine rf_R_get pm_M178 T728 (pc_q := 199) (v := .ref 44) (pm_q178_1 (Nat.le_of_ble_eq_true rfl)) rfl rfl rfl ?_
            refine pm_R_op pm_M178 (pc_q := 200) (st_q := [.int 0, .ref 44]) (pm_q178_1 (Nat.le_of_ble_eq_true rfl)) rfl rfl ?_
            have e732 := (F729.cell (by decide) e721)
            refine pm_R_iald pm_M178 (pc_q := 201) (v := 1) (pm_q178_1 (Nat.le_of_ble_eq_true rfl)) e732 (Nat.lt_of_lt_of_le (by decide) T728.1) rfl sf_upd_eq rfl ?_
            refine pm_R_br pm_M178 (pc_q := 208) (st_q := []) (pm_q178_1 (Nat.le_of_ble_eq_true rfl)) rfl ?_
            refine pm_R_op pm_M178 (pc_q := 209) (st_q := [.int 0]) (pm_q178_1 (Nat.le_of_ble_eq_true rfl)) rfl rfl ?_
            exact pm_R_ret pm_M178 (r := some (.int 0)) (pm_q178_1 (Nat.le_of_ble_eq_true rfl)) rfl (K0 m685 w686 h727 T728 F731 W703)
          · have B735 : sf_B (-2147483648) 99 z711 := sf_leL (Int32.not_lt.mp c713) (sf_any z711) B707
            refine pm_R_op pm_M178 (pc_q := 116) (st_q := [.int 1]) (pm_q178_1 (Nat.le_of_ble_eq_true rfl)) rfl rfl ?_
            refine pm_R_br pm_M178 (pc_q := 120) (pm_q178_1 (Nat.le_of_ble_eq_true rfl)) rfl ?_
            refine pm_R_lo pm_M178 (pc_q := 121) (ls_q := [.ref 41, .int 2, .int 0, .int 1]) (st_q := []) (pm_q178_1 (Nat.le_of_ble_eq_true rfl)) rfl rfl ?_
            refine pm_R_lo pm_M178 (pc_q := 122) (pm_q178_1 (Nat.le_of_ble_eq_true rfl)) rfl rfl ?_
            refine pm_R_br pm_M178 (pc_q := 145) (st_q := []) (pm_q178_1 (Nat.le_of_ble_eq_true rfl)) rfl ?_
            refine pm_R_lo pm_M178 (pc_q := 146) (pm_q178_1 (Nat.le_of_ble_eq_true rfl)) rfl rfl ?_
            refine rf_R_get pm_M178 T688 (pc_q := 149) (v := .ref 44) (pm_q178_1 (Nat.le_of_ble_eq_true rfl)) rfl rfl rfl ?_
            refine pm_R_op pm_M178 (pc_q := 150) (st_q := [.int 0, .ref 44]) (pm_q178_1 (Nat.le_of_ble_eq_true rfl)) rfl rfl ?_
            refine pm_R_lo pm_M178 (pc_q := 151) (pm_q178_1 (Nat.le_of_ble_eq_true rfl)) rfl rfl ?_
            refine pm_R_br pm_M178 (pc_q := 161) (st_q := [.int 0, .ref 44]) (pm_q178_1 (Nat.le_of_ble_eq_true rfl)) rfl ?_
            refine pm_R_op pm_M178 (pc_q := 162) (st_q := [.int 1, .int 0, .ref 44]) (pm_q178_1 (Nat.le_of_ble_eq_true rfl)) rfl rfl ?_
            obtain ⟨f736, e737, b738⟩ := T688.2.2.2.1 44 (by decide) (by decide)
            refine rf_R_ist2 pm_M178 T688 (pc_q := 163) (pm_q178_1 (Nat.le_of_ble_eq_true rfl)) e737 (by decide) (by decide) rfl ⟨_, rfl, sf_upd b738 (sf_weak sf_k1 (by decide) (by decide)) _⟩ rfl (fun h739 T740 F741 e742 => ?_)
            have F743 := F702.trans F741 (by decide)
            refine pm_R_lo pm_M178 (pc_q := 164) (pm_q178_1 (Nat.le_of_ble_eq_true rfl)) rfl rfl ?_
            refine rf_R_get pm_M178 T740 (pc_q := 167) (v := .ref 45) (pm_q178_1 (Nat.le_of_ble_eq_true rfl)) rfl rfl rfl ?_
            refine pm_R_op pm_M178 (pc_q := 168) (st_q := [.int 0, .ref 45]) (pm_q178_1 (Nat.le_of_ble_eq_true rfl)) rfl rfl ?_
            refine pm_R_lo pm_M178 (pc_q := 169) (pm_q178_1 (Nat.le_of_ble_eq_true rfl)) rfl rfl ?_
            refine pm_R_br pm_M178 (pc_q := 172) (st_q := [.int 0, .ref 45]) (pm_q178_1 (Nat.le_of_ble_eq_true rfl)) rfl ?_
            refine pm_R_lo pm_M178 (pc_q := 173) (pm_q178_1 (Nat.le_of_ble_eq_true rfl)) rfl rfl ?_
            have B744 : sf_B 0 600 (m685 16) := T740.2.2.1 16
            refine rf_R_get pm_M178 T740 (pc_q := 176) (v := .int (m685 16)) (pm_q178_1 (Nat.le_of_ble_eq_true rfl)) rfl rfl rfl ?_
            refine pm_R_br pm_M178 (pc_q := 194) (pm_q178_1 (Nat.le_of_ble_eq_true rfl)) rfl ?_
            obtain ⟨f745, e746, b747⟩ := T740.2.2.2.1 45 (by decide) (by decide)
            refine rf_R_ist2 pm_M178 T740 (pc_q := 195) (pm_q178_1 (Nat.le_of_ble_eq_true rfl)) e746 (by decide) (by decide) rfl ⟨_, rfl, sf_upd b747 (sf_weak B744 (by decide) (by decide)) _⟩ rfl (fun h748 T749 F750 e751 => ?_)
            have F752 := F743.trans F750 (by decide)
            refine pm_R_lo pm_M178 (pc_q := 196) (pm_q178_1 (Nat.le_of_ble_eq_true rfl)) rfl rfl ?_
            refine rf_R_get pm_M178 T749 (pc_q := 199) (v := .ref 44) (pm_q178_1 (Nat.le_of_ble_eq_true rfl)) rfl rfl rfl ?_
            refine pm_R_op pm_M178 (pc_q := 200) (st_q := [.int 0, .ref 44]) (pm_q178_1 (Nat.le_of_ble_eq_true rfl)) rfl rfl ?_
            have e753 := (F750.cell (by decide) e742)
            refine pm_R_iald pm_M178 (pc_q := 201) (v := 1) (pm_q178_1 (Nat.le_of_ble_eq_true rfl)) e753 (Nat.lt_of_lt_of_le (by decide) T749.1) rfl sf_upd_eq rfl ?_
            refine pm_R_br pm_M178 (pc_q := 208) (st_q := []) (pm_q178_1 (Nat.le_of_ble_eq_true rfl)) rfl ?_
            refine pm_R_op pm_M178 (pc_q := 209) (st_q := [.int 0]) (pm_q178_1 (Nat.le_of_ble_eq_true rfl)) rfl rfl ?_
            exact pm_R_ret pm_M178 (r := some (.int 0)) (pm_q178_1 (Nat.le_of_ble_eq_true rfl)) rfl (K0 m685 w686 h748 T749 F752 W703)
        · have F756 := F674.trans F698 (by decide)
          have W757 : rf_W [10, 12, 13, 14, 16, 17, 18, 21, 22] m m694 := W680.trans W699 (by decide)
          have B758 : sf_B 0 600 (m694 10) := T697.2.2.1 10
          have B759 : sf_B 0 4 (m694 17) := T697.2.2.1 17
          have B760 : sf_B 0 1 (m694 22) := T697.2.2.1 22
          show pm_R _ 178 74 [.ref 41, .int 2, .int x2_608, pm_no] [.int 1] _ _
          obtain ⟨f761, e762, ct763, bd764⟩ := X700
          refine pm_R_lo pm_M178 (pc_q := 75) (ls_q := [.ref 41, .int 2, .int 1, pm_no]) (st_q := []) rfl rfl rfl ?_
          refine pm_R_lo pm_M178 (pc_q := 76) rfl rfl rfl ?_
          refine pm_R_op pm_M178 (pc_q := 77) (st_q := [.int 1, .int 2]) rfl rfl rfl ?_
          refine pm_R_br pm_M178 (pc_q := 97) (st_q := []) rfl rfl ?_
          refine pm_R_lo pm_M178 (pc_q := 98) rfl rfl rfl ?_
          refine pm_R_op pm_M178 (pc_q := 99) (st_q := [.int 2, .int 2]) rfl rfl rfl ?_
          refine pm_R_br pm_M178 (pc_q := 102) (st_q := []) rfl rfl ?_
          refine pm_R_lo pm_M178 (pc_q := 103) rfl rfl rfl ?_
          have B765 : sf_B (-1) 99 (m694 21) := T697.2.2.1 21
          refine rf_R_get pm_M178 T697 (pc_q := 106) (v := .int (m694 21)) rfl rfl rfl rfl ?_
          refine pm_R_lo pm_M178 (pc_q := 107) (pm_q178_1 (Nat.le_of_ble_eq_true rfl)) rfl rfl ?_
          refine rf_R_get pm_M178 T697 (pc_q := 110) (v := .ref 51) (pm_q178_1 (Nat.le_of_ble_eq_true rfl)) rfl rfl rfl ?_
          refine pm_R_op pm_M178 (pc_q := 111) (st_q := [.int 0, .ref 51, .int (m694 21)]) (pm_q178_1 (Nat.le_of_ble_eq_true rfl)) rfl rfl ?_
          refine rf_R_ild pm_M178 T697 (pc_q := 112) (pm_q178_1 (Nat.le_of_ble_eq_true rfl)) e762 (by decide) rfl rfl (fun z766 ez767 => ?_)
          refine pm_R_icmp pm_M178 (t := 119) (pc_q := 115) (pm_q178_1 (Nat.le_of_ble_eq_true rfl)) rfl rfl (fun c768 => ?_) (fun c768 => ?_)
          · have B769 : sf_B 0 2147483647 z766 := sf_ltR c768 B765 (sf_any z766)
            refine pm_R_op pm_M178 (pc_q := 120) (st_q := [.int 0]) (pm_q178_1 (Nat.le_of_ble_eq_true rfl)) rfl rfl ?_
            refine pm_R_lo pm_M178 (pc_q := 121) (ls_q := [.ref 41, .int 2, .int 1, .int 0]) (st_q := []) (pm_q178_1 (Nat.le_of_ble_eq_true rfl)) rfl rfl ?_
            refine pm_R_lo pm_M178 (pc_q := 122) (pm_q178_1 (Nat.le_of_ble_eq_true rfl)) rfl rfl ?_
            refine pm_R_br pm_M178 (pc_q := 125) (st_q := []) (pm_q178_1 (Nat.le_of_ble_eq_true rfl)) rfl ?_
            refine pm_R_lo pm_M178 (pc_q := 126) (pm_q178_1 (Nat.le_of_ble_eq_true rfl)) rfl rfl ?_
            refine rf_R_get pm_M178 T697 (pc_q := 129) (v := .int (m694 17)) (pm_q178_1 (Nat.le_of_ble_eq_true rfl)) rfl rfl rfl ?_
            refine pm_R_ifc pm_M178 (t := 145) (pc_q := 132) (pm_q178_1 (Nat.le_of_ble_eq_true rfl)) rfl rfl (fun c770 => ?_) (fun c770 => ?_)
            · have B771 : sf_B 1 4 (m694 17) := sf_neL0 c770 sf_k0 B759
              refine pm_R_lo pm_M178 (pc_q := 146) (pm_q178_1 (Nat.le_of_ble_eq_true rfl)) rfl rfl ?_
              refine rf_R_get pm_M178 T697 (pc_q := 149) (v := .ref 44) (pm_q178_1 (Nat.le_of_ble_eq_true rfl)) rfl rfl rfl ?_
              refine pm_R_op pm_M178 (pc_q := 150) (st_q := [.int 0, .ref 44]) (pm_q178_1 (Nat.le_of_ble_eq_true rfl)) rfl rfl ?_
              refine pm_R_lo pm_M178 (pc_q := 151) (pm_q178_1 (Nat.le_of_ble_eq_true rfl)) rfl rfl ?_
              refine pm_R_br pm_M178 (pc_q := 154) (st_q := [.int 0, .ref 44]) (pm_q178_1 (Nat.le_of_ble_eq_true rfl)) rfl ?_
              refine pm_R_lo pm_M178 (pc_q := 155) (pm_q178_1 (Nat.le_of_ble_eq_true rfl)) rfl rfl ?_
              refine rf_R_get pm_M178 T697 (pc_q := 158) (v := .int (m694 17)) (pm_q178_1 (Nat.le_of_ble_eq_true rfl)) rfl rfl rfl ?_
              refine pm_R_br pm_M178 (pc_q := 162) (pm_q178_1 (Nat.le_of_ble_eq_true rfl)) rfl ?_
              obtain ⟨f772, e773, b774⟩ := T697.2.2.2.1 44 (by decide) (by decide)
              refine rf_R_ist2 pm_M178 T697 (pc_q := 163) (pm_q178_1 (Nat.le_of_ble_eq_true rfl)) e773 (by decide) (by decide) rfl ⟨_, rfl, sf_upd b774 (sf_weak B771 (by decide) (by decide)) _⟩ rfl (fun h775 T776 F777 e778 => ?_)
              have F779 := F756.trans F777 (by decide)
              refine pm_R_lo pm_M178 (pc_q := 164) (pm_q178_1 (Nat.le_of_ble_eq_true rfl)) rfl rfl ?_
              refine rf_R_get pm_M178 T776 (pc_q := 167) (v := .ref 45) (pm_q178_1 (Nat.le_of_ble_eq_true rfl)) rfl rfl rfl ?_
              refine pm_R_op pm_M178 (pc_q := 168) (st_q := [.int 0, .ref 45]) (pm_q178_1 (Nat.le_of_ble_eq_true rfl)) rfl rfl ?_
              refine pm_R_lo pm_M178 (pc_q := 169) (pm_q178_1 (Nat.le_of_ble_eq_true rfl)) rfl rfl ?_
              refine pm_R_br pm_M178 (pc_q := 179) (st_q := [.int 0, .ref 45]) (pm_q178_1 (Nat.le_of_ble_eq_true rfl)) rfl ?_
              refine pm_R_lo pm_M178 (pc_q := 180) (pm_q178_1 (Nat.le_of_ble_eq_true rfl)) rfl rfl ?_
              refine rf_R_get pm_M178 T776 (pc_q := 183) (v := .int (m694 17)) (pm_q178_1 (Nat.le_of_ble_eq_true rfl)) rfl rfl rfl ?_
              refine pm_R_ifc pm_M178 (t := 193) (pc_q := 186) (pm_q178_1 (Nat.le_of_ble_eq_true rfl)) rfl rfl (fun c780 => absurd c780 (sf_nle B771 sf_k0 (by decide))) (fun c780 => ?_)
              skip
              refine pm_R_lo pm_M178 (pc_q := 187) (pm_q178_1 (Nat.le_of_ble_eq_true rfl)) rfl rfl ?_
              have B781 : sf_B 0 600 (m694 18) := T776.2.2.1 18
              refine rf_R_get pm_M178 T776 (pc_q := 190) (v := .int (m694 18)) (pm_q178_1 (Nat.le_of_ble_eq_true rfl)) rfl rfl rfl ?_
              refine pm_R_br pm_M178 (pc_q := 194) (pm_q178_1 (Nat.le_of_ble_eq_true rfl)) rfl ?_
              obtain ⟨f782, e783, b784⟩ := T776.2.2.2.1 45 (by decide) (by decide)
              refine rf_R_ist2 pm_M178 T776 (pc_q := 195) (pm_q178_1 (Nat.le_of_ble_eq_true rfl)) e783 (by decide) (by decide) rfl ⟨_, rfl, sf_upd b784 (sf_weak B781 (by decide) (by decide)) _⟩ rfl (fun h785 T786 F787 e788 => ?_)
              have F789 := F779.trans F787 (by decide)
              refine pm_R_lo pm_M178 (pc_q := 196) (pm_q178_1 (Nat.le_of_ble_eq_true rfl)) rfl rfl ?_
              refine rf_R_get pm_M178 T786 (pc_q := 199) (v := .ref 44) (pm_q178_1 (Nat.le_of_ble_eq_true rfl)) rfl rfl rfl ?_
              refine pm_R_op pm_M178 (pc_q := 200) (st_q := [.int 0, .ref 44]) (pm_q178_1 (Nat.le_of_ble_eq_true rfl)) rfl rfl ?_
              have e790 := (F787.cell (by decide) e778)
              refine pm_R_iald pm_M178 (pc_q := 201) (v := (m694 17)) (pm_q178_1 (Nat.le_of_ble_eq_true rfl)) e790 (Nat.lt_of_lt_of_le (by decide) T786.1) rfl sf_upd_eq rfl ?_
              refine pm_R_ifc pm_M178 (t := 208) (pc_q := 204) (pm_q178_1 (Nat.le_of_ble_eq_true rfl)) rfl rfl (fun c793 => ?_) (fun c793 => absurd (Classical.not_not.mp c793) (sf_neq1 B771 sf_k0 (by decide)))
              skip
              refine pm_R_op pm_M178 (pc_q := 209) (st_q := [.int 0]) (pm_q178_1 (Nat.le_of_ble_eq_true rfl)) rfl rfl ?_
              exact pm_R_ret pm_M178 (r := some (.int 0)) (pm_q178_1 (Nat.le_of_ble_eq_true rfl)) rfl (K0 m694 w695 h785 T786 F789 W757)
            · have B794 : sf_B 0 0 (m694 17) := sf_eqL (Classical.not_not.mp c770) sf_k0
              refine pm_R_lo pm_M178 (pc_q := 133) (pm_q178_1 (Nat.le_of_ble_eq_true rfl)) rfl rfl ?_
              refine pm_R_br pm_M178 (pc_q := 145) (st_q := []) (pm_q178_1 (Nat.le_of_ble_eq_true rfl)) rfl ?_
              refine pm_R_lo pm_M178 (pc_q := 146) (pm_q178_1 (Nat.le_of_ble_eq_true rfl)) rfl rfl ?_
              refine rf_R_get pm_M178 T697 (pc_q := 149) (v := .ref 44) (pm_q178_1 (Nat.le_of_ble_eq_true rfl)) rfl rfl rfl ?_
              refine pm_R_op pm_M178 (pc_q := 150) (st_q := [.int 0, .ref 44]) (pm_q178_1 (Nat.le_of_ble_eq_true rfl)) rfl rfl ?_
              refine pm_R_lo pm_M178 (pc_q := 151) (pm_q178_1 (Nat.le_of_ble_eq_true rfl)) rfl rfl ?_
              refine pm_R_br pm_M178 (pc_q := 154) (st_q := [.int 0, .ref 44]) (pm_q178_1 (Nat.le_of_ble_eq_true rfl)) rfl ?_
              refine pm_R_lo pm_M178 (pc_q := 155) (pm_q178_1 (Nat.le_of_ble_eq_true rfl)) rfl rfl ?_
              refine rf_R_get pm_M178 T697 (pc_q := 158) (v := .int (m694 17)) (pm_q178_1 (Nat.le_of_ble_eq_true rfl)) rfl rfl rfl ?_
              refine pm_R_br pm_M178 (pc_q := 162) (pm_q178_1 (Nat.le_of_ble_eq_true rfl)) rfl ?_
              obtain ⟨f795, e796, b797⟩ := T697.2.2.2.1 44 (by decide) (by decide)
              refine rf_R_ist2 pm_M178 T697 (pc_q := 163) (pm_q178_1 (Nat.le_of_ble_eq_true rfl)) e796 (by decide) (by decide) rfl ⟨_, rfl, sf_upd b797 (sf_weak B794 (by decide) (by decide)) _⟩ rfl (fun h798 T799 F800 e801 => ?_)
              have F802 := F756.trans F800 (by decide)
              refine pm_R_lo pm_M178 (pc_q := 164) (pm_q178_1 (Nat.le_of_ble_eq_true rfl)) rfl rfl ?_
              refine rf_R_get pm_M178 T799 (pc_q := 167) (v := .ref 45) (pm_q178_1 (Nat.le_of_ble_eq_true rfl)) rfl rfl rfl ?_
              refine pm_R_op pm_M178 (pc_q := 168) (st_q := [.int 0, .ref 45]) (pm_q178_1 (Nat.le_of_ble_eq_true rfl)) rfl rfl ?_
              refine pm_R_lo pm_M178 (pc_q := 169) (pm_q178_1 (Nat.le_of_ble_eq_true rfl)) rfl rfl ?_
              refine pm_R_br pm_M178 (pc_q := 179) (st_q := [.int 0, .ref 45]) (pm_q178_1 (Nat.le_of_ble_eq_true rfl)) rfl ?_
              refine pm_R_lo pm_M178 (pc_q := 180) (pm_q178_1 (Nat.le_of_ble_eq_true rfl)) rfl rfl ?_
              refine rf_R_get pm_M178 T799 (pc_q := 183) (v := .int (m694 17)) (pm_q178_1 (Nat.le_of_ble_eq_true rfl)) rfl rfl rfl ?_
              refine pm_R_ifc pm_M178 (t := 193) (pc_q := 186) (pm_q178_1 (Nat.le_of_ble_eq_true rfl)) rfl rfl (fun c803 => ?_) (fun c803 => absurd (Int32.not_le.mp c803) (sf_nlt sf_k0 B794 (by decide)))
              skip
              refine pm_R_op pm_M178 (pc_q := 194) (st_q := [.int (-1), .int 0, .ref 45]) (pm_q178_1 (Nat.le_of_ble_eq_true rfl)) rfl rfl ?_
              obtain ⟨f804, e805, b806⟩ := T799.2.2.2.1 45 (by decide) (by decide)
              refine rf_R_ist2 pm_M178 T799 (pc_q := 195) (pm_q178_1 (Nat.le_of_ble_eq_true rfl)) e805 (by decide) (by decide) rfl ⟨_, rfl, sf_upd b806 (sf_weak sf_kn1 (by decide) (by decide)) _⟩ rfl (fun h807 T808 F809 e810 => ?_)
              have F811 := F802.trans F809 (by decide)
              refine pm_R_lo pm_M178 (pc_q := 196) (pm_q178_1 (Nat.le_of_ble_eq_true rfl)) rfl rfl ?_
              refine rf_R_get pm_M178 T808 (pc_q := 199) (v := .ref 44) (pm_q178_1 (Nat.le_of_ble_eq_true rfl)) rfl rfl rfl ?_
              refine pm_R_op pm_M178 (pc_q := 200) (st_q := [.int 0, .ref 44]) (pm_q178_1 (Nat.le_of_ble_eq_true rfl)) rfl rfl ?_
              have e812 := (F809.cell (by decide) e801)
              refine pm_R_iald pm_M178 (pc_q := 201) (v := (m694 17)) (pm_q178_1 (Nat.le_of_ble_eq_true rfl)) e812 (Nat.lt_of_lt_of_le (by decide) T808.1) rfl sf_upd_eq rfl ?_
              refine pm_R_ifc pm_M178 (t := 208) (pc_q := 204) (pm_q178_1 (Nat.le_of_ble_eq_true rfl)) rfl rfl (fun c815 => absurd (sf_pt2 B794 sf_k0) c815) (fun c815 => ?_)
              refine pm_R_op pm_M178 (pc_q := 205) (st_q := [.int 1]) (pm_q178_1 (Nat.le_of_ble_eq_true rfl)) rfl rfl ?_
              refine pm_R_br pm_M178 (pc_q := 209) (pm_q178_1 (Nat.le_of_ble_eq_true rfl)) rfl ?_
              have e816 := (F809.cell (by decide) (F800.cell (by decide) e762))
              exact pm_R_ret pm_M178 (r := some (.int 1)) (pm_q178_1 (Nat.le_of_ble_eq_true rfl)) rfl (K1 m694 w695 h807 T808 F811 W757 ⟨f761, e816, (by have z : ((m694 17)).toInt = 0 := (sf_aux35 _ B794.1 B794.2); exact (bd764 z))⟩)
          · have B817 : sf_B (-2147483648) 99 z766 := sf_leL (Int32.not_lt.mp c768) (sf_any z766) B765
            refine pm_R_op pm_M178 (pc_q := 116) (st_q := [.int 1]) (pm_q178_1 (Nat.le_of_ble_eq_true rfl)) rfl rfl ?_
            refine pm_R_br pm_M178 (pc_q := 120) (pm_q178_1 (Nat.le_of_ble_eq_true rfl)) rfl ?_
            refine pm_R_lo pm_M178 (pc_q := 121) (ls_q := [.ref 41, .int 2, .int 1, .int 1]) (st_q := []) (pm_q178_1 (Nat.le_of_ble_eq_true rfl)) rfl rfl ?_
            refine pm_R_lo pm_M178 (pc_q := 122) (pm_q178_1 (Nat.le_of_ble_eq_true rfl)) rfl rfl ?_
            refine pm_R_br pm_M178 (pc_q := 125) (st_q := []) (pm_q178_1 (Nat.le_of_ble_eq_true rfl)) rfl ?_
            refine pm_R_lo pm_M178 (pc_q := 126) (pm_q178_1 (Nat.le_of_ble_eq_true rfl)) rfl rfl ?_
            refine rf_R_get pm_M178 T697 (pc_q := 129) (v := .int (m694 17)) (pm_q178_1 (Nat.le_of_ble_eq_true rfl)) rfl rfl rfl ?_
            refine pm_R_ifc pm_M178 (t := 145) (pc_q := 132) (pm_q178_1 (Nat.le_of_ble_eq_true rfl)) rfl rfl (fun c818 => ?_) (fun c818 => ?_)
            · have B819 : sf_B 1 4 (m694 17) := sf_neL0 c818 sf_k0 B759
              refine pm_R_lo pm_M178 (pc_q := 146) (pm_q178_1 (Nat.le_of_ble_eq_true rfl)) rfl rfl ?_
              refine rf_R_get pm_M178 T697 (pc_q := 149) (v := .ref 44) (pm_q178_1 (Nat.le_of_ble_eq_true rfl)) rfl rfl rfl ?_
              refine pm_R_op pm_M178 (pc_q := 150) (st_q := [.int 0, .ref 44]) (pm_q178_1 (Nat.le_of_ble_eq_true rfl)) rfl rfl ?_
              refine pm_R_lo pm_M178 (pc_q := 151) (pm_q178_1 (Nat.le_of_ble_eq_true rfl)) rfl rfl ?_
              refine pm_R_br pm_M178 (pc_q := 154) (st_q := [.int 0, .ref 44]) (pm_q178_1 (Nat.le_of_ble_eq_true rfl)) rfl ?_
              refine pm_R_lo pm_M178 (pc_q := 155) (pm_q178_1 (Nat.le_of_ble_eq_true rfl)) rfl rfl ?_
              refine rf_R_get pm_M178 T697 (pc_q := 158) (v := .int (m694 17)) (pm_q178_1 (Nat.le_of_ble_eq_true rfl)) rfl rfl rfl ?_
              refine pm_R_br pm_M178 (pc_q := 162) (pm_q178_1 (Nat.le_of_ble_eq_true rfl)) rfl ?_
              obtain ⟨f820, e821, b822⟩ := T697.2.2.2.1 44 (by decide) (by decide)
              refine rf_R_ist2 pm_M178 T697 (pc_q := 163) (pm_q178_1 (Nat.le_of_ble_eq_true rfl)) e821 (by decide) (by decide) rfl ⟨_, rfl, sf_upd b822 (sf_weak B819 (by decide) (by decide)) _⟩ rfl (fun h823 T824 F825 e826 => ?_)
              have F827 := F756.trans F825 (by decide)
              refine pm_R_lo pm_M178 (pc_q := 164) (pm_q178_1 (Nat.le_of_ble_eq_true rfl)) rfl rfl ?_
              refine rf_R_get pm_M178 T824 (pc_q := 167) (v := .ref 45) (pm_q178_1 (Nat.le_of_ble_eq_true rfl)) rfl rfl rfl ?_
              refine pm_R_op pm_M178 (pc_q := 168) (st_q := [.int 0, .ref 45]) (pm_q178_1 (Nat.le_of_ble_eq_true rfl)) rfl rfl ?_
              refine pm_R_lo pm_M178 (pc_q := 169) (pm_q178_1 (Nat.le_of_ble_eq_true rfl)) rfl rfl ?_
              refine pm_R_br pm_M178 (pc_q := 179) (st_q := [.int 0, .ref 45]) (pm_q178_1 (Nat.le_of_ble_eq_true rfl)) rfl ?_
              refine pm_R_lo pm_M178 (pc_q := 180) (pm_q178_1 (Nat.le_of_ble_eq_true rfl)) rfl rfl ?_
              refine rf_R_get pm_M178 T824 (pc_q := 183) (v := .int (m694 17)) (pm_q178_1 (Nat.le_of_ble_eq_true rfl)) rfl rfl rfl ?_
              refine pm_R_ifc pm_M178 (t := 193) (pc_q := 186) (pm_q178_1 (Nat.le_of_ble_eq_true rfl)) rfl rfl (fun c828 => absurd c828 (sf_nle B819 sf_k0 (by decide))) (fun c828 => ?_)
              skip
              refine pm_R_lo pm_M178 (pc_q := 187) (pm_q178_1 (Nat.le_of_ble_eq_true rfl)) rfl rfl ?_
              have B829 : sf_B 0 600 (m694 18) := T824.2.2.1 18
              refine rf_R_get pm_M178 T824 (pc_q := 190) (v := .int (m694 18)) (pm_q178_1 (Nat.le_of_ble_eq_true rfl)) rfl rfl rfl ?_
              refine pm_R_br pm_M178 (pc_q := 194) (pm_q178_1 (Nat.le_of_ble_eq_true rfl)) rfl ?_
              obtain ⟨f830, e831, b832⟩ := T824.2.2.2.1 45 (by decide) (by decide)
              refine rf_R_ist2 pm_M178 T824 (pc_q := 195) (pm_q178_1 (Nat.le_of_ble_eq_true rfl)) e831 (by decide) (by decide) rfl ⟨_, rfl, sf_upd b832 (sf_weak B829 (by decide) (by decide)) _⟩ rfl (fun h833 T834 F835 e836 => ?_)
              have F837 := F827.trans F835 (by decide)
              refine pm_R_lo pm_M178 (pc_q := 196) (pm_q178_1 (Nat.le_of_ble_eq_true rfl)) rfl rfl ?_
              refine rf_R_get pm_M178 T834 (pc_q := 199) (v := .ref 44) (pm_q178_1 (Nat.le_of_ble_eq_true rfl)) rfl rfl rfl ?_
              refine pm_R_op pm_M178 (pc_q := 200) (st_q := [.int 0, .ref 44]) (pm_q178_1 (Nat.le_of_ble_eq_true rfl)) rfl rfl ?_
              have e838 := (F835.cell (by decide) e826)
              refine pm_R_iald pm_M178 (pc_q := 201) (v := (m694 17)) (pm_q178_1 (Nat.le_of_ble_eq_true rfl)) e838 (Nat.lt_of_lt_of_le (by decide) T834.1) rfl sf_upd_eq rfl ?_
              refine pm_R_ifc pm_M178 (t := 208) (pc_q := 204) (pm_q178_1 (Nat.le_of_ble_eq_true rfl)) rfl rfl (fun c841 => ?_) (fun c841 => absurd (Classical.not_not.mp c841) (sf_neq1 B819 sf_k0 (by decide)))
              skip
              refine pm_R_op pm_M178 (pc_q := 209) (st_q := [.int 0]) (pm_q178_1 (Nat.le_of_ble_eq_true rfl)) rfl rfl ?_
              exact pm_R_ret pm_M178 (r := some (.int 0)) (pm_q178_1 (Nat.le_of_ble_eq_true rfl)) rfl (K0 m694 w695 h833 T834 F837 W757)
            · have B842 : sf_B 0 0 (m694 17) := sf_eqL (Classical.not_not.mp c818) sf_k0
              refine pm_R_lo pm_M178 (pc_q := 133) (pm_q178_1 (Nat.le_of_ble_eq_true rfl)) rfl rfl ?_
              refine pm_R_br pm_M178 (pc_q := 136) (st_q := []) (pm_q178_1 (Nat.le_of_ble_eq_true rfl)) rfl ?_
              refine pm_R_lo pm_M178 (pc_q := 137) (pm_q178_1 (Nat.le_of_ble_eq_true rfl)) rfl rfl ?_
              refine pm_R_op pm_M178 (pc_q := 138) (st_q := [.int 4, .ref 41]) (pm_q178_1 (Nat.le_of_ble_eq_true rfl)) rfl rfl ?_
              refine pm_R_lo pm_M178 (pc_q := 139) (pm_q178_1 (Nat.le_of_ble_eq_true rfl)) rfl rfl ?_
              have B843 : sf_B 0 600 (m694 12) := T697.2.2.1 12
              refine rf_R_get pm_M178 T697 (pc_q := 142) (v := .int (m694 12)) (pm_q178_1 (Nat.le_of_ble_eq_true rfl)) rfl rfl rfl ?_
              refine pm_R_cv pm_M178 (pc_q := 145) (a := 41) (ra := [.int (m694 12), .int 4]) (rest := []) (ls_q := [.ref 41, .int 4, .int (m694 12)]) (pm_q178_1 (Nat.le_of_ble_eq_true rfl)) rfl (Or.inl rfl) pm_M182 T697.2.1 rfl (by decide) (Nat.lt_of_lt_of_le (by decide) T697.1) rfl rfl (Nat.le_of_ble_eq_true rfl) rfl rfl ?_
              refine rf_c182 (d := d + 5) T697 (sf_weak sf_k4 (by decide) (by decide)) B843 (fun m846 w847 h848 T849 F850 W851 B852 => ?_)
              have F853 := F756.trans F850 (by decide)
              have B854 : sf_B 0 600 (m846 10) := by rw [W851 10 (by decide)]; exact B758
              have ek855 : (m846 10).toInt = ((m694 10)).toInt := by rw [W851 10 (by decide)]
              have B856 : sf_B 0 1 (m846 22) := by rw [W851 22 (by decide)]; exact B760
              have ek857 : (m846 22).toInt = ((m694 22)).toInt := by rw [W851 22 (by decide)]
              have W858 : rf_W [10, 12, 13, 14, 16, 17, 18, 21, 22] m m846 := W757.trans W851 (by decide)
              have B859 : sf_B 0 4 (m846 17) := T849.2.2.1 17
              show pm_R _ 178 145 [.ref 41, .int 2, .int 1, .int 1] [] _ _
              refine pm_R_lo pm_M178 (pc_q := 146) (pm_q178_1 (Nat.le_of_ble_eq_true rfl)) rfl rfl ?_
              refine rf_R_get pm_M178 T849 (pc_q := 149) (v := .ref 44) (pm_q178_1 (Nat.le_of_ble_eq_true rfl)) rfl rfl rfl ?_
              refine pm_R_op pm_M178 (pc_q := 150) (st_q := [.int 0, .ref 44]) (pm_q178_1 (Nat.le_of_ble_eq_true rfl)) rfl rfl ?_
              refine pm_R_lo pm_M178 (pc_q := 151) (pm_q178_1 (Nat.le_of_ble_eq_true rfl)) rfl rfl ?_
              refine pm_R_br pm_M178 (pc_q := 154) (st_q := [.int 0, .ref 44]) (pm_q178_1 (Nat.le_of_ble_eq_true rfl)) rfl ?_
              refine pm_R_lo pm_M178 (pc_q := 155) (pm_q178_1 (Nat.le_of_ble_eq_true rfl)) rfl rfl ?_
              refine rf_R_get pm_M178 T849 (pc_q := 158) (v := .int (m846 17)) (pm_q178_1 (Nat.le_of_ble_eq_true rfl)) rfl rfl rfl ?_
              refine pm_R_br pm_M178 (pc_q := 162) (pm_q178_1 (Nat.le_of_ble_eq_true rfl)) rfl ?_
              obtain ⟨f860, e861, b862⟩ := T849.2.2.2.1 44 (by decide) (by decide)
              refine rf_R_ist2 pm_M178 T849 (pc_q := 163) (pm_q178_1 (Nat.le_of_ble_eq_true rfl)) e861 (by decide) (by decide) rfl ⟨_, rfl, sf_upd b862 (sf_weak B852 (by decide) (by decide)) _⟩ rfl (fun h863 T864 F865 e866 => ?_)
              have F867 := F853.trans F865 (by decide)
              refine pm_R_lo pm_M178 (pc_q := 164) (pm_q178_1 (Nat.le_of_ble_eq_true rfl)) rfl rfl ?_
              refine rf_R_get pm_M178 T864 (pc_q := 167) (v := .ref 45) (pm_q178_1 (Nat.le_of_ble_eq_true rfl)) rfl rfl rfl ?_
              refine pm_R_op pm_M178 (pc_q := 168) (st_q := [.int 0, .ref 45]) (pm_q178_1 (Nat.le_of_ble_eq_true rfl)) rfl rfl ?_
              refine pm_R_lo pm_M178 (pc_q := 169) (pm_q178_1 (Nat.le_of_ble_eq_true rfl)) rfl rfl ?_
              refine pm_R_br pm_M178 (pc_q := 179) (st_q := [.int 0, .ref 45]) (pm_q178_1 (Nat.le_of_ble_eq_true rfl)) rfl ?_
              refine pm_R_lo pm_M178 (pc_q := 180) (pm_q178_1 (Nat.le_of_ble_eq_true rfl)) rfl rfl ?_
              refine rf_R_get pm_M178 T864 (pc_q := 183) (v := .int (m846 17)) (pm_q178_1 (Nat.le_of_ble_eq_true rfl)) rfl rfl rfl ?_
              refine pm_R_ifc pm_M178 (t := 193) (pc_q := 186) (pm_q178_1 (Nat.le_of_ble_eq_true rfl)) rfl rfl (fun c868 => absurd c868 (sf_nle B852 sf_k0 (by decide))) (fun c868 => ?_)
              skip
              refine pm_R_lo pm_M178 (pc_q := 187) (pm_q178_1 (Nat.le_of_ble_eq_true rfl)) rfl rfl ?_
              have B869 : sf_B 0 600 (m846 18) := T864.2.2.1 18
              refine rf_R_get pm_M178 T864 (pc_q := 190) (v := .int (m846 18)) (pm_q178_1 (Nat.le_of_ble_eq_true rfl)) rfl rfl rfl ?_
              refine pm_R_br pm_M178 (pc_q := 194) (pm_q178_1 (Nat.le_of_ble_eq_true rfl)) rfl ?_
              obtain ⟨f870, e871, b872⟩ := T864.2.2.2.1 45 (by decide) (by decide)
              refine rf_R_ist2 pm_M178 T864 (pc_q := 195) (pm_q178_1 (Nat.le_of_ble_eq_true rfl)) e871 (by decide) (by decide) rfl ⟨_, rfl, sf_upd b872 (sf_weak B869 (by decide) (by decide)) _⟩ rfl (fun h873 T874 F875 e876 => ?_)
              have F877 := F867.trans F875 (by decide)
              refine pm_R_lo pm_M178 (pc_q := 196) (pm_q178_1 (Nat.le_of_ble_eq_true rfl)) rfl rfl ?_
              refine rf_R_get pm_M178 T874 (pc_q := 199) (v := .ref 44) (pm_q178_1 (Nat.le_of_ble_eq_true rfl)) rfl rfl rfl ?_
              refine pm_R_op pm_M178 (pc_q := 200) (st_q := [.int 0, .ref 44]) (pm_q178_1 (Nat.le_of_ble_eq_true rfl)) rfl rfl ?_
              have e878 := (F875.cell (by decide) e866)
              refine pm_R_iald pm_M178 (pc_q := 201) (v := (m846 17)) (pm_q178_1 (Nat.le_of_ble_eq_true rfl)) e878 (Nat.lt_of_lt_of_le (by decide) T874.1) rfl sf_upd_eq rfl ?_
              refine pm_R_ifc pm_M178 (t := 208) (pc_q := 204) (pm_q178_1 (Nat.le_of_ble_eq_true rfl)) rfl rfl (fun c881 => ?_) (fun c881 => absurd (Classical.not_not.mp c881) (sf_neq1 B852 sf_k0 (by decide)))
              skip
              refine pm_R_op pm_M178 (pc_q := 209) (st_q := [.int 0]) (pm_q178_1 (Nat.le_of_ble_eq_true rfl)) rfl rfl ?_
              exact pm_R_ret pm_M178 (r := some (.int 0)) (pm_q178_1 (Nat.le_of_ble_eq_true rfl)) rfl (K0 m846 w847 h873 T874 F877 W858)
      · have B882 : sf_B 0 151 x2_608 := sf_ltL (Int32.not_le.mp c615) Bx2_608 sf_k152
        refine pm_R_lo pm_M178 (pc_q := 10) rfl rfl rfl ?_
        refine rf_R_get pm_M178 T_608 (pc_q := 13) (v := .ref 51) rfl rfl rfl rfl ?_
        refine pm_R_lo pm_M178 (pc_q := 14) rfl rfl rfl ?_
        refine pm_R_op pm_M178 (pc_q := 15) (st_q := [.int 0, .int x2_608, .ref 51]) rfl rfl rfl ?_
        refine rf_R_ist pm_M178 T_608 (pc_q := 16) rfl e613 (by decide) (by decide) (sf_in B882 (by decide) (by decide)) ⟨_, rfl⟩ rfl (fun h883 T884 F885 e886 => ?_)
        have F887 := F_608.trans F885 (by decide)
        refine sf_R_iinc pm_M178 (pc_q := 19) (ls_q := fun z => [.ref 41, .int 2, .int z, pm_no]) rfl B882 rfl (by decide) (by decide) (by decide) (fun _ => rfl) rfl (fun z888 e889 B890 => ?_)
        show pm_R _ 178 19 [.ref 41, .int 2, .int z888, pm_no] [] _ _
        refine pm_R_br pm_M178 (pc_q := 2) rfl rfl ?_
        exact ih_608 _ (sf_up hN_608 e889 B882 (by decide) (by decide)) h883 m_608 w_608 z888 T884 F887 W_608 (sf_weak B890 (by decide) (by decide)) ⟨(upd f612 (Int32.toNatClampNeg x2_608) 0), e886, rf_zero zz614 e889 B882 (by decide)⟩ rfl
  obtain ⟨f891, e892⟩ := T.2.2.2.1 51 (by decide) (by decide)
  exact L_608 _ h m w 0 T (rf_G.refl [41, 44, 45, 51, 52] h) (rf_W.refl _ _) (sf_weak sf_k0 (by decide) (by decide)) ⟨f891, e892, fun j hj => absurd hj (by show ¬ (j : Int) < 0; omega)⟩ rfl

set_option maxRecDepth 100000 in
set_option maxHeartbeats 4000000 in
/-- SilentTableModel.readText -/
theorem rf_c178_3 {d : Nat} {m : Nat → Int32} {w : Int64} {h : pm_H} {Q : Option Value → pm_H → Prop}  (T : rf_T m w h)  (K0 : ∀ (m_q : Nat → Int32) (w_q : Int64) (h_q : pm_H), rf_T m_q w_q h_q → rf_G [41, 44, 45, 51, 52] h h_q → rf_W [10, 12, 13, 14, 16, 17, 18, 21, 22] m m_q → Q (some (.int 0)) h_q) (K1 : ∀ (m_q : Nat → Int32) (w_q : Int64) (h_q : pm_H), rf_T m_q w_q h_q → rf_G [41, 44, 45, 51, 52] h h_q → rf_W [10, 12, 13, 14, 16, 17, 18, 21, 22] m m_q → (∃ f : Nat → Int32, h_q.2.2 51 = .inl (0, 152, .inl f) ∧ rf_bd 3 f) → Q (some (.int 1)) h_q) : pm_R (d + 6) 178 0 [.ref 41, .int 3, pm_no, pm_no] [] h Q := by
  refine pm_R_op pm_M178 (pc_q := 1) (st_q := [.int 0]) rfl rfl rfl ?_
  refine pm_R_lo pm_M178 (pc_q := 2) (ls_q := [.ref 41, .int 3, .int 0, pm_no]) (st_q := []) rfl rfl rfl ?_
  have L_410 : ∀ (N : Nat) (h_410 : pm_H) (m_410 : Nat → Int32) (w_410 : Int64) (x2_410 : Int32), rf_T m_410 w_410 h_410 → rf_G [41, 44, 45, 51, 52] h h_410 → rf_W [] m m_410 → sf_B 0 152 x2_410 → (∃ f : Nat → Int32, h_410.2.2 51 = .inl (0, 152, .inl f) ∧ ∀ j : Nat, (j : Int) < x2_410.toInt → f j = 0) → (152 - x2_410.toInt).toNat = N → pm_R (d + 6) 178 2 [.ref 41, .int 3, .int x2_410, pm_no] [] h_410 Q := by
    intro N
    induction N using Nat.strongRecOn with
    | ind N ih_410 =>
      intro h_410 m_410 w_410 x2_410 T_410 F_410 W_410 Bx2_410 X_410 hN_410
      have W413 : rf_W [10, 12, 13, 14, 16, 17, 18, 21, 22] m m_410 := (rf_W.refl [10, 12, 13, 14, 16, 17, 18, 21, 22] m).trans W_410 (by decide)
      obtain ⟨f414, e415, zz416⟩ := X_410
      refine pm_R_lo pm_M178 (pc_q := 3) rfl rfl rfl ?_
      refine pm_R_op pm_M178 (pc_q := 6) (st_q := [.int 152, .int x2_410]) rfl rfl rfl ?_
      refine pm_R_icmp pm_M178 (t := 22) (pc_q := 9) rfl rfl rfl (fun c417 => ?_) (fun c417 => ?_)
      · have B418 : sf_B 152 152 x2_410 := sf_leR c417 sf_k152 Bx2_410
        refine pm_R_lo pm_M178 (pc_q := 23) rfl rfl rfl ?_
        refine rf_R_get pm_M178 T_410 (pc_q := 26) (v := .ref 51) rfl rfl rfl rfl ?_
        refine pm_R_op pm_M178 (pc_q := 27) (st_q := [.int 0, .ref 51]) rfl rfl rfl ?_
        refine pm_R_lo pm_M178 (pc_q := 28) rfl rfl rfl ?_
        refine pm_R_op pm_M178 (pc_q := 29) (st_q := [.int 2, .int 3, .int 0, .ref 51]) rfl rfl rfl ?_
        refine pm_R_br pm_M178 (pc_q := 36) (st_q := [.int 0, .ref 51]) rfl rfl ?_
        refine pm_R_op pm_M178 (pc_q := 37) (st_q := [.int 0, .int 0, .ref 51]) rfl rfl rfl ?_
        refine rf_R_ist pm_M178 T_410 (pc_q := 38) rfl e415 (by decide) (by decide) rfl ⟨_, rfl⟩ rfl (fun h419 T420 F421 e422 => ?_)
        have F423 := F_410.trans F421 (by decide)
        have ct424 : rf_ct 3 (upd f414 (Int32.toNatClampNeg 0) 0) ∧ rf_bd 3 (upd f414 (Int32.toNatClampNeg 0) 0) := rf_all0_3 (fun j hj => zz416 j (by have := Int32.le_iff_toInt_le.mp c417; have e0 : (152 : Int32).toInt = 152 := rfl; omega))
        refine pm_R_lo pm_M178 (pc_q := 39) rfl rfl rfl ?_
        refine pm_R_op pm_M178 (pc_q := 40) (st_q := [.int (-1), .ref 41]) rfl rfl rfl ?_
        refine rf_R_put pm_M178 T420 (pc_q := 43) rfl rfl rfl (by decide) rfl rfl (sf_weak sf_kn1 (by decide) (by decide)) rfl rfl (fun h426 m429 em430 T427 F428 => ?_)
        have F431 := F423.trans F428 (by decide)
        have B432 : sf_B (-1) (-1) (m429 21) := by rw [em430]; exact sf_kn1
        have W434 : rf_W [10, 12, 13, 14, 16, 17, 18, 21, 22] m m429 := by rw [em430]; exact W413.put (by decide)
        have B435 : sf_B 0 600 (m429 10) := T427.2.2.1 10
        have B436 : sf_B 0 4 (m429 17) := T427.2.2.1 17
        have B437 : sf_B 0 1 (m429 22) := T427.2.2.1 22
        refine pm_R_lo pm_M178 (pc_q := 44) rfl rfl rfl ?_
        refine pm_R_op pm_M178 (pc_q := 45) (st_q := [.int 0, .ref 41]) rfl rfl rfl ?_
        refine rf_R_put pm_M178 T427 (pc_q := 48) rfl rfl rfl (by decide) rfl rfl (sf_weak sf_k0 (by decide) (by decide)) rfl rfl (fun h438 m441 em442 T439 F440 => ?_)
        have F443 := F431.trans F440 (by decide)
        have B444 : sf_B (-1) (-1) (m441 21) := by rw [em442]; exact B432
        have B445 : sf_B 0 4 (m441 17) := by rw [em442]; exact B436
        have ek446 : (m441 17).toInt = ((m429 17)).toInt := by rw [em442]; rfl
        have B447 : sf_B 0 1 (m441 22) := by rw [em442]; exact B437
        have ek448 : (m441 22).toInt = ((m429 22)).toInt := by rw [em442]; rfl
        have B449 : sf_B 0 0 (m441 10) := by rw [em442]; exact sf_k0
        have W451 : rf_W [10, 12, 13, 14, 16, 17, 18, 21, 22] m m441 := by rw [em442]; exact W434.put (by decide)
        refine pm_R_lo pm_M178 (pc_q := 49) rfl rfl rfl ?_
        refine pm_R_op pm_M178 (pc_q := 50) (st_q := [.int 0, .ref 41]) rfl rfl rfl ?_
        refine rf_R_put pm_M178 T439 (pc_q := 53) rfl rfl rfl (by decide) rfl rfl (sf_weak sf_k0 (by decide) (by decide)) rfl rfl (fun h452 m455 em456 T453 F454 => ?_)
        have F457 := F443.trans F454 (by decide)
        have B458 : sf_B (-1) (-1) (m455 21) := by rw [em456]; exact B444
        have B459 : sf_B 0 1 (m455 22) := by rw [em456]; exact B447
        have ek460 : (m455 22).toInt = ((m429 22)).toInt := by rw [em456]; exact ek448
        have B461 : sf_B 0 0 (m455 10) := by rw [em456]; exact B449
        have ek462 : (m455 10).toInt = ((m441 10)).toInt := by rw [em456]; rfl
        have B463 : sf_B 0 0 (m455 17) := by rw [em456]; exact sf_k0
        have W465 : rf_W [10, 12, 13, 14, 16, 17, 18, 21, 22] m m455 := by rw [em456]; exact W451.put (by decide)
        refine pm_R_lo pm_M178 (pc_q := 54) rfl rfl rfl ?_
        refine pm_R_cv pm_M178 (pc_q := 57) (a := 41) (ra := []) (rest := []) (ls_q := [.ref 41, pm_no, pm_no]) rfl rfl (Or.inl rfl) pm_M179 T453.2.1 rfl (by decide) (Nat.lt_of_lt_of_le (by decide) T453.1) rfl rfl (Nat.le_of_ble_eq_true rfl) rfl rfl ?_
        refine rf_c179 (d := d + 4) T453  (fun m468 w469 h470 T471 F472 W473 X474 X475 => ?_)
        have F476 := F457.trans F472 (by decide)
        have B477 : sf_B (-1) (-1) (m468 21) := by rw [W473 21 (by decide)]; exact B458
        have B478 : sf_B 0 1 (m468 22) := by rw [W473 22 (by decide)]; exact B459
        have ek479 : (m468 22).toInt = ((m429 22)).toInt := by rw [W473 22 (by decide)]; exact ek460
        have B480 : sf_B 0 0 (m468 17) := by rw [W473 17 (by decide)]; exact B463
        have ek481 : (m468 17).toInt = ((m455 17)).toInt := by rw [W473 17 (by decide)]
        have W482 : rf_W [10, 12, 13, 14, 16, 17, 18, 21, 22] m m468 := W465.trans W473 (by decide)
        have B483 : sf_B 0 600 (m468 10) := T471.2.2.1 10
        show pm_R _ 178 57 [.ref 41, .int 3, .int x2_410, pm_no] [] _ _
        refine pm_R_lo pm_M178 (pc_q := 58) rfl rfl rfl ?_
        refine pm_R_op pm_M178 (pc_q := 59) (st_q := [.int 1, .int 3]) rfl rfl rfl ?_
        refine pm_R_br pm_M178 (pc_q := 69) (st_q := []) rfl rfl ?_
        refine pm_R_lo pm_M178 (pc_q := 70) rfl rfl rfl ?_
        refine pm_R_lo pm_M178 (pc_q := 71) rfl rfl rfl ?_
        refine pm_R_cv pm_M178 (pc_q := 74) (a := 41) (ra := [.int 3]) (rest := []) (ls_q := [.ref 41, .int 3, pm_no, pm_no, pm_no, pm_no]) rfl rfl (Or.inl rfl) pm_M186 T471.2.1 rfl (by decide) (Nat.lt_of_lt_of_le (by decide) T471.1) rfl rfl (Nat.le_of_ble_eq_true rfl) rfl rfl ?_
        have e484 := (F472.cell (by decide) (F454.cell (by decide) (F440.cell (by decide) (F428.cell (by decide) e422))))
        refine rf_c186_3 (d := d + 0) T471 (⟨(upd f414 (Int32.toNatClampNeg 0) 0), e484, ct424.1, fun z => ct424.2⟩) (fun m487 w488 h489 T490 F491 W492 X493 => ?_) (fun m496 w497 h498 T499 F500 W501 X502 X503 => ?_)
        · have F504 := F476.trans F491 (by decide)
          have W505 : rf_W [10, 12, 13, 14, 16, 17, 18, 21, 22] m m487 := W482.trans W492 (by decide)
          have B506 : sf_B 0 600 (m487 10) := T490.2.2.1 10
          have B507 : sf_B 0 4 (m487 17) := T490.2.2.1 17
          have B508 : sf_B 0 1 (m487 22) := T490.2.2.1 22
          show pm_R _ 178 74 [.ref 41, .int 3, .int x2_410, pm_no] [.int 0] _ _
          refine pm_R_lo pm_M178 (pc_q := 75) (ls_q := [.ref 41, .int 3, .int 0, pm_no]) (st_q := []) rfl rfl rfl ?_
          refine pm_R_lo pm_M178 (pc_q := 76) rfl rfl rfl ?_
          refine pm_R_op pm_M178 (pc_q := 77) (st_q := [.int 1, .int 3]) rfl rfl rfl ?_
          refine pm_R_br pm_M178 (pc_q := 97) (st_q := []) rfl rfl ?_
          refine pm_R_lo pm_M178 (pc_q := 98) rfl rfl rfl ?_
          refine pm_R_op pm_M178 (pc_q := 99) (st_q := [.int 2, .int 3]) rfl rfl rfl ?_
          refine pm_R_br pm_M178 (pc_q := 119) (st_q := []) rfl rfl ?_
          refine pm_R_op pm_M178 (pc_q := 120) (st_q := [.int 0]) (pm_q178_1 (Nat.le_of_ble_eq_true rfl)) rfl rfl ?_
          refine pm_R_lo pm_M178 (pc_q := 121) (ls_q := [.ref 41, .int 3, .int 0, .int 0]) (st_q := []) (pm_q178_1 (Nat.le_of_ble_eq_true rfl)) rfl rfl ?_
          refine pm_R_lo pm_M178 (pc_q := 122) (pm_q178_1 (Nat.le_of_ble_eq_true rfl)) rfl rfl ?_
          refine pm_R_br pm_M178 (pc_q := 145) (st_q := []) (pm_q178_1 (Nat.le_of_ble_eq_true rfl)) rfl ?_
          refine pm_R_lo pm_M178 (pc_q := 146) (pm_q178_1 (Nat.le_of_ble_eq_true rfl)) rfl rfl ?_
          refine rf_R_get pm_M178 T490 (pc_q := 149) (v := .ref 44) (pm_q178_1 (Nat.le_of_ble_eq_true rfl)) rfl rfl rfl ?_
          refine pm_R_op pm_M178 (pc_q := 150) (st_q := [.int 0, .ref 44]) (pm_q178_1 (Nat.le_of_ble_eq_true rfl)) rfl rfl ?_
          refine pm_R_lo pm_M178 (pc_q := 151) (pm_q178_1 (Nat.le_of_ble_eq_true rfl)) rfl rfl ?_
          refine pm_R_br pm_M178 (pc_q := 161) (st_q := [.int 0, .ref 44]) (pm_q178_1 (Nat.le_of_ble_eq_true rfl)) rfl ?_
          refine pm_R_op pm_M178 (pc_q := 162) (st_q := [.int 1, .int 0, .ref 44]) (pm_q178_1 (Nat.le_of_ble_eq_true rfl)) rfl rfl ?_
          obtain ⟨f509, e510, b511⟩ := T490.2.2.2.1 44 (by decide) (by decide)
          refine rf_R_ist2 pm_M178 T490 (pc_q := 163) (pm_q178_1 (Nat.le_of_ble_eq_true rfl)) e510 (by decide) (by decide) rfl ⟨_, rfl, sf_upd b511 (sf_weak sf_k1 (by decide) (by decide)) _⟩ rfl (fun h512 T513 F514 e515 => ?_)
          have F516 := F504.trans F514 (by decide)
          refine pm_R_lo pm_M178 (pc_q := 164) (pm_q178_1 (Nat.le_of_ble_eq_true rfl)) rfl rfl ?_
          refine rf_R_get pm_M178 T513 (pc_q := 167) (v := .ref 45) (pm_q178_1 (Nat.le_of_ble_eq_true rfl)) rfl rfl rfl ?_
          refine pm_R_op pm_M178 (pc_q := 168) (st_q := [.int 0, .ref 45]) (pm_q178_1 (Nat.le_of_ble_eq_true rfl)) rfl rfl ?_
          refine pm_R_lo pm_M178 (pc_q := 169) (pm_q178_1 (Nat.le_of_ble_eq_true rfl)) rfl rfl ?_
          refine pm_R_br pm_M178 (pc_q := 172) (st_q := [.int 0, .ref 45]) (pm_q178_1 (Nat.le_of_ble_eq_true rfl)) rfl ?_
          refine pm_R_lo pm_M178 (pc_q := 173) (pm_q178_1 (Nat.le_of_ble_eq_true rfl)) rfl rfl ?_
          have B517 : sf_B 0 600 (m487 16) := T513.2.2.1 16
          refine rf_R_get pm_M178 T513 (pc_q := 176) (v := .int (m487 16)) (pm_q178_1 (Nat.le_of_ble_eq_true rfl)) rfl rfl rfl ?_
          refine pm_R_br pm_M178 (pc_q := 194) (pm_q178_1 (Nat.le_of_ble_eq_true rfl)) rfl ?_
          obtain ⟨f518, e519, b520⟩ := T513.2.2.2.1 45 (by decide) (by decide)
          refine rf_R_ist2 pm_M178 T513 (pc_q := 195) (pm_q178_1 (Nat.le_of_ble_eq_true rfl)) e519 (by decide) (by decide) rfl ⟨_, rfl, sf_upd b520 (sf_weak B517 (by decide) (by decide)) _⟩ rfl (fun h521 T522 F523 e524 => ?_)
          have F525 := F516.trans F523 (by decide)
          refine pm_R_lo pm_M178 (pc_q := 196) (pm_q178_1 (Nat.le_of_ble_eq_true rfl)) rfl rfl ?_
          refine rf_R_get pm_M178 T522 (pc_q := 199) (v := .ref 44) (pm_q178_1 (Nat.le_of_ble_eq_true rfl)) rfl rfl rfl ?_
          refine pm_R_op pm_M178 (pc_q := 200) (st_q := [.int 0, .ref 44]) (pm_q178_1 (Nat.le_of_ble_eq_true rfl)) rfl rfl ?_
          have e526 := (F523.cell (by decide) e515)
          refine pm_R_iald pm_M178 (pc_q := 201) (v := 1) (pm_q178_1 (Nat.le_of_ble_eq_true rfl)) e526 (Nat.lt_of_lt_of_le (by decide) T522.1) rfl sf_upd_eq rfl ?_
          refine pm_R_br pm_M178 (pc_q := 208) (st_q := []) (pm_q178_1 (Nat.le_of_ble_eq_true rfl)) rfl ?_
          refine pm_R_op pm_M178 (pc_q := 209) (st_q := [.int 0]) (pm_q178_1 (Nat.le_of_ble_eq_true rfl)) rfl rfl ?_
          exact pm_R_ret pm_M178 (r := some (.int 0)) (pm_q178_1 (Nat.le_of_ble_eq_true rfl)) rfl (K0 m487 w488 h521 T522 F525 W505)
        · have F529 := F476.trans F500 (by decide)
          have W530 : rf_W [10, 12, 13, 14, 16, 17, 18, 21, 22] m m496 := W482.trans W501 (by decide)
          have B531 : sf_B 0 600 (m496 10) := T499.2.2.1 10
          have B532 : sf_B 0 4 (m496 17) := T499.2.2.1 17
          have B533 : sf_B 0 1 (m496 22) := T499.2.2.1 22
          show pm_R _ 178 74 [.ref 41, .int 3, .int x2_410, pm_no] [.int 1] _ _
          obtain ⟨f534, e535, ct536, bd537⟩ := X502
          refine pm_R_lo pm_M178 (pc_q := 75) (ls_q := [.ref 41, .int 3, .int 1, pm_no]) (st_q := []) rfl rfl rfl ?_
          refine pm_R_lo pm_M178 (pc_q := 76) rfl rfl rfl ?_
          refine pm_R_op pm_M178 (pc_q := 77) (st_q := [.int 1, .int 3]) rfl rfl rfl ?_
          refine pm_R_br pm_M178 (pc_q := 97) (st_q := []) rfl rfl ?_
          refine pm_R_lo pm_M178 (pc_q := 98) rfl rfl rfl ?_
          refine pm_R_op pm_M178 (pc_q := 99) (st_q := [.int 2, .int 3]) rfl rfl rfl ?_
          refine pm_R_br pm_M178 (pc_q := 119) (st_q := []) rfl rfl ?_
          refine pm_R_op pm_M178 (pc_q := 120) (st_q := [.int 0]) (pm_q178_1 (Nat.le_of_ble_eq_true rfl)) rfl rfl ?_
          refine pm_R_lo pm_M178 (pc_q := 121) (ls_q := [.ref 41, .int 3, .int 1, .int 0]) (st_q := []) (pm_q178_1 (Nat.le_of_ble_eq_true rfl)) rfl rfl ?_
          refine pm_R_lo pm_M178 (pc_q := 122) (pm_q178_1 (Nat.le_of_ble_eq_true rfl)) rfl rfl ?_
          refine pm_R_br pm_M178 (pc_q := 125) (st_q := []) (pm_q178_1 (Nat.le_of_ble_eq_true rfl)) rfl ?_
          refine pm_R_lo pm_M178 (pc_q := 126) (pm_q178_1 (Nat.le_of_ble_eq_true rfl)) rfl rfl ?_
          refine rf_R_get pm_M178 T499 (pc_q := 129) (v := .int (m496 17)) (pm_q178_1 (Nat.le_of_ble_eq_true rfl)) rfl rfl rfl ?_
          refine pm_R_ifc pm_M178 (t := 145) (pc_q := 132) (pm_q178_1 (Nat.le_of_ble_eq_true rfl)) rfl rfl (fun c538 => ?_) (fun c538 => ?_)
          · have B539 : sf_B 1 4 (m496 17) := sf_neL0 c538 sf_k0 B532
            refine pm_R_lo pm_M178 (pc_q := 146) (pm_q178_1 (Nat.le_of_ble_eq_true rfl)) rfl rfl ?_
            refine rf_R_get pm_M178 T499 (pc_q := 149) (v := .ref 44) (pm_q178_1 (Nat.le_of_ble_eq_true rfl)) rfl rfl rfl ?_
            refine pm_R_op pm_M178 (pc_q := 150) (st_q := [.int 0, .ref 44]) (pm_q178_1 (Nat.le_of_ble_eq_true rfl)) rfl rfl ?_
            refine pm_R_lo pm_M178 (pc_q := 151) (pm_q178_1 (Nat.le_of_ble_eq_true rfl)) rfl rfl ?_
            refine pm_R_br pm_M178 (pc_q := 154) (st_q := [.int 0, .ref 44]) (pm_q178_1 (Nat.le_of_ble_eq_true rfl)) rfl ?_
            refine pm_R_lo pm_M178 (pc_q := 155) (pm_q178_1 (Nat.le_of_ble_eq_true rfl)) rfl rfl ?_
            refine rf_R_get pm_M178 T499 (pc_q := 158) (v := .int (m496 17)) (pm_q178_1 (Nat.le_of_ble_eq_true rfl)) rfl rfl rfl ?_
            refine pm_R_br pm_M178 (pc_q := 162) (pm_q178_1 (Nat.le_of_ble_eq_true rfl)) rfl ?_
            obtain ⟨f540, e541, b542⟩ := T499.2.2.2.1 44 (by decide) (by decide)
            refine rf_R_ist2 pm_M178 T499 (pc_q := 163) (pm_q178_1 (Nat.le_of_ble_eq_true rfl)) e541 (by decide) (by decide) rfl ⟨_, rfl, sf_upd b542 (sf_weak B539 (by decide) (by decide)) _⟩ rfl (fun h543 T544 F545 e546 => ?_)
            have F547 := F529.trans F545 (by decide)
            refine pm_R_lo pm_M178 (pc_q := 164) (pm_q178_1 (Nat.le_of_ble_eq_true rfl)) rfl rfl ?_
            refine rf_R_get pm_M178 T544 (pc_q := 167) (v := .ref 45) (pm_q178_1 (Nat.le_of_ble_eq_true rfl)) rfl rfl rfl ?_
            refine pm_R_op pm_M178 (pc_q := 168) (st_q := [.int 0, .ref 45]) (pm_q178_1 (Nat.le_of_ble_eq_true rfl)) rfl rfl ?_
            refine pm_R_lo pm_M178 (pc_q := 169) (pm_q178_1 (Nat.le_of_ble_eq_true rfl)) rfl rfl ?_
            refine pm_R_br pm_M178 (pc_q := 179) (st_q := [.int 0, .ref 45]) (pm_q178_1 (Nat.le_of_ble_eq_true rfl)) rfl ?_
            refine pm_R_lo pm_M178 (pc_q := 180) (pm_q178_1 (Nat.le_of_ble_eq_true rfl)) rfl rfl ?_
            refine rf_R_get pm_M178 T544 (pc_q := 183) (v := .int (m496 17)) (pm_q178_1 (Nat.le_of_ble_eq_true rfl)) rfl rfl rfl ?_
            refine pm_R_ifc pm_M178 (t := 193) (pc_q := 186) (pm_q178_1 (Nat.le_of_ble_eq_true rfl)) rfl rfl (fun c548 => absurd c548 (sf_nle B539 sf_k0 (by decide))) (fun c548 => ?_)
            skip
            refine pm_R_lo pm_M178 (pc_q := 187) (pm_q178_1 (Nat.le_of_ble_eq_true rfl)) rfl rfl ?_
            have B549 : sf_B 0 600 (m496 18) := T544.2.2.1 18
            refine rf_R_get pm_M178 T544 (pc_q := 190) (v := .int (m496 18)) (pm_q178_1 (Nat.le_of_ble_eq_true rfl)) rfl rfl rfl ?_
            refine pm_R_br pm_M178 (pc_q := 194) (pm_q178_1 (Nat.le_of_ble_eq_true rfl)) rfl ?_
            obtain ⟨f550, e551, b552⟩ := T544.2.2.2.1 45 (by decide) (by decide)
            refine rf_R_ist2 pm_M178 T544 (pc_q := 195) (pm_q178_1 (Nat.le_of_ble_eq_true rfl)) e551 (by decide) (by decide) rfl ⟨_, rfl, sf_upd b552 (sf_weak B549 (by decide) (by decide)) _⟩ rfl (fun h553 T554 F555 e556 => ?_)
            have F557 := F547.trans F555 (by decide)
            refine pm_R_lo pm_M178 (pc_q := 196) (pm_q178_1 (Nat.le_of_ble_eq_true rfl)) rfl rfl ?_
            refine rf_R_get pm_M178 T554 (pc_q := 199) (v := .ref 44) (pm_q178_1 (Nat.le_of_ble_eq_true rfl)) rfl rfl rfl ?_
            refine pm_R_op pm_M178 (pc_q := 200) (st_q := [.int 0, .ref 44]) (pm_q178_1 (Nat.le_of_ble_eq_true rfl)) rfl rfl ?_
            have e558 := (F555.cell (by decide) e546)
            refine pm_R_iald pm_M178 (pc_q := 201) (v := (m496 17)) (pm_q178_1 (Nat.le_of_ble_eq_true rfl)) e558 (Nat.lt_of_lt_of_le (by decide) T554.1) rfl sf_upd_eq rfl ?_
            refine pm_R_ifc pm_M178 (t := 208) (pc_q := 204) (pm_q178_1 (Nat.le_of_ble_eq_true rfl)) rfl rfl (fun c561 => ?_) (fun c561 => absurd (Classical.not_not.mp c561) (sf_neq1 B539 sf_k0 (by decide)))
            skip
            refine pm_R_op pm_M178 (pc_q := 209) (st_q := [.int 0]) (pm_q178_1 (Nat.le_of_ble_eq_true rfl)) rfl rfl ?_
            exact pm_R_ret pm_M178 (r := some (.int 0)) (pm_q178_1 (Nat.le_of_ble_eq_true rfl)) rfl (K0 m496 w497 h553 T554 F557 W530)
          · have B562 : sf_B 0 0 (m496 17) := sf_eqL (Classical.not_not.mp c538) sf_k0
            refine pm_R_lo pm_M178 (pc_q := 133) (pm_q178_1 (Nat.le_of_ble_eq_true rfl)) rfl rfl ?_
            refine pm_R_br pm_M178 (pc_q := 145) (st_q := []) (pm_q178_1 (Nat.le_of_ble_eq_true rfl)) rfl ?_
            refine pm_R_lo pm_M178 (pc_q := 146) (pm_q178_1 (Nat.le_of_ble_eq_true rfl)) rfl rfl ?_
            refine rf_R_get pm_M178 T499 (pc_q := 149) (v := .ref 44) (pm_q178_1 (Nat.le_of_ble_eq_true rfl)) rfl rfl rfl ?_
            refine pm_R_op pm_M178 (pc_q := 150) (st_q := [.int 0, .ref 44]) (pm_q178_1 (Nat.le_of_ble_eq_true rfl)) rfl rfl ?_
            refine pm_R_lo pm_M178 (pc_q := 151) (pm_q178_1 (Nat.le_of_ble_eq_true rfl)) rfl rfl ?_
            refine pm_R_br pm_M178 (pc_q := 154) (st_q := [.int 0, .ref 44]) (pm_q178_1 (Nat.le_of_ble_eq_true rfl)) rfl ?_
            refine pm_R_lo pm_M178 (pc_q := 155) (pm_q178_1 (Nat.le_of_ble_eq_true rfl)) rfl rfl ?_
            refine rf_R_get pm_M178 T499 (pc_q := 158) (v := .int (m496 17)) (pm_q178_1 (Nat.le_of_ble_eq_true rfl)) rfl rfl rfl ?_
            refine pm_R_br pm_M178 (pc_q := 162) (pm_q178_1 (Nat.le_of_ble_eq_true rfl)) rfl ?_
            obtain ⟨f563, e564, b565⟩ := T499.2.2.2.1 44 (by decide) (by decide)
            refine rf_R_ist2 pm_M178 T499 (pc_q := 163) (pm_q178_1 (Nat.le_of_ble_eq_true rfl)) e564 (by decide) (by decide) rfl ⟨_, rfl, sf_upd b565 (sf_weak B562 (by decide) (by decide)) _⟩ rfl (fun h566 T567 F568 e569 => ?_)
            have F570 := F529.trans F568 (by decide)
            refine pm_R_lo pm_M178 (pc_q := 164) (pm_q178_1 (Nat.le_of_ble_eq_true rfl)) rfl rfl ?_
            refine rf_R_get pm_M178 T567 (pc_q := 167) (v := .ref 45) (pm_q178_1 (Nat.le_of_ble_eq_true rfl)) rfl rfl rfl ?_
            refine pm_R_op pm_M178 (pc_q := 168) (st_q := [.int 0, .ref 45]) (pm_q178_1 (Nat.le_of_ble_eq_true rfl)) rfl rfl ?_
            refine pm_R_lo pm_M178 (pc_q := 169) (pm_q178_1 (Nat.le_of_ble_eq_true rfl)) rfl rfl ?_
            refine pm_R_br pm_M178 (pc_q := 179) (st_q := [.int 0, .ref 45]) (pm_q178_1 (Nat.le_of_ble_eq_true rfl)) rfl ?_
            refine pm_R_lo pm_M178 (pc_q := 180) (pm_q178_1 (Nat.le_of_ble_eq_true rfl)) rfl rfl ?_
            refine rf_R_get pm_M178 T567 (pc_q := 183) (v := .int (m496 17)) (pm_q178_1 (Nat.le_of_ble_eq_true rfl)) rfl rfl rfl ?_
            refine pm_R_ifc pm_M178 (t := 193) (pc_q := 186) (pm_q178_1 (Nat.le_of_ble_eq_true rfl)) rfl rfl (fun c571 => ?_) (fun c571 => absurd (Int32.not_le.mp c571) (sf_nlt sf_k0 B562 (by decide)))
            skip
            refine pm_R_op pm_M178 (pc_q := 194) (st_q := [.int (-1), .int 0, .ref 45]) (pm_q178_1 (Nat.le_of_ble_eq_true rfl)) rfl rfl ?_
            obtain ⟨f572, e573, b574⟩ := T567.2.2.2.1 45 (by decide) (by decide)
            refine rf_R_ist2 pm_M178 T567 (pc_q := 195) (pm_q178_1 (Nat.le_of_ble_eq_true rfl)) e573 (by decide) (by decide) rfl ⟨_, rfl, sf_upd b574 (sf_weak sf_kn1 (by decide) (by decide)) _⟩ rfl (fun h575 T576 F577 e578 => ?_)
            have F579 := F570.trans F577 (by decide)
            refine pm_R_lo pm_M178 (pc_q := 196) (pm_q178_1 (Nat.le_of_ble_eq_true rfl)) rfl rfl ?_
            refine rf_R_get pm_M178 T576 (pc_q := 199) (v := .ref 44) (pm_q178_1 (Nat.le_of_ble_eq_true rfl)) rfl rfl rfl ?_
            refine pm_R_op pm_M178 (pc_q := 200) (st_q := [.int 0, .ref 44]) (pm_q178_1 (Nat.le_of_ble_eq_true rfl)) rfl rfl ?_
            have e580 := (F577.cell (by decide) e569)
            refine pm_R_iald pm_M178 (pc_q := 201) (v := (m496 17)) (pm_q178_1 (Nat.le_of_ble_eq_true rfl)) e580 (Nat.lt_of_lt_of_le (by decide) T576.1) rfl sf_upd_eq rfl ?_
            refine pm_R_ifc pm_M178 (t := 208) (pc_q := 204) (pm_q178_1 (Nat.le_of_ble_eq_true rfl)) rfl rfl (fun c583 => absurd (sf_pt2 B562 sf_k0) c583) (fun c583 => ?_)
            refine pm_R_op pm_M178 (pc_q := 205) (st_q := [.int 1]) (pm_q178_1 (Nat.le_of_ble_eq_true rfl)) rfl rfl ?_
            refine pm_R_br pm_M178 (pc_q := 209) (pm_q178_1 (Nat.le_of_ble_eq_true rfl)) rfl ?_
            have e584 := (F577.cell (by decide) (F568.cell (by decide) e535))
            exact pm_R_ret pm_M178 (r := some (.int 1)) (pm_q178_1 (Nat.le_of_ble_eq_true rfl)) rfl (K1 m496 w497 h575 T576 F579 W530 ⟨f534, e584, (by have z : ((m496 17)).toInt = 0 := (sf_aux35 _ B562.1 B562.2); exact (bd537 z))⟩)
      · have B585 : sf_B 0 151 x2_410 := sf_ltL (Int32.not_le.mp c417) Bx2_410 sf_k152
        refine pm_R_lo pm_M178 (pc_q := 10) rfl rfl rfl ?_
        refine rf_R_get pm_M178 T_410 (pc_q := 13) (v := .ref 51) rfl rfl rfl rfl ?_
        refine pm_R_lo pm_M178 (pc_q := 14) rfl rfl rfl ?_
        refine pm_R_op pm_M178 (pc_q := 15) (st_q := [.int 0, .int x2_410, .ref 51]) rfl rfl rfl ?_
        refine rf_R_ist pm_M178 T_410 (pc_q := 16) rfl e415 (by decide) (by decide) (sf_in B585 (by decide) (by decide)) ⟨_, rfl⟩ rfl (fun h586 T587 F588 e589 => ?_)
        have F590 := F_410.trans F588 (by decide)
        refine sf_R_iinc pm_M178 (pc_q := 19) (ls_q := fun z => [.ref 41, .int 3, .int z, pm_no]) rfl B585 rfl (by decide) (by decide) (by decide) (fun _ => rfl) rfl (fun z591 e592 B593 => ?_)
        show pm_R _ 178 19 [.ref 41, .int 3, .int z591, pm_no] [] _ _
        refine pm_R_br pm_M178 (pc_q := 2) rfl rfl ?_
        exact ih_410 _ (sf_up hN_410 e592 B585 (by decide) (by decide)) h586 m_410 w_410 z591 T587 F590 W_410 (sf_weak B593 (by decide) (by decide)) ⟨(upd f414 (Int32.toNatClampNeg x2_410) 0), e589, rf_zero zz416 e592 B585 (by decide)⟩ rfl
  obtain ⟨f594, e595⟩ := T.2.2.2.1 51 (by decide) (by decide)
  exact L_410 _ h m w 0 T (rf_G.refl [41, 44, 45, 51, 52] h) (rf_W.refl _ _) (sf_weak sf_k0 (by decide) (by decide)) ⟨f594, e595, fun j hj => absurd hj (by show ¬ (j : Int) < 0; omega)⟩ rfl
