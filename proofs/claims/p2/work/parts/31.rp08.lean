set_option maxRecDepth 100000 in
set_option maxHeartbeats 4000000 in
/-- SilentTableModel.readText -/
theorem rf_c178_3 {d : Nat} {m : Nat → Int32} {w : Int64} {h : pm_H} {Q : Option Value → pm_H → Prop}  (T : rf_T m w h)  (K0 : ∀ (m' : Nat → Int32) (w' : Int64) (h' : pm_H), rf_T m' w' h' → rf_G [41, 44, 45, 51, 52] h h' → rf_W [10, 12, 13, 14, 16, 17, 18, 21, 22] m m' → Q (some (.int 0)) h') (K1 : ∀ (m' : Nat → Int32) (w' : Int64) (h' : pm_H), rf_T m' w' h' → rf_G [41, 44, 45, 51, 52] h h' → rf_W [10, 12, 13, 14, 16, 17, 18, 21, 22] m m' → (∃ f : Nat → Int32, h'.2.2 51 = .inl (0, 152, .inl f) ∧ rf_bd 3 f) → Q (some (.int 1)) h') : pm_R (d + 6) 178 0 [.ref 41, .int 3, pm_no, pm_no] [] h Q := by
  refine pm_R_op pm_M178 (pc' := 1) (st' := [.int 0]) rfl rfl rfl ?_
  refine pm_R_lo pm_M178 (pc' := 2) (ls' := [.ref 41, .int 3, .int 0, pm_no]) (st' := []) rfl rfl rfl ?_
  have L_416 : ∀ (N : Nat) (h_416 : pm_H) (m_416 : Nat → Int32) (w_416 : Int64) (x2_416 : Int32), rf_T m_416 w_416 h_416 → rf_G [41, 44, 45, 51, 52] h h_416 → rf_W [] m m_416 → sf_B 0 152 x2_416 → (∃ f : Nat → Int32, h_416.2.2 51 = .inl (0, 152, .inl f) ∧ ∀ j : Nat, (j : Int) < x2_416.toInt → f j = 0) → (152 - x2_416.toInt).toNat = N → pm_R (d + 6) 178 2 [.ref 41, .int 3, .int x2_416, pm_no] [] h_416 Q := by
    intro N
    induction N using Nat.strongRecOn with
    | ind N ih_416 =>
      intro h_416 m_416 w_416 x2_416 T_416 F_416 W_416 Bx2_416 X_416 hN_416
      have W419 : rf_W [10, 12, 13, 14, 16, 17, 18, 21, 22] m m_416 := (rf_W.refl [10, 12, 13, 14, 16, 17, 18, 21, 22] m).trans W_416 (by decide)
      obtain ⟨f420, e421, zz422⟩ := X_416
      refine pm_R_lo pm_M178 (pc' := 3) rfl rfl rfl ?_
      refine pm_R_op pm_M178 (pc' := 6) (st' := [.int 152, .int x2_416]) rfl rfl rfl ?_
      refine pm_R_icmp pm_M178 (t := 22) (pc' := 9) rfl rfl rfl (fun c423 => ?_) (fun c423 => ?_)
      · have B424 : sf_B 152 152 x2_416 := sf_leR c423 sf_k152 Bx2_416
        refine pm_R_lo pm_M178 (pc' := 23) rfl rfl rfl ?_
        refine rf_R_get pm_M178 T_416 (pc' := 26) (v := .ref 51) rfl rfl rfl rfl ?_
        refine pm_R_op pm_M178 (pc' := 27) (st' := [.int 0, .ref 51]) rfl rfl rfl ?_
        refine pm_R_lo pm_M178 (pc' := 28) rfl rfl rfl ?_
        refine pm_R_op pm_M178 (pc' := 29) (st' := [.int 2, .int 3, .int 0, .ref 51]) rfl rfl rfl ?_
        refine pm_R_br pm_M178 (pc' := 36) (st' := [.int 0, .ref 51]) rfl rfl ?_
        refine pm_R_op pm_M178 (pc' := 37) (st' := [.int 0, .int 0, .ref 51]) rfl rfl rfl ?_
        refine rf_R_ist pm_M178 T_416 (pc' := 38) rfl e421 (by decide) (by decide) rfl ⟨_, rfl⟩ rfl (fun h425 T426 F427 e428 => ?_)
        have F429 := F_416.trans F427 (by decide)
        have ct430 : rf_ct 3 (upd f420 (Int32.toNatClampNeg 0) 0) ∧ rf_bd 3 (upd f420 (Int32.toNatClampNeg 0) 0) := rf_all0_3 (fun j hj => zz422 j (by have := Int32.le_iff_toInt_le.mp c423; have e0 : (152 : Int32).toInt = 152 := rfl; omega))
        refine pm_R_lo pm_M178 (pc' := 39) rfl rfl rfl ?_
        refine pm_R_op pm_M178 (pc' := 40) (st' := [.int (-1), .ref 41]) rfl rfl rfl ?_
        refine rf_R_put pm_M178 T426 (pc' := 43) rfl rfl rfl (by decide) rfl rfl (sf_weak sf_kn1 (by decide) (by decide)) rfl rfl (fun h432 m435 em436 T433 F434 => ?_)
        have F437 := F429.trans F434 (by decide)
        have B438 : sf_B (-1) (-1) (m435 21) := by rw [em436]; exact sf_kn1
        have W440 : rf_W [10, 12, 13, 14, 16, 17, 18, 21, 22] m m435 := by rw [em436]; exact W419.put (by decide)
        have B441 : sf_B 0 600 (m435 10) := T433.2.2.1 10
        have B442 : sf_B 0 4 (m435 17) := T433.2.2.1 17
        have B443 : sf_B 0 1 (m435 22) := T433.2.2.1 22
        refine pm_R_lo pm_M178 (pc' := 44) rfl rfl rfl ?_
        refine pm_R_op pm_M178 (pc' := 45) (st' := [.int 0, .ref 41]) rfl rfl rfl ?_
        refine rf_R_put pm_M178 T433 (pc' := 48) rfl rfl rfl (by decide) rfl rfl (sf_weak sf_k0 (by decide) (by decide)) rfl rfl (fun h444 m447 em448 T445 F446 => ?_)
        have F449 := F437.trans F446 (by decide)
        have B450 : sf_B (-1) (-1) (m447 21) := by rw [em448]; exact B438
        have B451 : sf_B 0 4 (m447 17) := by rw [em448]; exact B442
        have ek452 : (m447 17).toInt = ((m435 17)).toInt := by rw [em448]; rfl
        have B453 : sf_B 0 1 (m447 22) := by rw [em448]; exact B443
        have ek454 : (m447 22).toInt = ((m435 22)).toInt := by rw [em448]; rfl
        have B455 : sf_B 0 0 (m447 10) := by rw [em448]; exact sf_k0
        have W457 : rf_W [10, 12, 13, 14, 16, 17, 18, 21, 22] m m447 := by rw [em448]; exact W440.put (by decide)
        refine pm_R_lo pm_M178 (pc' := 49) rfl rfl rfl ?_
        refine pm_R_op pm_M178 (pc' := 50) (st' := [.int 0, .ref 41]) rfl rfl rfl ?_
        refine rf_R_put pm_M178 T445 (pc' := 53) rfl rfl rfl (by decide) rfl rfl (sf_weak sf_k0 (by decide) (by decide)) rfl rfl (fun h458 m461 em462 T459 F460 => ?_)
        have F463 := F449.trans F460 (by decide)
        have B464 : sf_B (-1) (-1) (m461 21) := by rw [em462]; exact B450
        have B465 : sf_B 0 1 (m461 22) := by rw [em462]; exact B453
        have ek466 : (m461 22).toInt = ((m435 22)).toInt := by rw [em462]; exact ek454
        have B467 : sf_B 0 0 (m461 10) := by rw [em462]; exact B455
        have ek468 : (m461 10).toInt = ((m447 10)).toInt := by rw [em462]; rfl
        have B469 : sf_B 0 0 (m461 17) := by rw [em462]; exact sf_k0
        have W471 : rf_W [10, 12, 13, 14, 16, 17, 18, 21, 22] m m461 := by rw [em462]; exact W457.put (by decide)
        refine pm_R_lo pm_M178 (pc' := 54) rfl rfl rfl ?_
        refine pm_R_cv pm_M178 (pc' := 57) (a := 41) (ra := []) (rest := []) (ls' := [.ref 41, pm_no, pm_no]) rfl rfl (Or.inl rfl) pm_M179 T459.2.1 rfl (by decide) (Nat.lt_of_lt_of_le (by decide) T459.1) rfl rfl (Nat.le_of_ble_eq_true rfl) rfl rfl ?_
        refine rf_c179 (d := d + 4) T459  (fun m474 w475 h476 T477 F478 W479 X480 X481 => ?_)
        have F482 := F463.trans F478 (by decide)
        have B483 : sf_B (-1) (-1) (m474 21) := by rw [W479 21 (by decide)]; exact B464
        have B484 : sf_B 0 1 (m474 22) := by rw [W479 22 (by decide)]; exact B465
        have ek485 : (m474 22).toInt = ((m435 22)).toInt := by rw [W479 22 (by decide)]; exact ek466
        have B486 : sf_B 0 0 (m474 17) := by rw [W479 17 (by decide)]; exact B469
        have ek487 : (m474 17).toInt = ((m461 17)).toInt := by rw [W479 17 (by decide)]
        have W488 : rf_W [10, 12, 13, 14, 16, 17, 18, 21, 22] m m474 := W471.trans W479 (by decide)
        have B489 : sf_B 0 600 (m474 10) := T477.2.2.1 10
        show pm_R _ 178 57 [.ref 41, .int 3, .int x2_416, pm_no] [] _ _
        have R490 : (m 10).toInt ≤ (m474 10).toInt := (sf_aux88 _ _ _ _ ek468 X480)
        refine pm_R_lo pm_M178 (pc' := 58) rfl rfl rfl ?_
        refine pm_R_op pm_M178 (pc' := 59) (st' := [.int 1, .int 3]) rfl rfl rfl ?_
        refine pm_R_br pm_M178 (pc' := 69) (st' := []) rfl rfl ?_
        refine pm_R_lo pm_M178 (pc' := 70) rfl rfl rfl ?_
        refine pm_R_lo pm_M178 (pc' := 71) rfl rfl rfl ?_
        refine pm_R_cv pm_M178 (pc' := 74) (a := 41) (ra := [.int 3]) (rest := []) (ls' := [.ref 41, .int 3, pm_no, pm_no, pm_no, pm_no]) rfl rfl (Or.inl rfl) pm_M186 T477.2.1 rfl (by decide) (Nat.lt_of_lt_of_le (by decide) T477.1) rfl rfl (Nat.le_of_ble_eq_true rfl) rfl rfl ?_
        have e491 := (F478.cell (by decide) (F460.cell (by decide) (F446.cell (by decide) (F434.cell (by decide) e428))))
        refine rf_c186_3 (d := d + 0) T477 (⟨(upd f420 (Int32.toNatClampNeg 0) 0), e491, ct430.1, fun z => ct430.2⟩) (fun m494 w495 h496 T497 F498 W499 X500 => ?_) (fun m503 w504 h505 T506 F507 W508 X509 X510 => ?_)
        · have F511 := F482.trans F498 (by decide)
          have W512 : rf_W [10, 12, 13, 14, 16, 17, 18, 21, 22] m m494 := W488.trans W499 (by decide)
          have B513 : sf_B 0 600 (m494 10) := T497.2.2.1 10
          have B514 : sf_B 0 4 (m494 17) := T497.2.2.1 17
          have B515 : sf_B 0 1 (m494 22) := T497.2.2.1 22
          show pm_R _ 178 74 [.ref 41, .int 3, .int x2_416, pm_no] [.int 0] _ _
          have R516 : (m 10).toInt ≤ (m494 10).toInt := (sf_aux70 _ _ _ R490 X500)
          refine pm_R_lo pm_M178 (pc' := 75) (ls' := [.ref 41, .int 3, .int 0, pm_no]) (st' := []) rfl rfl rfl ?_
          refine pm_R_lo pm_M178 (pc' := 76) rfl rfl rfl ?_
          refine pm_R_op pm_M178 (pc' := 77) (st' := [.int 1, .int 3]) rfl rfl rfl ?_
          refine pm_R_br pm_M178 (pc' := 97) (st' := []) rfl rfl ?_
          refine pm_R_lo pm_M178 (pc' := 98) rfl rfl rfl ?_
          refine pm_R_op pm_M178 (pc' := 99) (st' := [.int 2, .int 3]) rfl rfl rfl ?_
          refine pm_R_br pm_M178 (pc' := 119) (st' := []) rfl rfl ?_
          refine pm_R_op pm_M178 (pc' := 120) (st' := [.int 0]) (pm_q178_1 (Nat.le_of_ble_eq_true rfl)) rfl rfl ?_
          refine pm_R_lo pm_M178 (pc' := 121) (ls' := [.ref 41, .int 3, .int 0, .int 0]) (st' := []) (pm_q178_1 (Nat.le_of_ble_eq_true rfl)) rfl rfl ?_
          refine pm_R_lo pm_M178 (pc' := 122) (pm_q178_1 (Nat.le_of_ble_eq_true rfl)) rfl rfl ?_
          refine pm_R_br pm_M178 (pc' := 145) (st' := []) (pm_q178_1 (Nat.le_of_ble_eq_true rfl)) rfl ?_
          refine pm_R_lo pm_M178 (pc' := 146) (pm_q178_1 (Nat.le_of_ble_eq_true rfl)) rfl rfl ?_
          refine rf_R_get pm_M178 T497 (pc' := 149) (v := .ref 44) (pm_q178_1 (Nat.le_of_ble_eq_true rfl)) rfl rfl rfl ?_
          refine pm_R_op pm_M178 (pc' := 150) (st' := [.int 0, .ref 44]) (pm_q178_1 (Nat.le_of_ble_eq_true rfl)) rfl rfl ?_
          refine pm_R_lo pm_M178 (pc' := 151) (pm_q178_1 (Nat.le_of_ble_eq_true rfl)) rfl rfl ?_
          refine pm_R_br pm_M178 (pc' := 161) (st' := [.int 0, .ref 44]) (pm_q178_1 (Nat.le_of_ble_eq_true rfl)) rfl ?_
          refine pm_R_op pm_M178 (pc' := 162) (st' := [.int 1, .int 0, .ref 44]) (pm_q178_1 (Nat.le_of_ble_eq_true rfl)) rfl rfl ?_
          obtain ⟨f517, e518, b519⟩ := T497.2.2.2.1 44 (by decide) (by decide)
          refine rf_R_ist2 pm_M178 T497 (pc' := 163) (pm_q178_1 (Nat.le_of_ble_eq_true rfl)) e518 (by decide) (by decide) rfl ⟨_, rfl, sf_upd b519 (sf_weak sf_k1 (by decide) (by decide)) _⟩ rfl (fun h520 T521 F522 e523 => ?_)
          have F524 := F511.trans F522 (by decide)
          refine pm_R_lo pm_M178 (pc' := 164) (pm_q178_1 (Nat.le_of_ble_eq_true rfl)) rfl rfl ?_
          refine rf_R_get pm_M178 T521 (pc' := 167) (v := .ref 45) (pm_q178_1 (Nat.le_of_ble_eq_true rfl)) rfl rfl rfl ?_
          refine pm_R_op pm_M178 (pc' := 168) (st' := [.int 0, .ref 45]) (pm_q178_1 (Nat.le_of_ble_eq_true rfl)) rfl rfl ?_
          refine pm_R_lo pm_M178 (pc' := 169) (pm_q178_1 (Nat.le_of_ble_eq_true rfl)) rfl rfl ?_
          refine pm_R_br pm_M178 (pc' := 172) (st' := [.int 0, .ref 45]) (pm_q178_1 (Nat.le_of_ble_eq_true rfl)) rfl ?_
          refine pm_R_lo pm_M178 (pc' := 173) (pm_q178_1 (Nat.le_of_ble_eq_true rfl)) rfl rfl ?_
          have B525 : sf_B 0 600 (m494 16) := T521.2.2.1 16
          refine rf_R_get pm_M178 T521 (pc' := 176) (v := .int (m494 16)) (pm_q178_1 (Nat.le_of_ble_eq_true rfl)) rfl rfl rfl ?_
          refine pm_R_br pm_M178 (pc' := 194) (pm_q178_1 (Nat.le_of_ble_eq_true rfl)) rfl ?_
          obtain ⟨f526, e527, b528⟩ := T521.2.2.2.1 45 (by decide) (by decide)
          refine rf_R_ist2 pm_M178 T521 (pc' := 195) (pm_q178_1 (Nat.le_of_ble_eq_true rfl)) e527 (by decide) (by decide) rfl ⟨_, rfl, sf_upd b528 (sf_weak B525 (by decide) (by decide)) _⟩ rfl (fun h529 T530 F531 e532 => ?_)
          have F533 := F524.trans F531 (by decide)
          refine pm_R_lo pm_M178 (pc' := 196) (pm_q178_1 (Nat.le_of_ble_eq_true rfl)) rfl rfl ?_
          refine rf_R_get pm_M178 T530 (pc' := 199) (v := .ref 44) (pm_q178_1 (Nat.le_of_ble_eq_true rfl)) rfl rfl rfl ?_
          refine pm_R_op pm_M178 (pc' := 200) (st' := [.int 0, .ref 44]) (pm_q178_1 (Nat.le_of_ble_eq_true rfl)) rfl rfl ?_
          have e534 := (F531.cell (by decide) e523)
          refine pm_R_iald pm_M178 (pc' := 201) (v := 1) (pm_q178_1 (Nat.le_of_ble_eq_true rfl)) e534 (Nat.lt_of_lt_of_le (by decide) T530.1) rfl sf_upd_eq rfl ?_
          refine pm_R_br pm_M178 (pc' := 208) (st' := []) (pm_q178_1 (Nat.le_of_ble_eq_true rfl)) rfl ?_
          refine pm_R_op pm_M178 (pc' := 209) (st' := [.int 0]) (pm_q178_1 (Nat.le_of_ble_eq_true rfl)) rfl rfl ?_
          exact pm_R_ret pm_M178 (r := some (.int 0)) (pm_q178_1 (Nat.le_of_ble_eq_true rfl)) rfl (K0 m494 w495 h529 T530 F533 W512)
        · have F537 := F482.trans F507 (by decide)
          have W538 : rf_W [10, 12, 13, 14, 16, 17, 18, 21, 22] m m503 := W488.trans W508 (by decide)
          have B539 : sf_B 0 600 (m503 10) := T506.2.2.1 10
          have B540 : sf_B 0 4 (m503 17) := T506.2.2.1 17
          have B541 : sf_B 0 1 (m503 22) := T506.2.2.1 22
          show pm_R _ 178 74 [.ref 41, .int 3, .int x2_416, pm_no] [.int 1] _ _
          have R542 : (m 10).toInt ≤ (m503 10).toInt := (sf_aux70 _ _ _ R490 X510)
          obtain ⟨f543, e544, ct545, bd546⟩ := X509
          refine pm_R_lo pm_M178 (pc' := 75) (ls' := [.ref 41, .int 3, .int 1, pm_no]) (st' := []) rfl rfl rfl ?_
          refine pm_R_lo pm_M178 (pc' := 76) rfl rfl rfl ?_
          refine pm_R_op pm_M178 (pc' := 77) (st' := [.int 1, .int 3]) rfl rfl rfl ?_
          refine pm_R_br pm_M178 (pc' := 97) (st' := []) rfl rfl ?_
          refine pm_R_lo pm_M178 (pc' := 98) rfl rfl rfl ?_
          refine pm_R_op pm_M178 (pc' := 99) (st' := [.int 2, .int 3]) rfl rfl rfl ?_
          refine pm_R_br pm_M178 (pc' := 119) (st' := []) rfl rfl ?_
          refine pm_R_op pm_M178 (pc' := 120) (st' := [.int 0]) (pm_q178_1 (Nat.le_of_ble_eq_true rfl)) rfl rfl ?_
          refine pm_R_lo pm_M178 (pc' := 121) (ls' := [.ref 41, .int 3, .int 1, .int 0]) (st' := []) (pm_q178_1 (Nat.le_of_ble_eq_true rfl)) rfl rfl ?_
          refine pm_R_lo pm_M178 (pc' := 122) (pm_q178_1 (Nat.le_of_ble_eq_true rfl)) rfl rfl ?_
          refine pm_R_br pm_M178 (pc' := 125) (st' := []) (pm_q178_1 (Nat.le_of_ble_eq_true rfl)) rfl ?_
          refine pm_R_lo pm_M178 (pc' := 126) (pm_q178_1 (Nat.le_of_ble_eq_true rfl)) rfl rfl ?_
          refine rf_R_get pm_M178 T506 (pc' := 129) (v := .int (m503 17)) (pm_q178_1 (Nat.le_of_ble_eq_true rfl)) rfl rfl rfl ?_
          refine pm_R_ifc pm_M178 (t := 145) (pc' := 132) (pm_q178_1 (Nat.le_of_ble_eq_true rfl)) rfl rfl (fun c547 => ?_) (fun c547 => ?_)
          · have B548 : sf_B 1 4 (m503 17) := sf_neL0 c547 sf_k0 B540
            refine pm_R_lo pm_M178 (pc' := 146) (pm_q178_1 (Nat.le_of_ble_eq_true rfl)) rfl rfl ?_
            refine rf_R_get pm_M178 T506 (pc' := 149) (v := .ref 44) (pm_q178_1 (Nat.le_of_ble_eq_true rfl)) rfl rfl rfl ?_
            refine pm_R_op pm_M178 (pc' := 150) (st' := [.int 0, .ref 44]) (pm_q178_1 (Nat.le_of_ble_eq_true rfl)) rfl rfl ?_
            refine pm_R_lo pm_M178 (pc' := 151) (pm_q178_1 (Nat.le_of_ble_eq_true rfl)) rfl rfl ?_
            refine pm_R_br pm_M178 (pc' := 154) (st' := [.int 0, .ref 44]) (pm_q178_1 (Nat.le_of_ble_eq_true rfl)) rfl ?_
            refine pm_R_lo pm_M178 (pc' := 155) (pm_q178_1 (Nat.le_of_ble_eq_true rfl)) rfl rfl ?_
            refine rf_R_get pm_M178 T506 (pc' := 158) (v := .int (m503 17)) (pm_q178_1 (Nat.le_of_ble_eq_true rfl)) rfl rfl rfl ?_
            refine pm_R_br pm_M178 (pc' := 162) (pm_q178_1 (Nat.le_of_ble_eq_true rfl)) rfl ?_
            obtain ⟨f549, e550, b551⟩ := T506.2.2.2.1 44 (by decide) (by decide)
            refine rf_R_ist2 pm_M178 T506 (pc' := 163) (pm_q178_1 (Nat.le_of_ble_eq_true rfl)) e550 (by decide) (by decide) rfl ⟨_, rfl, sf_upd b551 (sf_weak B548 (by decide) (by decide)) _⟩ rfl (fun h552 T553 F554 e555 => ?_)
            have F556 := F537.trans F554 (by decide)
            refine pm_R_lo pm_M178 (pc' := 164) (pm_q178_1 (Nat.le_of_ble_eq_true rfl)) rfl rfl ?_
            refine rf_R_get pm_M178 T553 (pc' := 167) (v := .ref 45) (pm_q178_1 (Nat.le_of_ble_eq_true rfl)) rfl rfl rfl ?_
            refine pm_R_op pm_M178 (pc' := 168) (st' := [.int 0, .ref 45]) (pm_q178_1 (Nat.le_of_ble_eq_true rfl)) rfl rfl ?_
            refine pm_R_lo pm_M178 (pc' := 169) (pm_q178_1 (Nat.le_of_ble_eq_true rfl)) rfl rfl ?_
            refine pm_R_br pm_M178 (pc' := 179) (st' := [.int 0, .ref 45]) (pm_q178_1 (Nat.le_of_ble_eq_true rfl)) rfl ?_
            refine pm_R_lo pm_M178 (pc' := 180) (pm_q178_1 (Nat.le_of_ble_eq_true rfl)) rfl rfl ?_
            refine rf_R_get pm_M178 T553 (pc' := 183) (v := .int (m503 17)) (pm_q178_1 (Nat.le_of_ble_eq_true rfl)) rfl rfl rfl ?_
            refine pm_R_ifc pm_M178 (t := 193) (pc' := 186) (pm_q178_1 (Nat.le_of_ble_eq_true rfl)) rfl rfl (fun c557 => absurd c557 (sf_nle B548 sf_k0 (by decide))) (fun c557 => ?_)
            skip
            refine pm_R_lo pm_M178 (pc' := 187) (pm_q178_1 (Nat.le_of_ble_eq_true rfl)) rfl rfl ?_
            have B558 : sf_B 0 600 (m503 18) := T553.2.2.1 18
            refine rf_R_get pm_M178 T553 (pc' := 190) (v := .int (m503 18)) (pm_q178_1 (Nat.le_of_ble_eq_true rfl)) rfl rfl rfl ?_
            refine pm_R_br pm_M178 (pc' := 194) (pm_q178_1 (Nat.le_of_ble_eq_true rfl)) rfl ?_
            obtain ⟨f559, e560, b561⟩ := T553.2.2.2.1 45 (by decide) (by decide)
            refine rf_R_ist2 pm_M178 T553 (pc' := 195) (pm_q178_1 (Nat.le_of_ble_eq_true rfl)) e560 (by decide) (by decide) rfl ⟨_, rfl, sf_upd b561 (sf_weak B558 (by decide) (by decide)) _⟩ rfl (fun h562 T563 F564 e565 => ?_)
            have F566 := F556.trans F564 (by decide)
            refine pm_R_lo pm_M178 (pc' := 196) (pm_q178_1 (Nat.le_of_ble_eq_true rfl)) rfl rfl ?_
            refine rf_R_get pm_M178 T563 (pc' := 199) (v := .ref 44) (pm_q178_1 (Nat.le_of_ble_eq_true rfl)) rfl rfl rfl ?_
            refine pm_R_op pm_M178 (pc' := 200) (st' := [.int 0, .ref 44]) (pm_q178_1 (Nat.le_of_ble_eq_true rfl)) rfl rfl ?_
            have e567 := (F564.cell (by decide) e555)
            refine pm_R_iald pm_M178 (pc' := 201) (v := (m503 17)) (pm_q178_1 (Nat.le_of_ble_eq_true rfl)) e567 (Nat.lt_of_lt_of_le (by decide) T563.1) rfl sf_upd_eq rfl ?_
            refine pm_R_ifc pm_M178 (t := 208) (pc' := 204) (pm_q178_1 (Nat.le_of_ble_eq_true rfl)) rfl rfl (fun c570 => ?_) (fun c570 => absurd (Classical.not_not.mp c570) (sf_neq1 B548 sf_k0 (by decide)))
            skip
            refine pm_R_op pm_M178 (pc' := 209) (st' := [.int 0]) (pm_q178_1 (Nat.le_of_ble_eq_true rfl)) rfl rfl ?_
            exact pm_R_ret pm_M178 (r := some (.int 0)) (pm_q178_1 (Nat.le_of_ble_eq_true rfl)) rfl (K0 m503 w504 h562 T563 F566 W538)
          · have B571 : sf_B 0 0 (m503 17) := sf_eqL (Classical.not_not.mp c547) sf_k0
            refine pm_R_lo pm_M178 (pc' := 133) (pm_q178_1 (Nat.le_of_ble_eq_true rfl)) rfl rfl ?_
            refine pm_R_br pm_M178 (pc' := 145) (st' := []) (pm_q178_1 (Nat.le_of_ble_eq_true rfl)) rfl ?_
            refine pm_R_lo pm_M178 (pc' := 146) (pm_q178_1 (Nat.le_of_ble_eq_true rfl)) rfl rfl ?_
            refine rf_R_get pm_M178 T506 (pc' := 149) (v := .ref 44) (pm_q178_1 (Nat.le_of_ble_eq_true rfl)) rfl rfl rfl ?_
            refine pm_R_op pm_M178 (pc' := 150) (st' := [.int 0, .ref 44]) (pm_q178_1 (Nat.le_of_ble_eq_true rfl)) rfl rfl ?_
            refine pm_R_lo pm_M178 (pc' := 151) (pm_q178_1 (Nat.le_of_ble_eq_true rfl)) rfl rfl ?_
            refine pm_R_br pm_M178 (pc' := 154) (st' := [.int 0, .ref 44]) (pm_q178_1 (Nat.le_of_ble_eq_true rfl)) rfl ?_
            refine pm_R_lo pm_M178 (pc' := 155) (pm_q178_1 (Nat.le_of_ble_eq_true rfl)) rfl rfl ?_
            refine rf_R_get pm_M178 T506 (pc' := 158) (v := .int (m503 17)) (pm_q178_1 (Nat.le_of_ble_eq_true rfl)) rfl rfl rfl ?_
            refine pm_R_br pm_M178 (pc' := 162) (pm_q178_1 (Nat.le_of_ble_eq_true rfl)) rfl ?_
            obtain ⟨f572, e573, b574⟩ := T506.2.2.2.1 44 (by decide) (by decide)
            refine rf_R_ist2 pm_M178 T506 (pc' := 163) (pm_q178_1 (Nat.le_of_ble_eq_true rfl)) e573 (by decide) (by decide) rfl ⟨_, rfl, sf_upd b574 (sf_weak B571 (by decide) (by decide)) _⟩ rfl (fun h575 T576 F577 e578 => ?_)
            have F579 := F537.trans F577 (by decide)
            refine pm_R_lo pm_M178 (pc' := 164) (pm_q178_1 (Nat.le_of_ble_eq_true rfl)) rfl rfl ?_
            refine rf_R_get pm_M178 T576 (pc' := 167) (v := .ref 45) (pm_q178_1 (Nat.le_of_ble_eq_true rfl)) rfl rfl rfl ?_
            refine pm_R_op pm_M178 (pc' := 168) (st' := [.int 0, .ref 45]) (pm_q178_1 (Nat.le_of_ble_eq_true rfl)) rfl rfl ?_
            refine pm_R_lo pm_M178 (pc' := 169) (pm_q178_1 (Nat.le_of_ble_eq_true rfl)) rfl rfl ?_
            refine pm_R_br pm_M178 (pc' := 179) (st' := [.int 0, .ref 45]) (pm_q178_1 (Nat.le_of_ble_eq_true rfl)) rfl ?_
            refine pm_R_lo pm_M178 (pc' := 180) (pm_q178_1 (Nat.le_of_ble_eq_true rfl)) rfl rfl ?_
            refine rf_R_get pm_M178 T576 (pc' := 183) (v := .int (m503 17)) (pm_q178_1 (Nat.le_of_ble_eq_true rfl)) rfl rfl rfl ?_
            refine pm_R_ifc pm_M178 (t := 193) (pc' := 186) (pm_q178_1 (Nat.le_of_ble_eq_true rfl)) rfl rfl (fun c580 => ?_) (fun c580 => absurd (Int32.not_le.mp c580) (sf_nlt sf_k0 B571 (by decide)))
            skip
            refine pm_R_op pm_M178 (pc' := 194) (st' := [.int (-1), .int 0, .ref 45]) (pm_q178_1 (Nat.le_of_ble_eq_true rfl)) rfl rfl ?_
            obtain ⟨f581, e582, b583⟩ := T576.2.2.2.1 45 (by decide) (by decide)
            refine rf_R_ist2 pm_M178 T576 (pc' := 195) (pm_q178_1 (Nat.le_of_ble_eq_true rfl)) e582 (by decide) (by decide) rfl ⟨_, rfl, sf_upd b583 (sf_weak sf_kn1 (by decide) (by decide)) _⟩ rfl (fun h584 T585 F586 e587 => ?_)
            have F588 := F579.trans F586 (by decide)
            refine pm_R_lo pm_M178 (pc' := 196) (pm_q178_1 (Nat.le_of_ble_eq_true rfl)) rfl rfl ?_
            refine rf_R_get pm_M178 T585 (pc' := 199) (v := .ref 44) (pm_q178_1 (Nat.le_of_ble_eq_true rfl)) rfl rfl rfl ?_
            refine pm_R_op pm_M178 (pc' := 200) (st' := [.int 0, .ref 44]) (pm_q178_1 (Nat.le_of_ble_eq_true rfl)) rfl rfl ?_
            have e589 := (F586.cell (by decide) e578)
            refine pm_R_iald pm_M178 (pc' := 201) (v := (m503 17)) (pm_q178_1 (Nat.le_of_ble_eq_true rfl)) e589 (Nat.lt_of_lt_of_le (by decide) T585.1) rfl sf_upd_eq rfl ?_
            refine pm_R_ifc pm_M178 (t := 208) (pc' := 204) (pm_q178_1 (Nat.le_of_ble_eq_true rfl)) rfl rfl (fun c592 => absurd (sf_pt2 B571 sf_k0) c592) (fun c592 => ?_)
            refine pm_R_op pm_M178 (pc' := 205) (st' := [.int 1]) (pm_q178_1 (Nat.le_of_ble_eq_true rfl)) rfl rfl ?_
            refine pm_R_br pm_M178 (pc' := 209) (pm_q178_1 (Nat.le_of_ble_eq_true rfl)) rfl ?_
            have e593 := (F586.cell (by decide) (F577.cell (by decide) e544))
            exact pm_R_ret pm_M178 (r := some (.int 1)) (pm_q178_1 (Nat.le_of_ble_eq_true rfl)) rfl (K1 m503 w504 h584 T585 F588 W538 ⟨f543, e593, (by have z : ((m503 17)).toInt = 0 := (sf_aux35 _ B571.1 B571.2); exact (bd546 z))⟩)
      · have B594 : sf_B 0 151 x2_416 := sf_ltL (Int32.not_le.mp c423) Bx2_416 sf_k152
        refine pm_R_lo pm_M178 (pc' := 10) rfl rfl rfl ?_
        refine rf_R_get pm_M178 T_416 (pc' := 13) (v := .ref 51) rfl rfl rfl rfl ?_
        refine pm_R_lo pm_M178 (pc' := 14) rfl rfl rfl ?_
        refine pm_R_op pm_M178 (pc' := 15) (st' := [.int 0, .int x2_416, .ref 51]) rfl rfl rfl ?_
        refine rf_R_ist pm_M178 T_416 (pc' := 16) rfl e421 (by decide) (by decide) (sf_in B594 (by decide) (by decide)) ⟨_, rfl⟩ rfl (fun h595 T596 F597 e598 => ?_)
        have F599 := F_416.trans F597 (by decide)
        refine sf_R_iinc pm_M178 (pc' := 19) (ls' := fun z => [.ref 41, .int 3, .int z, pm_no]) rfl B594 rfl (by decide) (by decide) (by decide) (fun _ => rfl) rfl (fun z600 e601 B602 => ?_)
        show pm_R _ 178 19 [.ref 41, .int 3, .int z600, pm_no] [] _ _
        refine pm_R_br pm_M178 (pc' := 2) rfl rfl ?_
        exact ih_416 _ (sf_up hN_416 e601 B594 (by decide) (by decide)) h595 m_416 w_416 z600 T596 F599 W_416 (sf_weak B602 (by decide) (by decide)) ⟨(upd f420 (Int32.toNatClampNeg x2_416) 0), e598, rf_zero zz422 e601 B594 (by decide)⟩ rfl
  obtain ⟨f603, e604⟩ := T.2.2.2.1 51 (by decide) (by decide)
  exact L_416 _ h m w 0 T (rf_G.refl [41, 44, 45, 51, 52] h) (rf_W.refl _ _) (sf_weak sf_k0 (by decide) (by decide)) ⟨f603, e604, fun j hj => absurd hj (by show ¬ (j : Int) < 0; omega)⟩ rfl
