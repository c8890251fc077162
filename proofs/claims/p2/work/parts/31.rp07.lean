theorem sf_aux88 (v0 v1 v2 v3 : Int) (q0 : v0 = v1) (q1 : v0 ≤ v2) : v3 ≤ v2 := by omega
set_option maxRecDepth 100000 in
set_option maxHeartbeats 4000000 in
/-- SilentTableModel.readText -/
theorem rf_c178_0 {d : Nat} {m : Nat → Int32} {w : Int64} {h : pm_H} {Q : Option Value → pm_H → Prop}  (T : rf_T m w h)  (K0 : ∀ (m' : Nat → Int32) (w' : Int64) (h' : pm_H), rf_T m' w' h' → rf_G [41, 44, 45, 51, 52] h h' → rf_W [10, 12, 13, 14, 16, 17, 18, 21, 22] m m' → Q (some (.int 0)) h') (K1 : ∀ (m' : Nat → Int32) (w' : Int64) (h' : pm_H), rf_T m' w' h' → rf_G [41, 44, 45, 51, 52] h h' → rf_W [10, 12, 13, 14, 16, 17, 18, 21, 22] m m' → (∃ f : Nat → Int32, h'.2.2 51 = .inl (0, 152, .inl f) ∧ rf_bd 0 f) → Q (some (.int 1)) h') : pm_R (d + 6) 178 0 [.ref 41, .int 0, pm_no, pm_no] [] h Q := by
  refine pm_R_op pm_M178 (pc' := 1) (st' := [.int 0]) rfl rfl rfl ?_
  refine pm_R_lo pm_M178 (pc' := 2) (ls' := [.ref 41, .int 0, .int 0, pm_no]) (st' := []) rfl rfl rfl ?_
  have L_416 : ∀ (N : Nat) (h_416 : pm_H) (m_416 : Nat → Int32) (w_416 : Int64) (x2_416 : Int32), rf_T m_416 w_416 h_416 → rf_G [41, 44, 45, 51, 52] h h_416 → rf_W [] m m_416 → sf_B 0 152 x2_416 → (∃ f : Nat → Int32, h_416.2.2 51 = .inl (0, 152, .inl f) ∧ ∀ j : Nat, (j : Int) < x2_416.toInt → f j = 0) → (152 - x2_416.toInt).toNat = N → pm_R (d + 6) 178 2 [.ref 41, .int 0, .int x2_416, pm_no] [] h_416 Q := by
    intro N
    induction N using Nat.strongRecOn with
    | ind N ih_416 =>
      intro h_416 m_416 w_416 x2_416 T_416 F_416 W_416 Bx2_416 X_416 hN_416
      have W419 : rf_W [10, 12, 13, 14, 16, 17, 18, 21, 22] m m_416 := (rf_W.refl [10, 12, 13, 14, 16, 17, 18, 21, 22] m).trans W_416 (by decide)
      obtain ⟨f420, e421, zz422⟩ := X_416
      refine pm_R_lo pm_M178 (pc' := 3) rfl rfl rfl ?_
      refine pm_R_op pm_M178 (pc' := 6) (st' := [.int 152, .int x2_416]) rfl rfl rfl ?_
      refine pm_R_icmp pm_M178 (t := 22) (pc' := 9) rfl rfl rfl (fun c423 => ?_) (fun c423 => ?_)
      · have B424 : sf_B 152 152 x2_416 := sf_leR c423 sf_k152 Bx2_416
        refine pm_R_lo pm_M178 (pc' := 23) rfl rfl rfl ?_
        refine rf_R_get pm_M178 T_416 (pc' := 26) (v := .ref 51) rfl rfl rfl rfl ?_
        refine pm_R_op pm_M178 (pc' := 27) (st' := [.int 0, .ref 51]) rfl rfl rfl ?_
        refine pm_R_lo pm_M178 (pc' := 28) rfl rfl rfl ?_
        refine pm_R_op pm_M178 (pc' := 29) (st' := [.int 2, .int 0, .int 0, .ref 51]) rfl rfl rfl ?_
        refine pm_R_br pm_M178 (pc' := 36) (st' := [.int 0, .ref 51]) rfl rfl ?_
        refine pm_R_op pm_M178 (pc' := 37) (st' := [.int 0, .int 0, .ref 51]) rfl rfl rfl ?_
        refine rf_R_ist pm_M178 T_416 (pc' := 38) rfl e421 (by decide) (by decide) rfl ⟨_, rfl⟩ rfl (fun h425 T426 F427 e428 => ?_)
        have F429 := F_416.trans F427 (by decide)
        have ct430 : rf_ct 0 (upd f420 (Int32.toNatClampNeg 0) 0) ∧ rf_bd 0 (upd f420 (Int32.toNatClampNeg 0) 0) := rf_all0_0 (fun j hj => zz422 j (by have := Int32.le_iff_toInt_le.mp c423; have e0 : (152 : Int32).toInt = 152 := rfl; omega))
        refine pm_R_lo pm_M178 (pc' := 39) rfl rfl rfl ?_
        refine pm_R_op pm_M178 (pc' := 40) (st' := [.int (-1), .ref 41]) rfl rfl rfl ?_
        refine rf_R_put pm_M178 T426 (pc' := 43) rfl rfl rfl (by decide) rfl rfl (sf_weak sf_kn1 (by decide) (by decide)) rfl rfl (fun h432 m435 em436 T433 F434 => ?_)
        have F437 := F429.trans F434 (by decide)
        have B438 : sf_B (-1) (-1) (m435 21) := by rw [em436]; exact sf_kn1
        have W440 : rf_W [10, 12, 13, 14, 16, 17, 18, 21, 22] m m435 := by rw [em436]; exact W419.put (by decide)
        have B441 : sf_B 0 600 (m435 10) := T433.2.2.1 10
        have B442 : sf_B 0 4 (m435 17) := T433.2.2.1 17
        have B443 : sf_B 0 1 (m435 22) := T433.2.2.1 22
        refine pm_R_lo pm_M178 (pc' := 44) rfl rfl rfl ?_
        refine pm_R_op pm_M178 (pc' := 45) (st' := [.int 0, .ref 41]) rfl rfl rfl ?_
        refine rf_R_put pm_M178 T433 (pc' := 48) rfl rfl rfl (by decide) rfl rfl (sf_weak sf_k0 (by decide) (by decide)) rfl rfl (fun h444 m447 em448 T445 F446 => ?_)
        have F449 := F437.trans F446 (by decide)
        have B450 : sf_B (-1) (-1) (m447 21) := by rw [em448]; exact B438
        have B451 : sf_B 0 4 (m447 17) := by rw [em448]; exact B442
        have ek452 : (m447 17).toInt = ((m435 17)).toInt := by rw [em448]; rfl
        have B453 : sf_B 0 1 (m447 22) := by rw [em448]; exact B443
        have ek454 : (m447 22).toInt = ((m435 22)).toInt := by rw [em448]; rfl
        have B455 : sf_B 0 0 (m447 10) := by rw [em448]; exact sf_k0
        have W457 : rf_W [10, 12, 13, 14, 16, 17, 18, 21, 22] m m447 := by rw [em448]; exact W440.put (by decide)
        refine pm_R_lo pm_M178 (pc' := 49) rfl rfl rfl ?_
        refine pm_R_op pm_M178 (pc' := 50) (st' := [.int 0, .ref 41]) rfl rfl rfl ?_
        refine rf_R_put pm_M178 T445 (pc' := 53) rfl rfl rfl (by decide) rfl rfl (sf_weak sf_k0 (by decide) (by decide)) rfl rfl (fun h458 m461 em462 T459 F460 => ?_)
        have F463 := F449.trans F460 (by decide)
        have B464 : sf_B (-1) (-1) (m461 21) := by rw [em462]; exact B450
        have B465 : sf_B 0 1 (m461 22) := by rw [em462]; exact B453
        have ek466 : (m461 22).toInt = ((m435 22)).toInt := by rw [em462]; exact ek454
        have B467 : sf_B 0 0 (m461 10) := by rw [em462]; exact B455
        have ek468 : (m461 10).toInt = ((m447 10)).toInt := by rw [em462]; rfl
        have B469 : sf_B 0 0 (m461 17) := by rw [em462]; exact sf_k0
        have W471 : rf_W [10, 12, 13, 14, 16, 17, 18, 21, 22] m m461 := by rw [em462]; exact W457.put (by decide)
        refine pm_R_lo pm_M178 (pc' := 54) rfl rfl rfl ?_
        refine pm_R_cv pm_M178 (pc' := 57) (a := 41) (ra := []) (rest := []) (ls' := [.ref 41, pm_no, pm_no]) rfl rfl (Or.inl rfl) pm_M179 T459.2.1 rfl (by decide) (Nat.lt_of_lt_of_le (by decide) T459.1) rfl rfl (Nat.le_of_ble_eq_true rfl) rfl rfl ?_
        refine rf_c179 (d := d + 4) T459  (fun m474 w475 h476 T477 F478 W479 X480 X481 => ?_)
        have F482 := F463.trans F478 (by decide)
        have B483 : sf_B (-1) (-1) (m474 21) := by rw [W479 21 (by decide)]; exact B464
        have B484 : sf_B 0 1 (m474 22) := by rw [W479 22 (by decide)]; exact B465
        have ek485 : (m474 22).toInt = ((m435 22)).toInt := by rw [W479 22 (by decide)]; exact ek466
        have B486 : sf_B 0 0 (m474 17) := by rw [W479 17 (by decide)]; exact B469
        have ek487 : (m474 17).toInt = ((m461 17)).toInt := by rw [W479 17 (by decide)]
        have W488 : rf_W [10, 12, 13, 14, 16, 17, 18, 21, 22] m m474 := W471.trans W479 (by decide)
        have B489 : sf_B 0 600 (m474 10) := T477.2.2.1 10
        show pm_R _ 178 57 [.ref 41, .int 0, .int x2_416, pm_no] [] _ _
        have R490 : (m 10).toInt ≤ (m474 10).toInt := (sf_aux88 _ _ _ _ ek468 X480)
        refine pm_R_lo pm_M178 (pc' := 58) rfl rfl rfl ?_
        refine pm_R_op pm_M178 (pc' := 59) (st' := [.int 1, .int 0]) rfl rfl rfl ?_
        refine pm_R_br pm_M178 (pc' := 69) (st' := []) rfl rfl ?_
        refine pm_R_lo pm_M178 (pc' := 70) rfl rfl rfl ?_
        refine pm_R_lo pm_M178 (pc' := 71) rfl rfl rfl ?_
        refine pm_R_cv pm_M178 (pc' := 74) (a := 41) (ra := [.int 0]) (rest := []) (ls' := [.ref 41, .int 0, pm_no, pm_no, pm_no, pm_no]) rfl rfl (Or.inl rfl) pm_M186 T477.2.1 rfl (by decide) (Nat.lt_of_lt_of_le (by decide) T477.1) rfl rfl (Nat.le_of_ble_eq_true rfl) rfl rfl ?_
        have e491 := (F478.cell (by decide) (F460.cell (by decide) (F446.cell (by decide) (F434.cell (by decide) e428))))
        refine rf_c186_0 (d := d + 0) T477 (⟨(upd f420 (Int32.toNatClampNeg 0) 0), e491, ct430.1, fun z => ct430.2⟩) (fun m494 w495 h496 T497 F498 W499 X500 => ?_) (fun m503 w504 h505 T506 F507 W508 X509 X510 => ?_)
        · have F511 := F482.trans F498 (by decide)
          have W512 : rf_W [10, 12, 13, 14, 16, 17, 18, 21, 22] m m494 := W488.trans W499 (by decide)
          have B513 : sf_B 0 600 (m494 10) := T497.2.2.1 10
          have B514 : sf_B 0 4 (m494 17) := T497.2.2.1 17
          have B515 : sf_B 0 1 (m494 22) := T497.2.2.1 22
          show pm_R _ 178 74 [.ref 41, .int 0, .int x2_416, pm_no] [.int 0] _ _
          have R516 : (m 10).toInt ≤ (m494 10).toInt := (sf_aux70 _ _ _ R490 X500)
          refine pm_R_lo pm_M178 (pc' := 75) (ls' := [.ref 41, .int 0, .int 0, pm_no]) (st' := []) rfl rfl rfl ?_
          refine pm_R_lo pm_M178 (pc' := 76) rfl rfl rfl ?_
          refine pm_R_op pm_M178 (pc' := 77) (st' := [.int 1, .int 0]) rfl rfl rfl ?_
          refine pm_R_br pm_M178 (pc' := 97) (st' := []) rfl rfl ?_
          refine pm_R_lo pm_M178 (pc' := 98) rfl rfl rfl ?_
          refine pm_R_op pm_M178 (pc' := 99) (st' := [.int 2, .int 0]) rfl rfl rfl ?_
          refine pm_R_br pm_M178 (pc' := 119) (st' := []) rfl rfl ?_
          refine pm_R_op pm_M178 (pc' := 120) (st' := [.int 0]) (pm_q178_1 (Nat.le_of_ble_eq_true rfl)) rfl rfl ?_
          refine pm_R_lo pm_M178 (pc' := 121) (ls' := [.ref 41, .int 0, .int 0, .int 0]) (st' := []) (pm_q178_1 (Nat.le_of_ble_eq_true rfl)) rfl rfl ?_
          refine pm_R_lo pm_M178 (pc' := 122) (pm_q178_1 (Nat.le_of_ble_eq_true rfl)) rfl rfl ?_
          refine pm_R_br pm_M178 (pc' := 145) (st' := []) (pm_q178_1 (Nat.le_of_ble_eq_true rfl)) rfl ?_
          refine pm_R_lo pm_M178 (pc' := 146) (pm_q178_1 (Nat.le_of_ble_eq_true rfl)) rfl rfl ?_
          refine rf_R_get pm_M178 T497 (pc' := 149) (v := .ref 44) (pm_q178_1 (Nat.le_of_ble_eq_true rfl)) rfl rfl rfl ?_
          refine pm_R_op pm_M178 (pc' := 150) (st' := [.int 0, .ref 44]) (pm_q178_1 (Nat.le_of_ble_eq_true rfl)) rfl rfl ?_
          refine pm_R_lo pm_M178 (pc' := 151) (pm_q178_1 (Nat.le_of_ble_eq_true rfl)) rfl rfl ?_
          refine pm_R_br pm_M178 (pc' := 161) (st' := [.int 0, .ref 44]) (pm_q178_1 (Nat.le_of_ble_eq_true rfl)) rfl ?_
          refine pm_R_op pm_M178 (pc' := 162) (st' := [.int 1, .int 0, .ref 44]) (pm_q178_1 (Nat.le_of_ble_eq_true rfl)) rfl rfl ?_
          obtain ⟨f517, e518, b519⟩ := T497.2.2.2.1 44 (by decide) (by decide)
          refine rf_R_ist2 pm_M178 T497 (pc' := 163) (pm_q178_1 (Nat.le_of_ble_eq_true rfl)) e518 (by decide) (by decide) rfl ⟨_, rfl, sf_upd b519 (sf_weak sf_k1 (by decide) (by decide)) _⟩ rfl (fun h520 T521 F522 e523 => ?_)
          have F524 := F511.trans F522 (by decide)
          refine pm_R_lo pm_M178 (pc' := 164) (pm_q178_1 (Nat.le_of_ble_eq_true rfl)) rfl rfl ?_
          refine rf_R_get pm_M178 T521 (pc' := 167) (v := .ref 45) (pm_q178_1 (Nat.le_of_ble_eq_true rfl)) rfl rfl rfl ?_
          refine pm_R_op pm_M178 (pc' := 168) (st' := [.int 0, .ref 45]) (pm_q178_1 (Nat.le_of_ble_eq_true rfl)) rfl rfl ?_
          refine pm_R_lo pm_M178 (pc' := 169) (pm_q178_1 (Nat.le_of_ble_eq_true rfl)) rfl rfl ?_
          refine pm_R_br pm_M178 (pc' := 172) (st' := [.int 0, .ref 45]) (pm_q178_1 (Nat.le_of_ble_eq_true rfl)) rfl ?_
          refine pm_R_lo pm_M178 (pc' := 173) (pm_q178_1 (Nat.le_of_ble_eq_true rfl)) rfl rfl ?_
          have B525 : sf_B 0 600 (m494 16) := T521.2.2.1 16
          refine rf_R_get pm_M178 T521 (pc' := 176) (v := .int (m494 16)) (pm_q178_1 (Nat.le_of_ble_eq_true rfl)) rfl rfl rfl ?_
          refine pm_R_br pm_M178 (pc' := 194) (pm_q178_1 (Nat.le_of_ble_eq_true rfl)) rfl ?_
          obtain ⟨f526, e527, b528⟩ := T521.2.2.2.1 45 (by decide) (by decide)
          refine rf_R_ist2 pm_M178 T521 (pc' := 195) (pm_q178_1 (Nat.le_of_ble_eq_true rfl)) e527 (by decide) (by decide) rfl ⟨_, rfl, sf_upd b528 (sf_weak B525 (by decide) (by decide)) _⟩ rfl (fun h529 T530 F531 e532 => ?_)
          have F533 := F524.trans F531 (by decide)
          refine pm_R_lo pm_M178 (pc' := 196) (pm_q178_1 (Nat.le_of_ble_eq_true rfl)) rfl rfl ?_
          refine rf_R_get pm_M178 T530 (pc' := 199) (v := .ref 44) (pm_q178_1 (Nat.le_of_ble_eq_true rfl)) rfl rfl rfl ?_
          refine pm_R_op pm_M178 (pc' := 200) (st' := [.int 0, .ref 44]) (pm_q178_1 (Nat.le_of_ble_eq_true rfl)) rfl rfl ?_
          have e534 := (F531.cell (by decide) e523)
          refine pm_R_iald pm_M178 (pc' := 201) (v := 1) (pm_q178_1 (Nat.le_of_ble_eq_true rfl)) e534 (Nat.lt_of_lt_of_le (by decide) T530.1) rfl sf_upd_eq rfl ?_
          refine pm_R_br pm_M178 (pc' := 208) (st' := []) (pm_q178_1 (Nat.le_of_ble_eq_true rfl)) rfl ?_
          refine pm_R_op pm_M178 (pc' := 209) (st' := [.int 0]) (pm_q178_1 (Nat.le_of_ble_eq_true rfl)) rfl rfl ?_
          exact pm_R_ret pm_M178 (r := some (.int 0)) (pm_q178_1 (Nat.le_of_ble_eq_true rfl)) rfl (K0 m494 w495 h529 T530 F533 W512)
        · have F537 := F482.trans F507 (by decide)
          have W538 : rf_W [10, 12, 13, 14, 16, 17, 18, 21, 22] m m503 := W488.trans W508 (by decide)
          have B539 : sf_B 0 600 (m503 10) := T506.2.2.1 10
          have B540 : sf_B 0 4 (m503 17) := T506.2.2.1 17
          have B541 : sf_B 0 1 (m503 22) := T506.2.2.1 22
          show pm_R _ 178 74 [.ref 41, .int 0, .int x2_416, pm_no] [.int 1] _ _
          have R542 : (m 10).toInt ≤ (m503 10).toInt := (sf_aux70 _ _ _ R490 X510)
          obtain ⟨f543, e544, ct545, bd546⟩ := X509
          refine pm_R_lo pm_M178 (pc' := 75) (ls' := [.ref 41, .int 0, .int 1, pm_no]) (st' := []) rfl rfl rfl ?_
          refine pm_R_lo pm_M178 (pc' := 76) rfl rfl rfl ?_
          refine pm_R_op pm_M178 (pc' := 77) (st' := [.int 1, .int 0]) rfl rfl rfl ?_
          refine pm_R_br pm_M178 (pc' := 97) (st' := []) rfl rfl ?_
          refine pm_R_lo pm_M178 (pc' := 98) rfl rfl rfl ?_
          refine pm_R_op pm_M178 (pc' := 99) (st' := [.int 2, .int 0]) rfl rfl rfl ?_
          refine pm_R_br pm_M178 (pc' := 119) (st' := []) rfl rfl ?_
          refine pm_R_op pm_M178 (pc' := 120) (st' := [.int 0]) (pm_q178_1 (Nat.le_of_ble_eq_true rfl)) rfl rfl ?_
          refine pm_R_lo pm_M178 (pc' := 121) (ls' := [.ref 41, .int 0, .int 1, .int 0]) (st' := []) (pm_q178_1 (Nat.le_of_ble_eq_true rfl)) rfl rfl ?_
          refine pm_R_lo pm_M178 (pc' := 122) (pm_q178_1 (Nat.le_of_ble_eq_true rfl)) rfl rfl ?_
          refine pm_R_br pm_M178 (pc' := 125) (st' := []) (pm_q178_1 (Nat.le_of_ble_eq_true rfl)) rfl ?_
          refine pm_R_lo pm_M178 (pc' := 126) (pm_q178_1 (Nat.le_of_ble_eq_true rfl)) rfl rfl ?_
          refine rf_R_get pm_M178 T506 (pc' := 129) (v := .int (m503 17)) (pm_q178_1 (Nat.le_of_ble_eq_true rfl)) rfl rfl rfl ?_
          refine pm_R_ifc pm_M178 (t := 145) (pc' := 132) (pm_q178_1 (Nat.le_of_ble_eq_true rfl)) rfl rfl (fun c547 => ?_) (fun c547 => ?_)
          · have B548 : sf_B 1 4 (m503 17) := sf_neL0 c547 sf_k0 B540
            refine pm_R_lo pm_M178 (pc' := 146) (pm_q178_1 (Nat.le_of_ble_eq_true rfl)) rfl rfl ?_
            refine rf_R_get pm_M178 T506 (pc' := 149) (v := .ref 44) (pm_q178_1 (Nat.le_of_ble_eq_true rfl)) rfl rfl rfl ?_
            refine pm_R_op pm_M178 (pc' := 150) (st' := [.int 0, .ref 44]) (pm_q178_1 (Nat.le_of_ble_eq_true rfl)) rfl rfl ?_
            refine pm_R_lo pm_M178 (pc' := 151) (pm_q178_1 (Nat.le_of_ble_eq_true rfl)) rfl rfl ?_
            refine pm_R_br pm_M178 (pc' := 154) (st' := [.int 0, .ref 44]) (pm_q178_1 (Nat.le_of_ble_eq_true rfl)) rfl ?_
            refine pm_R_lo pm_M178 (pc' := 155) (pm_q178_1 (Nat.le_of_ble_eq_true rfl)) rfl rfl ?_
            refine rf_R_get pm_M178 T506 (pc' := 158) (v := .int (m503 17)) (pm_q178_1 (Nat.le_of_ble_eq_true rfl)) rfl rfl rfl ?_
            refine pm_R_br pm_M178 (pc' := 162) (pm_q178_1 (Nat.le_of_ble_eq_true rfl)) rfl ?_
            obtain ⟨f549, e550, b551⟩ := T506.2.2.2.1 44 (by decide) (by decide)
            refine rf_R_ist2 pm_M178 T506 (pc' := 163) (pm_q178_1 (Nat.le_of_ble_eq_true rfl)) e550 (by decide) (by decide) rfl ⟨_, rfl, sf_upd b551 (sf_weak B548 (by decide) (by decide)) _⟩ rfl (fun h552 T553 F554 e555 => ?_)
            have F556 := F537.trans F554 (by decide)
            refine pm_R_lo pm_M178 (pc' := 164) (pm_q178_1 (Nat.le_of_ble_eq_true rfl)) rfl rfl ?_
            refine rf_R_get pm_M178 T553 (pc' := 167) (v := .ref 45) (pm_q178_1 (Nat.le_of_ble_eq_true rfl)) rfl rfl rfl ?_
            refine pm_R_op pm_M178 (pc' := 168) (st' := [.int 0, .ref 45]) (pm_q178_1 (Nat.le_of_ble_eq_true rfl)) rfl rfl ?_
            refine pm_R_lo pm_M178 (pc' := 169) (pm_q178_1 (Nat.le_of_ble_eq_true rfl)) rfl rfl ?_
            refine pm_R_br pm_M178 (pc' := 179) (st' := [.int 0, .ref 45]) (pm_q178_1 (Nat.le_of_ble_eq_true rfl)) rfl ?_
            refine pm_R_lo pm_M178 (pc' := 180) (pm_q178_1 (Nat.le_of_ble_eq_true rfl)) rfl rfl ?_
            refine rf_R_get pm_M178 T553 (pc' := 183) (v := .int (m503 17)) (pm_q178_1 (Nat.le_of_ble_eq_true rfl)) rfl rfl rfl ?_
            refine pm_R_ifc pm_M178 (t := 193) (pc' := 186) (pm_q178_1 (Nat.le_of_ble_eq_true rfl)) rfl rfl (fun c557 => absurd c557 (sf_nle B548 sf_k0 (by decide))) (fun c557 => ?_)
            skip
            refine pm_R_lo pm_M178 (pc' := 187) (pm_q178_1 (Nat.le_of_ble_eq_true rfl)) rfl rfl ?_
            have B558 : sf_B 0 600 (m503 18) := T553.2.2.1 18
            refine rf_R_get pm_M178 T553 (pc' := 190) (v := .int (m503 18)) (pm_q178_1 (Nat.le_of_ble_eq_true rfl)) rfl rfl rfl ?_
            refine pm_R_br pm_M178 (pc' := 194) (pm_q178_1 (Nat.le_of_ble_eq_true rfl)) rfl ?_
            obtain ⟨f559, e560, b561⟩ := T553.2.2.2.1 45 (by decide) (by decide)
            refine rf_R_ist2 pm_M178 T553 (pc' := 195) (pm_q178_1 (Nat.le_of_ble_eq_true rfl)) e560 (by decide) (by decide) rfl ⟨_, rfl, sf_upd b561 (sf_weak B558 (by decide) (by decide)) _⟩ rfl (fun h562 T563 F564 e565 => ?_)
            have F566 := F556.trans F564 (by decide)
            refine pm_R_lo pm_M178 (pc' := 196) (pm_q178_1 (Nat.le_of_ble_eq_true rfl)) rfl rfl ?_
            refine rf_R_get pm_M178 T563 (pc' := 199) (v := .ref 44) (pm_q178_1 (Nat.le_of_ble_eq_true rfl)) rfl rfl rfl ?_
            refine pm_R_op pm_M178 (pc' := 200) (st' := [.int 0, .ref 44]) (pm_q178_1 (Nat.le_of_ble_eq_true rfl)) rfl rfl ?_
            have e567 := (F564.cell (by decide) e555)
            refine pm_R_iald pm_M178 (pc' := 201) (v := (m503 17)) (pm_q178_1 (Nat.le_of_ble_eq_true rfl)) e567 (Nat.lt_of_lt_of_le (by decide) T563.1) rfl sf_upd_eq rfl ?_
            refine pm_R_ifc pm_M178 (t := 208) (pc' := 204) (pm_q178_1 (Nat.le_of_ble_eq_true rfl)) rfl rfl (fun c570 => ?_) (fun c570 => absurd (Classical.not_not.mp c570) (sf_neq1 B548 sf_k0 (by decide)))
            skip
            refine pm_R_op pm_M178 (pc' := 209) (st' := [.int 0]) (pm_q178_1 (Nat.le_of_ble_eq_true rfl)) rfl rfl ?_
            exact pm_R_ret pm_M178 (r := some (.int 0)) (pm_q178_1 (Nat.le_of_ble_eq_true rfl)) rfl (K0 m503 w504 h562 T563 F566 W538)
          · have B571 : sf_B 0 0 (m503 17) := sf_eqL (Classical.not_not.mp c547) sf_k0
            refine pm_R_lo pm_M178 (pc' := 133) (pm_q178_1 (Nat.le_of_ble_eq_true rfl)) rfl rfl ?_
            refine pm_R_br pm_M178 (pc' := 145) (st' := []) (pm_q178_1 (Nat.le_of_ble_eq_true rfl)) rfl ?_
            refine pm_R_lo pm_M178 (pc' := 146) (pm_q178_1 (Nat.le_of_ble_eq_true rfl)) rfl rfl ?_
            refine rf_R_get pm_M178 T506 (pc' := 149) (v := .ref 44) (pm_q178_1 (Nat.le_of_ble_eq_true rfl)) rfl rfl rfl ?_
            refine pm_R_op pm_M178 (pc' := 150) (st' := [.int 0, .ref 44]) (pm_q178_1 (Nat.le_of_ble_eq_true rfl)) rfl rfl ?_
            refine pm_R_lo pm_M178 (pc' := 151) (pm_q178_1 (Nat.le_of_ble_eq_true rfl)) rfl rfl ?_
            refine pm_R_br pm_M178 (pc' := 154) (st' := [.int 0, .ref 44]) (pm_q178_1 (Nat.le_of_ble_eq_true rfl)) rfl ?_
            refine pm_R_lo pm_M178 (pc' := 155) (pm_q178_1 (Nat.le_of_ble_eq_true rfl)) rfl rfl ?_
            refine rf_R_get pm_M178 T506 (pc' := 158) (v := .int (m503 17)) (pm_q178_1 (Nat.le_of_ble_eq_true rfl)) rfl rfl rfl ?_
            refine pm_R_br pm_M178 (pc' := 162) (pm_q178_1 (Nat.le_of_ble_eq_true rfl)) rfl ?_
            obtain ⟨f572, e573, b574⟩ := T506.2.2.2.1 44 (by decide) (by decide)
            refine rf_R_ist2 pm_M178 T506 (pc' := 163) (pm_q178_1 (Nat.le_of_ble_eq_true rfl)) e573 (by decide) (by decide) rfl ⟨_, rfl, sf_upd b574 (sf_weak B571 (by decide) (by decide)) _⟩ rfl (fun h575 T576 F577 e578 => ?_)
            have F579 := F537.trans F577 (by decide)
            refine pm_R_lo pm_M178 (pc' := 164) (pm_q178_1 (Nat.le_of_ble_eq_true rfl)) rfl rfl ?_
            refine rf_R_get pm_M178 T576 (pc' := 167) (v := .ref 45) (pm_q178_1 (Nat.le_of_ble_eq_true rfl)) rfl rfl rfl ?_
            refine pm_R_op pm_M178 (pc' := 168) (st' := [.int 0, .ref 45]) (pm_q178_1 (Nat.le_of_ble_eq_true rfl)) rfl rfl ?_
            refine pm_R_lo pm_M178 (pc' := 169) (pm_q178_1 (Nat.le_of_ble_eq_true rfl)) rfl rfl ?_
            refine pm_R_br pm_M178 (pc' := 179) (st' := [.int 0, .ref 45]) (pm_q178_1 (Nat.le_of_ble_eq_true rfl)) rfl ?_
            refine pm_R_lo pm_M178 (pc' := 180) (pm_q178_1 (Nat.le_of_ble_eq_true rfl)) rfl rfl ?_
            refine rf_R_get pm_M178 T576 (pc' := 183) (v := .int (m503 17)) (pm_q178_1 (Nat.le_of_ble_eq_true rfl)) rfl rfl rfl ?_
            refine pm_R_ifc pm_M178 (t := 193) (pc' := 186) (pm_q178_1 (Nat.le_of_ble_eq_true rfl)) rfl rfl (fun c580 => ?_) (fun c580 => absurd (Int32.not_le.mp c580) (sf_nlt sf_k0 B571 (by decide)))
            skip
            refine pm_R_op pm_M178 (pc' := 194) (st' := [.int (-1), .int 0, .ref 45]) (pm_q178_1 (Nat.le_of_ble_eq_true rfl)) rfl rfl ?_
            obtain ⟨f581, e582, b583⟩ := T576.2.2.2.1 45 (by decide) (by decide)
            refine rf_R_ist2 pm_M178 T576 (pc' := 195) (pm_q178_1 (Nat.le_of_ble_eq_true rfl)) e582 (by decide) (by decide) rfl ⟨_, rfl, sf_upd b583 (sf_weak sf_kn1 (by decide) (by decide)) _⟩ rfl (fun h584 T585 F586 e587 => ?_)
            have F588 := F579.trans F586 (by decide)
            refine pm_R_lo pm_M178 (pc' := 196) (pm_q178_1 (Nat.le_of_ble_eq_true rfl)) rfl rfl ?_
            refine rf_R_get pm_M178 T585 (pc' := 199) (v := .ref 44) (pm_q178_1 (Nat.le_of_ble_eq_true rfl)) rfl rfl rfl ?_
            refine pm_R_op pm_M178 (pc' := 200) (st' := [.int 0, .ref 44]) (pm_q178_1 (Nat.le_of_ble_eq_true rfl)) rfl rfl ?_
            have e589 := (F586.cell (by decide) e578)
            refine pm_R_iald pm_M178 (pc' := 201) (v := (m503 17)) (pm_q178_1 (Nat.le_of_ble_eq_true rfl)) e589 (Nat.lt_of_lt_of_le (by decide) T585.1) rfl sf_upd_eq rfl ?_
            refine pm_R_ifc pm_M178 (t := 208) (pc' := 204) (pm_q178_1 (Nat.le_of_ble_eq_true rfl)) rfl rfl (fun c592 => absurd (sf_pt2 B571 sf_k0) c592) (fun c592 => ?_)
            refine pm_R_op pm_M178 (pc' := 205) (st' := [.int 1]) (pm_q178_1 (Nat.le_of_ble_eq_true rfl)) rfl rfl ?_
            refine pm_R_br pm_M178 (pc' := 209) (pm_q178_1 (Nat.le_of_ble_eq_true rfl)) rfl ?_
            have e593 := (F586.cell (by decide) (F577.cell (by decide) e544))
            exact pm_R_ret pm_M178 (r := some (.int 1)) (pm_q178_1 (Nat.le_of_ble_eq_true rfl)) rfl (K1 m503 w504 h584 T585 F588 W538 ⟨f543, e593, (by have z : ((m503 17)).toInt = 0 := (sf_aux35 _ B571.1 B571.2); exact (bd546 z))⟩)
      · have B594 : sf_B 0 151 x2_416 := sf_ltL (Int32.not_le.mp c423) Bx2_416 sf_k152
        refine pm_R_lo pm_M178 (pc' := 10) rfl rfl rfl ?_
        refine rf_R_get pm_M178 T_416 (pc' := 13) (v := .ref 51) rfl rfl rfl rfl ?_
        refine pm_R_lo pm_M178 (pc' := 14) rfl rfl rfl ?_
        refine pm_R_op pm_M178 (pc' := 15) (st' := [.int 0, .int x2_416, .ref 51]) rfl rfl rfl ?_
        refine rf_R_ist pm_M178 T_416 (pc' := 16) rfl e421 (by decide) (by decide) (sf_in B594 (by decide) (by decide)) ⟨_, rfl⟩ rfl (fun h595 T596 F597 e598 => ?_)
        have F599 := F_416.trans F597 (by decide)
        refine sf_R_iinc pm_M178 (pc' := 19) (ls' := fun z => [.ref 41, .int 0, .int z, pm_no]) rfl B594 rfl (by decide) (by decide) (by decide) (fun _ => rfl) rfl (fun z600 e601 B602 => ?_)
        show pm_R _ 178 19 [.ref 41, .int 0, .int z600, pm_no] [] _ _
        refine pm_R_br pm_M178 (pc' := 2) rfl rfl ?_
        exact ih_416 _ (sf_up hN_416 e601 B594 (by decide) (by decide)) h595 m_416 w_416 z600 T596 F599 W_416 (sf_weak B602 (by decide) (by decide)) ⟨(upd f420 (Int32.toNatClampNeg x2_416) 0), e598, rf_zero zz422 e601 B594 (by decide)⟩ rfl
  obtain ⟨f603, e604⟩ := T.2.2.2.1 51 (by decide) (by decide)
  exact L_416 _ h m w 0 T (rf_G.refl [41, 44, 45, 51, 52] h) (rf_W.refl _ _) (sf_weak sf_k0 (by decide) (by decide)) ⟨f603, e604, fun j hj => absurd hj (by show ¬ (j : Int) < 0; omega)⟩ rfl

set_option maxRecDepth 100000 in
set_option maxHeartbeats 4000000 in
/-- SilentTableModel.readText -/
theorem rf_c178_1 {d : Nat} {m : Nat → Int32} {w : Int64} {h : pm_H} {Q : Option Value → pm_H → Prop}  (T : rf_T m w h)  (K0 : ∀ (m' : Nat → Int32) (w' : Int64) (h' : pm_H), rf_T m' w' h' → rf_G [41, 44, 45, 51, 52] h h' → rf_W [10, 12, 13, 14, 16, 17, 18, 21, 22] m m' → Q (some (.int 0)) h') (K1 : ∀ (m' : Nat → Int32) (w' : Int64) (h' : pm_H), rf_T m' w' h' → rf_G [41, 44, 45, 51, 52] h h' → rf_W [10, 12, 13, 14, 16, 17, 18, 21, 22] m m' → (∃ f : Nat → Int32, h'.2.2 51 = .inl (0, 152, .inl f) ∧ rf_bd 1 f ∧ 1 ≤ (f 0).toInt) → Q (some (.int 1)) h') : pm_R (d + 6) 178 0 [.ref 41, .int 1, pm_no, pm_no] [] h Q := by
  refine pm_R_op pm_M178 (pc' := 1) (st' := [.int 0]) rfl rfl rfl ?_
  refine pm_R_lo pm_M178 (pc' := 2) (ls' := [.ref 41, .int 1, .int 0, pm_no]) (st' := []) rfl rfl rfl ?_
  have L_614 : ∀ (N : Nat) (h_614 : pm_H) (m_614 : Nat → Int32) (w_614 : Int64) (x2_614 : Int32), rf_T m_614 w_614 h_614 → rf_G [41, 44, 45, 51, 52] h h_614 → rf_W [] m m_614 → sf_B 0 152 x2_614 → (∃ f : Nat → Int32, h_614.2.2 51 = .inl (0, 152, .inl f) ∧ ∀ j : Nat, (j : Int) < x2_614.toInt → f j = 0) → (152 - x2_614.toInt).toNat = N → pm_R (d + 6) 178 2 [.ref 41, .int 1, .int x2_614, pm_no] [] h_614 Q := by
    intro N
    induction N using Nat.strongRecOn with
    | ind N ih_614 =>
      intro h_614 m_614 w_614 x2_614 T_614 F_614 W_614 Bx2_614 X_614 hN_614
      have W617 : rf_W [10, 12, 13, 14, 16, 17, 18, 21, 22] m m_614 := (rf_W.refl [10, 12, 13, 14, 16, 17, 18, 21, 22] m).trans W_614 (by decide)
      obtain ⟨f618, e619, zz620⟩ := X_614
      refine pm_R_lo pm_M178 (pc' := 3) rfl rfl rfl ?_
      refine pm_R_op pm_M178 (pc' := 6) (st' := [.int 152, .int x2_614]) rfl rfl rfl ?_
      refine pm_R_icmp pm_M178 (t := 22) (pc' := 9) rfl rfl rfl (fun c621 => ?_) (fun c621 => ?_)
      · have B622 : sf_B 152 152 x2_614 := sf_leR c621 sf_k152 Bx2_614
        refine pm_R_lo pm_M178 (pc' := 23) rfl rfl rfl ?_
        refine rf_R_get pm_M178 T_614 (pc' := 26) (v := .ref 51) rfl rfl rfl rfl ?_
        refine pm_R_op pm_M178 (pc' := 27) (st' := [.int 0, .ref 51]) rfl rfl rfl ?_
        refine pm_R_lo pm_M178 (pc' := 28) rfl rfl rfl ?_
        refine pm_R_op pm_M178 (pc' := 29) (st' := [.int 2, .int 1, .int 0, .ref 51]) rfl rfl rfl ?_
        refine pm_R_br pm_M178 (pc' := 36) (st' := [.int 0, .ref 51]) rfl rfl ?_
        refine pm_R_op pm_M178 (pc' := 37) (st' := [.int 0, .int 0, .ref 51]) rfl rfl rfl ?_
        refine rf_R_ist pm_M178 T_614 (pc' := 38) rfl e619 (by decide) (by decide) rfl ⟨_, rfl⟩ rfl (fun h623 T624 F625 e626 => ?_)
        have F627 := F_614.trans F625 (by decide)
        have ct628 : rf_ct 1 (upd f618 (Int32.toNatClampNeg 0) 0) ∧ rf_bd 1 (upd f618 (Int32.toNatClampNeg 0) 0) := rf_all0_1 (fun j hj => zz620 j (by have := Int32.le_iff_toInt_le.mp c621; have e0 : (152 : Int32).toInt = 152 := rfl; omega))
        refine pm_R_lo pm_M178 (pc' := 39) rfl rfl rfl ?_
        refine pm_R_op pm_M178 (pc' := 40) (st' := [.int (-1), .ref 41]) rfl rfl rfl ?_
        refine rf_R_put pm_M178 T624 (pc' := 43) rfl rfl rfl (by decide) rfl rfl (sf_weak sf_kn1 (by decide) (by decide)) rfl rfl (fun h630 m633 em634 T631 F632 => ?_)
        have F635 := F627.trans F632 (by decide)
        have B636 : sf_B (-1) (-1) (m633 21) := by rw [em634]; exact sf_kn1
        have W638 : rf_W [10, 12, 13, 14, 16, 17, 18, 21, 22] m m633 := by rw [em634]; exact W617.put (by decide)
        have B639 : sf_B 0 600 (m633 10) := T631.2.2.1 10
        have B640 : sf_B 0 4 (m633 17) := T631.2.2.1 17
        have B641 : sf_B 0 1 (m633 22) := T631.2.2.1 22
        refine pm_R_lo pm_M178 (pc' := 44) rfl rfl rfl ?_
        refine pm_R_op pm_M178 (pc' := 45) (st' := [.int 0, .ref 41]) rfl rfl rfl ?_
        refine rf_R_put pm_M178 T631 (pc' := 48) rfl rfl rfl (by decide) rfl rfl (sf_weak sf_k0 (by decide) (by decide)) rfl rfl (fun h642 m645 em646 T643 F644 => ?_)
        have F647 := F635.trans F644 (by decide)
        have B648 : sf_B (-1) (-1) (m645 21) := by rw [em646]; exact B636
        have B649 : sf_B 0 4 (m645 17) := by rw [em646]; exact B640
        have ek650 : (m645 17).toInt = ((m633 17)).toInt := by rw [em646]; rfl
        have B651 : sf_B 0 1 (m645 22) := by rw [em646]; exact B641
        have ek652 : (m645 22).toInt = ((m633 22)).toInt := by rw [em646]; rfl
        have B653 : sf_B 0 0 (m645 10) := by rw [em646]; exact sf_k0
        have W655 : rf_W [10, 12, 13, 14, 16, 17, 18, 21, 22] m m645 := by rw [em646]; exact W638.put (by decide)
        refine pm_R_lo pm_M178 (pc' := 49) rfl rfl rfl ?_
        refine pm_R_op pm_M178 (pc' := 50) (st' := [.int 0, .ref 41]) rfl rfl rfl ?_
        refine rf_R_put pm_M178 T643 (pc' := 53) rfl rfl rfl (by decide) rfl rfl (sf_weak sf_k0 (by decide) (by decide)) rfl rfl (fun h656 m659 em660 T657 F658 => ?_)
        have F661 := F647.trans F658 (by decide)
        have B662 : sf_B (-1) (-1) (m659 21) := by rw [em660]; exact B648
        have B663 : sf_B 0 1 (m659 22) := by rw [em660]; exact B651
        have ek664 : (m659 22).toInt = ((m633 22)).toInt := by rw [em660]; exact ek652
        have B665 : sf_B 0 0 (m659 10) := by rw [em660]; exact B653
        have ek666 : (m659 10).toInt = ((m645 10)).toInt := by rw [em660]; rfl
        have B667 : sf_B 0 0 (m659 17) := by rw [em660]; exact sf_k0
        have W669 : rf_W [10, 12, 13, 14, 16, 17, 18, 21, 22] m m659 := by rw [em660]; exact W655.put (by decide)
        refine pm_R_lo pm_M178 (pc' := 54) rfl rfl rfl ?_
        refine pm_R_cv pm_M178 (pc' := 57) (a := 41) (ra := []) (rest := []) (ls' := [.ref 41, pm_no, pm_no]) rfl rfl (Or.inl rfl) pm_M179 T657.2.1 rfl (by decide) (Nat.lt_of_lt_of_le (by decide) T657.1) rfl rfl (Nat.le_of_ble_eq_true rfl) rfl rfl ?_
        refine rf_c179 (d := d + 4) T657  (fun m672 w673 h674 T675 F676 W677 X678 X679 => ?_)
        have F680 := F661.trans F676 (by decide)
        have B681 : sf_B (-1) (-1) (m672 21) := by rw [W677 21 (by decide)]; exact B662
        have B682 : sf_B 0 1 (m672 22) := by rw [W677 22 (by decide)]; exact B663
        have ek683 : (m672 22).toInt = ((m633 22)).toInt := by rw [W677 22 (by decide)]; exact ek664
        have B684 : sf_B 0 0 (m672 17) := by rw [W677 17 (by decide)]; exact B667
        have ek685 : (m672 17).toInt = ((m659 17)).toInt := by rw [W677 17 (by decide)]
        have W686 : rf_W [10, 12, 13, 14, 16, 17, 18, 21, 22] m m672 := W669.trans W677 (by decide)
        have B687 : sf_B 0 600 (m672 10) := T675.2.2.1 10
        show pm_R _ 178 57 [.ref 41, .int 1, .int x2_614, pm_no] [] _ _
        have R688 : (m 10).toInt ≤ (m672 10).toInt := (sf_aux88 _ _ _ _ ek666 X678)
        refine pm_R_lo pm_M178 (pc' := 58) rfl rfl rfl ?_
        refine pm_R_op pm_M178 (pc' := 59) (st' := [.int 1, .int 1]) rfl rfl rfl ?_
        refine pm_R_br pm_M178 (pc' := 62) (st' := []) rfl rfl ?_
        refine pm_R_lo pm_M178 (pc' := 63) rfl rfl rfl ?_
        refine pm_R_cv pm_M178 (pc' := 66) (a := 41) (ra := []) (rest := []) (ls' := [.ref 41]) rfl rfl (Or.inl rfl) pm_M181 T675.2.1 rfl (by decide) (Nat.lt_of_lt_of_le (by decide) T675.1) rfl rfl (Nat.le_of_ble_eq_true rfl) rfl rfl ?_
        have e689 := (F676.cell (by decide) (F658.cell (by decide) (F644.cell (by decide) (F632.cell (by decide) e626))))
        refine rf_c181 (d := d + 2) T675 (⟨(upd f618 (Int32.toNatClampNeg 0) 0), e689, ct628.1, fun z => ct628.2⟩) (fun m692 w693 h694 T695 F696 W697 X698 => ?_) (fun m701 w702 h703 T704 F705 W706 X707 X708 => ?_)
        · have F709 := F680.trans F696 (by decide)
          have B710 : sf_B (-1) (-1) (m692 21) := by rw [W697 21 (by decide)]; exact B681
          have W711 : rf_W [10, 12, 13, 14, 16, 17, 18, 21, 22] m m692 := W686.trans W697 (by decide)
          have B712 : sf_B 0 600 (m692 10) := T695.2.2.1 10
          have B713 : sf_B 0 4 (m692 17) := T695.2.2.1 17
          have B714 : sf_B 0 1 (m692 22) := T695.2.2.1 22
          show pm_R _ 178 66 [.ref 41, .int 1, .int x2_614, pm_no] [.int 0] _ _
          have R715 : (m 10).toInt ≤ (m692 10).toInt := (sf_aux70 _ _ _ R688 X698)
          refine pm_R_br pm_M178 (pc' := 74) rfl rfl ?_
          refine pm_R_lo pm_M178 (pc' := 75) (ls' := [.ref 41, .int 1, .int 0, pm_no]) (st' := []) rfl rfl rfl ?_
          refine pm_R_lo pm_M178 (pc' := 76) rfl rfl rfl ?_
          refine pm_R_op pm_M178 (pc' := 77) (st' := [.int 1, .int 1]) rfl rfl rfl ?_
          refine pm_R_br pm_M178 (pc' := 80) (st' := []) rfl rfl ?_
          refine pm_R_lo pm_M178 (pc' := 81) rfl rfl rfl ?_
          refine rf_R_get pm_M178 T695 (pc' := 84) (v := .ref 51) rfl rfl rfl rfl ?_
          refine pm_R_op pm_M178 (pc' := 85) (st' := [.int 0, .ref 51]) rfl rfl rfl ?_
          obtain ⟨f716, e717⟩ := T695.2.2.2.1 51 (by decide) (by decide)
          refine rf_R_ild pm_M178 T695 (pc' := 86) rfl e717 (by decide) rfl rfl (fun z719 ez720 => ?_)
          refine pm_R_ifc pm_M178 (t := 93) (pc' := 89) rfl rfl rfl (fun c721 => ?_) (fun c721 => ?_)
          · skip
            refine pm_R_op pm_M178 (pc' := 94) (st' := [.int 0]) rfl rfl rfl ?_
            refine pm_R_br pm_M178 (pc' := 120) rfl rfl ?_
            refine pm_R_lo pm_M178 (pc' := 121) (ls' := [.ref 41, .int 1, .int 0, .int 0]) (st' := []) (pm_q178_1 (Nat.le_of_ble_eq_true rfl)) rfl rfl ?_
            refine pm_R_lo pm_M178 (pc' := 122) (pm_q178_1 (Nat.le_of_ble_eq_true rfl)) rfl rfl ?_
            refine pm_R_br pm_M178 (pc' := 145) (st' := []) (pm_q178_1 (Nat.le_of_ble_eq_true rfl)) rfl ?_
            refine pm_R_lo pm_M178 (pc' := 146) (pm_q178_1 (Nat.le_of_ble_eq_true rfl)) rfl rfl ?_
            refine rf_R_get pm_M178 T695 (pc' := 149) (v := .ref 44) (pm_q178_1 (Nat.le_of_ble_eq_true rfl)) rfl rfl rfl ?_
            refine pm_R_op pm_M178 (pc' := 150) (st' := [.int 0, .ref 44]) (pm_q178_1 (Nat.le_of_ble_eq_true rfl)) rfl rfl ?_
            refine pm_R_lo pm_M178 (pc' := 151) (pm_q178_1 (Nat.le_of_ble_eq_true rfl)) rfl rfl ?_
            refine pm_R_br pm_M178 (pc' := 161) (st' := [.int 0, .ref 44]) (pm_q178_1 (Nat.le_of_ble_eq_true rfl)) rfl ?_
            refine pm_R_op pm_M178 (pc' := 162) (st' := [.int 1, .int 0, .ref 44]) (pm_q178_1 (Nat.le_of_ble_eq_true rfl)) rfl rfl ?_
            obtain ⟨f722, e723, b724⟩ := T695.2.2.2.1 44 (by decide) (by decide)
            refine rf_R_ist2 pm_M178 T695 (pc' := 163) (pm_q178_1 (Nat.le_of_ble_eq_true rfl)) e723 (by decide) (by decide) rfl ⟨_, rfl, sf_upd b724 (sf_weak sf_k1 (by decide) (by decide)) _⟩ rfl (fun h725 T726 F727 e728 => ?_)
            have F729 := F709.trans F727 (by decide)
            refine pm_R_lo pm_M178 (pc' := 164) (pm_q178_1 (Nat.le_of_ble_eq_true rfl)) rfl rfl ?_
            refine rf_R_get pm_M178 T726 (pc' := 167) (v := .ref 45) (pm_q178_1 (Nat.le_of_ble_eq_true rfl)) rfl rfl rfl ?_
            refine pm_R_op pm_M178 (pc' := 168) (st' := [.int 0, .ref 45]) (pm_q178_1 (Nat.le_of_ble_eq_true rfl)) rfl rfl ?_
            refine pm_R_lo pm_M178 (pc' := 169) (pm_q178_1 (Nat.le_of_ble_eq_true rfl)) rfl rfl ?_
            refine pm_R_br pm_M178 (pc' := 172) (st' := [.int 0, .ref 45]) (pm_q178_1 (Nat.le_of_ble_eq_true rfl)) rfl ?_
            refine pm_R_lo pm_M178 (pc' := 173) (pm_q178_1 (Nat.le_of_ble_eq_true rfl)) rfl rfl ?_
            have B730 : sf_B 0 600 (m692 16) := T726.2.2.1 16
            refine rf_R_get pm_M178 T726 (pc' := 176) (v := .int (m692 16)) (pm_q178_1 (Nat.le_of_ble_eq_true rfl)) rfl rfl rfl ?_
            refine pm_R_br pm_M178 (pc' := 194) (pm_q178_1 (Nat.le_of_ble_eq_true rfl)) rfl ?_
            obtain ⟨f731, e732, b733⟩ := T726.2.2.2.1 45 (by decide) (by decide)
            refine rf_R_ist2 pm_M178 T726 (pc' := 195) (pm_q178_1 (Nat.le_of_ble_eq_true rfl)) e732 (by decide) (by decide) rfl ⟨_, rfl, sf_upd b733 (sf_weak B730 (by decide) (by decide)) _⟩ rfl (fun h734 T735 F736 e737 => ?_)
            have F738 := F729.trans F736 (by decide)
            refine pm_R_lo pm_M178 (pc' := 196) (pm_q178_1 (Nat.le_of_ble_eq_true rfl)) rfl rfl ?_
            refine rf_R_get pm_M178 T735 (pc' := 199) (v := .ref 44) (pm_q178_1 (Nat.le_of_ble_eq_true rfl)) rfl rfl rfl ?_
            refine pm_R_op pm_M178 (pc' := 200) (st' := [.int 0, .ref 44]) (pm_q178_1 (Nat.le_of_ble_eq_true rfl)) rfl rfl ?_
            have e739 := (F736.cell (by decide) e728)
            refine pm_R_iald pm_M178 (pc' := 201) (v := 1) (pm_q178_1 (Nat.le_of_ble_eq_true rfl)) e739 (Nat.lt_of_lt_of_le (by decide) T735.1) rfl sf_upd_eq rfl ?_
            refine pm_R_br pm_M178 (pc' := 208) (st' := []) (pm_q178_1 (Nat.le_of_ble_eq_true rfl)) rfl ?_
            refine pm_R_op pm_M178 (pc' := 209) (st' := [.int 0]) (pm_q178_1 (Nat.le_of_ble_eq_true rfl)) rfl rfl ?_
            exact pm_R_ret pm_M178 (r := some (.int 0)) (pm_q178_1 (Nat.le_of_ble_eq_true rfl)) rfl (K0 m692 w693 h734 T735 F738 W711)
          · have B742 : sf_B 0 0 z719 := sf_eqL (Classical.not_not.mp c721) sf_k0
            refine pm_R_op pm_M178 (pc' := 90) (st' := [.int 1]) rfl rfl rfl ?_
            refine pm_R_br pm_M178 (pc' := 120) rfl rfl ?_
            refine pm_R_lo pm_M178 (pc' := 121) (ls' := [.ref 41, .int 1, .int 0, .int 1]) (st' := []) (pm_q178_1 (Nat.le_of_ble_eq_true rfl)) rfl rfl ?_
            refine pm_R_lo pm_M178 (pc' := 122) (pm_q178_1 (Nat.le_of_ble_eq_true rfl)) rfl rfl ?_
            refine pm_R_br pm_M178 (pc' := 145) (st' := []) (pm_q178_1 (Nat.le_of_ble_eq_true rfl)) rfl ?_
            refine pm_R_lo pm_M178 (pc' := 146) (pm_q178_1 (Nat.le_of_ble_eq_true rfl)) rfl rfl ?_
            refine rf_R_get pm_M178 T695 (pc' := 149) (v := .ref 44) (pm_q178_1 (Nat.le_of_ble_eq_true rfl)) rfl rfl rfl ?_
            refine pm_R_op pm_M178 (pc' := 150) (st' := [.int 0, .ref 44]) (pm_q178_1 (Nat.le_of_ble_eq_true rfl)) rfl rfl ?_
            refine pm_R_lo pm_M178 (pc' := 151) (pm_q178_1 (Nat.le_of_ble_eq_true rfl)) rfl rfl ?_
            refine pm_R_br pm_M178 (pc' := 161) (st' := [.int 0, .ref 44]) (pm_q178_1 (Nat.le_of_ble_eq_true rfl)) rfl ?_
            refine pm_R_op pm_M178 (pc' := 162) (st' := [.int 1, .int 0, .ref 44]) (pm_q178_1 (Nat.le_of_ble_eq_true rfl)) rfl rfl ?_
            obtain ⟨f743, e744, b745⟩ := T695.2.2.2.1 44 (by decide) (by decide)
            refine rf_R_ist2 pm_M178 T695 (pc' := 163) (pm_q178_1 (Nat.le_of_ble_eq_true rfl)) e744 (by decide) (by decide) rfl ⟨_, rfl, sf_upd b745 (sf_weak sf_k1 (by decide) (by decide)) _⟩ rfl (fun h746 T747 F748 e749 => ?_)
            have F750 := F709.trans F748 (by decide)
            refine pm_R_lo pm_M178 (pc' := 164) (pm_q178_1 (Nat.le_of_ble_eq_true rfl)) rfl rfl ?_
            refine rf_R_get pm_M178 T747 (pc' := 167) (v := .ref 45) (pm_q178_1 (Nat.le_of_ble_eq_true rfl)) rfl rfl rfl ?_
            refine pm_R_op pm_M178 (pc' := 168) (st' := [.int 0, .ref 45]) (pm_q178_1 (Nat.le_of_ble_eq_true rfl)) rfl rfl ?_
            refine pm_R_lo pm_M178 (pc' := 169) (pm_q178_1 (Nat.le_of_ble_eq_true rfl)) rfl rfl ?_
            refine pm_R_br pm_M178 (pc' := 172) (st' := [.int 0, .ref 45]) (pm_q178_1 (Nat.le_of_ble_eq_true rfl)) rfl ?_
            refine pm_R_lo pm_M178 (pc' := 173) (pm_q178_1 (Nat.le_of_ble_eq_true rfl)) rfl rfl ?_
            have B751 : sf_B 0 600 (m692 16) := T747.2.2.1 16
            refine rf_R_get pm_M178 T747 (pc' := 176) (v := .int (m692 16)) (pm_q178_1 (Nat.le_of_ble_eq_true rfl)) rfl rfl rfl ?_
            refine pm_R_br pm_M178 (pc' := 194) (pm_q178_1 (Nat.le_of_ble_eq_true rfl)) rfl ?_
            obtain ⟨f752, e753, b754⟩ := T747.2.2.2.1 45 (by decide) (by decide)
            refine rf_R_ist2 pm_M178 T747 (pc' := 195) (pm_q178_1 (Nat.le_of_ble_eq_true rfl)) e753 (by decide) (by decide) rfl ⟨_, rfl, sf_upd b754 (sf_weak B751 (by decide) (by decide)) _⟩ rfl (fun h755 T756 F757 e758 => ?_)
            have F759 := F750.trans F757 (by decide)
            refine pm_R_lo pm_M178 (pc' := 196) (pm_q178_1 (Nat.le_of_ble_eq_true rfl)) rfl rfl ?_
            refine rf_R_get pm_M178 T756 (pc' := 199) (v := .ref 44) (pm_q178_1 (Nat.le_of_ble_eq_true rfl)) rfl rfl rfl ?_
            refine pm_R_op pm_M178 (pc' := 200) (st' := [.int 0, .ref 44]) (pm_q178_1 (Nat.le_of_ble_eq_true rfl)) rfl rfl ?_
            have e760 := (F757.cell (by decide) e749)
            refine pm_R_iald pm_M178 (pc' := 201) (v := 1) (pm_q178_1 (Nat.le_of_ble_eq_true rfl)) e760 (Nat.lt_of_lt_of_le (by decide) T756.1) rfl sf_upd_eq rfl ?_
            refine pm_R_br pm_M178 (pc' := 208) (st' := []) (pm_q178_1 (Nat.le_of_ble_eq_true rfl)) rfl ?_
            refine pm_R_op pm_M178 (pc' := 209) (st' := [.int 0]) (pm_q178_1 (Nat.le_of_ble_eq_true rfl)) rfl rfl ?_
            exact pm_R_ret pm_M178 (r := some (.int 0)) (pm_q178_1 (Nat.le_of_ble_eq_true rfl)) rfl (K0 m692 w693 h755 T756 F759 W711)
        · have F763 := F680.trans F705 (by decide)
          have B764 : sf_B (-1) (-1) (m701 21) := by rw [W706 21 (by decide)]; exact B681
          have W765 : rf_W [10, 12, 13, 14, 16, 17, 18, 21, 22] m m701 := W686.trans W706 (by decide)
          have B766 : sf_B 0 600 (m701 10) := T704.2.2.1 10
          have B767 : sf_B 0 4 (m701 17) := T704.2.2.1 17
          have B768 : sf_B 0 1 (m701 22) := T704.2.2.1 22
          show pm_R _ 178 66 [.ref 41, .int 1, .int x2_614, pm_no] [.int 1] _ _
          have R769 : (m 10).toInt ≤ (m701 10).toInt := (sf_aux70 _ _ _ R688 X708)
          obtain ⟨f770, e771, ct772, bd773⟩ := X707
          refine pm_R_br pm_M178 (pc' := 74) rfl rfl ?_
          refine pm_R_lo pm_M178 (pc' := 75) (ls' := [.ref 41, .int 1, .int 1, pm_no]) (st' := []) rfl rfl rfl ?_
          refine pm_R_lo pm_M178 (pc' := 76) rfl rfl rfl ?_
          refine pm_R_op pm_M178 (pc' := 77) (st' := [.int 1, .int 1]) rfl rfl rfl ?_
          refine pm_R_br pm_M178 (pc' := 80) (st' := []) rfl rfl ?_
          refine pm_R_lo pm_M178 (pc' := 81) rfl rfl rfl ?_
          refine rf_R_get pm_M178 T704 (pc' := 84) (v := .ref 51) rfl rfl rfl rfl ?_
          refine pm_R_op pm_M178 (pc' := 85) (st' := [.int 0, .ref 51]) rfl rfl rfl ?_
          refine pm_R_iald pm_M178 (pc' := 86) (v := (f770 0)) rfl e771 (Nat.lt_of_lt_of_le (by decide) T704.1) rfl rfl rfl ?_
          refine pm_R_ifc pm_M178 (t := 93) (pc' := 89) rfl rfl rfl (fun c776 => ?_) (fun c776 => ?_)
          · have B777 : sf_B 1 12 (f770 0) := sf_neL0 c776 sf_k0 ct772
            refine pm_R_op pm_M178 (pc' := 94) (st' := [.int 0]) rfl rfl rfl ?_
            refine pm_R_br pm_M178 (pc' := 120) rfl rfl ?_
            refine pm_R_lo pm_M178 (pc' := 121) (ls' := [.ref 41, .int 1, .int 1, .int 0]) (st' := []) (pm_q178_1 (Nat.le_of_ble_eq_true rfl)) rfl rfl ?_
            refine pm_R_lo pm_M178 (pc' := 122) (pm_q178_1 (Nat.le_of_ble_eq_true rfl)) rfl rfl ?_
            refine pm_R_br pm_M178 (pc' := 125) (st' := []) (pm_q178_1 (Nat.le_of_ble_eq_true rfl)) rfl ?_
            refine pm_R_lo pm_M178 (pc' := 126) (pm_q178_1 (Nat.le_of_ble_eq_true rfl)) rfl rfl ?_
            refine rf_R_get pm_M178 T704 (pc' := 129) (v := .int (m701 17)) (pm_q178_1 (Nat.le_of_ble_eq_true rfl)) rfl rfl rfl ?_
            refine pm_R_ifc pm_M178 (t := 145) (pc' := 132) (pm_q178_1 (Nat.le_of_ble_eq_true rfl)) rfl rfl (fun c778 => ?_) (fun c778 => ?_)
            · have B779 : sf_B 1 4 (m701 17) := sf_neL0 c778 sf_k0 B767
              refine pm_R_lo pm_M178 (pc' := 146) (pm_q178_1 (Nat.le_of_ble_eq_true rfl)) rfl rfl ?_
              refine rf_R_get pm_M178 T704 (pc' := 149) (v := .ref 44) (pm_q178_1 (Nat.le_of_ble_eq_true rfl)) rfl rfl rfl ?_
              refine pm_R_op pm_M178 (pc' := 150) (st' := [.int 0, .ref 44]) (pm_q178_1 (Nat.le_of_ble_eq_true rfl)) rfl rfl ?_
              refine pm_R_lo pm_M178 (pc' := 151) (pm_q178_1 (Nat.le_of_ble_eq_true rfl)) rfl rfl ?_
              refine pm_R_br pm_M178 (pc' := 154) (st' := [.int 0, .ref 44]) (pm_q178_1 (Nat.le_of_ble_eq_true rfl)) rfl ?_
              refine pm_R_lo pm_M178 (pc' := 155) (pm_q178_1 (Nat.le_of_ble_eq_true rfl)) rfl rfl ?_
              refine rf_R_get pm_M178 T704 (pc' := 158) (v := .int (m701 17)) (pm_q178_1 (Nat.le_of_ble_eq_true rfl)) rfl rfl rfl ?_
              refine pm_R_br pm_M178 (pc' := 162) (pm_q178_1 (Nat.le_of_ble_eq_true rfl)) rfl ?_
              obtain ⟨f780, e781, b782⟩ := T704.2.2.2.1 44 (by decide) (by decide)
              refine rf_R_ist2 pm_M178 T704 (pc' := 163) (pm_q178_1 (Nat.le_of_ble_eq_true rfl)) e781 (by decide) (by decide) rfl ⟨_, rfl, sf_upd b782 (sf_weak B779 (by decide) (by decide)) _⟩ rfl (fun h783 T784 F785 e786 => ?_)
              have F787 := F763.trans F785 (by decide)
              refine pm_R_lo pm_M178 (pc' := 164) (pm_q178_1 (Nat.le_of_ble_eq_true rfl)) rfl rfl ?_
              refine rf_R_get pm_M178 T784 (pc' := 167) (v := .ref 45) (pm_q178_1 (Nat.le_of_ble_eq_true rfl)) rfl rfl rfl ?_
              refine pm_R_op pm_M178 (pc' := 168) (st' := [.int 0, .ref 45]) (pm_q178_1 (Nat.le_of_ble_eq_true rfl)) rfl rfl ?_
              refine pm_R_lo pm_M178 (pc' := 169) (pm_q178_1 (Nat.le_of_ble_eq_true rfl)) rfl rfl ?_
              refine pm_R_br pm_M178 (pc' := 179) (st' := [.int 0, .ref 45]) (pm_q178_1 (Nat.le_of_ble_eq_true rfl)) rfl ?_
              refine pm_R_lo pm_M178 (pc' := 180) (pm_q178_1 (Nat.le_of_ble_eq_true rfl)) rfl rfl ?_
              refine rf_R_get pm_M178 T784 (pc' := 183) (v := .int (m701 17)) (pm_q178_1 (Nat.le_of_ble_eq_true rfl)) rfl rfl rfl ?_
              refine pm_R_ifc pm_M178 (t := 193) (pc' := 186) (pm_q178_1 (Nat.le_of_ble_eq_true rfl)) rfl rfl (fun c788 => absurd c788 (sf_nle B779 sf_k0 (by decide))) (fun c788 => ?_)
              skip
              refine pm_R_lo pm_M178 (pc' := 187) (pm_q178_1 (Nat.le_of_ble_eq_true rfl)) rfl rfl ?_
              have B789 : sf_B 0 600 (m701 18) := T784.2.2.1 18
              refine rf_R_get pm_M178 T784 (pc' := 190) (v := .int (m701 18)) (pm_q178_1 (Nat.le_of_ble_eq_true rfl)) rfl rfl rfl ?_
              refine pm_R_br pm_M178 (pc' := 194) (pm_q178_1 (Nat.le_of_ble_eq_true rfl)) rfl ?_
              obtain ⟨f790, e791, b792⟩ := T784.2.2.2.1 45 (by decide) (by decide)
              refine rf_R_ist2 pm_M178 T784 (pc' := 195) (pm_q178_1 (Nat.le_of_ble_eq_true rfl)) e791 (by decide) (by decide) rfl ⟨_, rfl, sf_upd b792 (sf_weak B789 (by decide) (by decide)) _⟩ rfl (fun h793 T794 F795 e796 => ?_)
              have F797 := F787.trans F795 (by decide)
              refine pm_R_lo pm_M178 (pc' := 196) (pm_q178_1 (Nat.le_of_ble_eq_true rfl)) rfl rfl ?_
              refine rf_R_get pm_M178 T794 (pc' := 199) (v := .ref 44) (pm_q178_1 (Nat.le_of_ble_eq_true rfl)) rfl rfl rfl ?_
              refine pm_R_op pm_M178 (pc' := 200) (st' := [.int 0, .ref 44]) (pm_q178_1 (Nat.le_of_ble_eq_true rfl)) rfl rfl ?_
              have e798 := (F795.cell (by decide) e786)
              refine pm_R_iald pm_M178 (pc' := 201) (v := (m701 17)) (pm_q178_1 (Nat.le_of_ble_eq_true rfl)) e798 (Nat.lt_of_lt_of_le (by decide) T794.1) rfl sf_upd_eq rfl ?_
              refine pm_R_ifc pm_M178 (t := 208) (pc' := 204) (pm_q178_1 (Nat.le_of_ble_eq_true rfl)) rfl rfl (fun c801 => ?_) (fun c801 => absurd (Classical.not_not.mp c801) (sf_neq1 B779 sf_k0 (by decide)))
              skip
              refine pm_R_op pm_M178 (pc' := 209) (st' := [.int 0]) (pm_q178_1 (Nat.le_of_ble_eq_true rfl)) rfl rfl ?_
              exact pm_R_ret pm_M178 (r := some (.int 0)) (pm_q178_1 (Nat.le_of_ble_eq_true rfl)) rfl (K0 m701 w702 h793 T794 F797 W765)
            · have B802 : sf_B 0 0 (m701 17) := sf_eqL (Classical.not_not.mp c778) sf_k0
              refine pm_R_lo pm_M178 (pc' := 133) (pm_q178_1 (Nat.le_of_ble_eq_true rfl)) rfl rfl ?_
              refine pm_R_br pm_M178 (pc' := 145) (st' := []) (pm_q178_1 (Nat.le_of_ble_eq_true rfl)) rfl ?_
              refine pm_R_lo pm_M178 (pc' := 146) (pm_q178_1 (Nat.le_of_ble_eq_true rfl)) rfl rfl ?_
              refine rf_R_get pm_M178 T704 (pc' := 149) (v := .ref 44) (pm_q178_1 (Nat.le_of_ble_eq_true rfl)) rfl rfl rfl ?_
              refine pm_R_op pm_M178 (pc' := 150) (st' := [.int 0, .ref 44]) (pm_q178_1 (Nat.le_of_ble_eq_true rfl)) rfl rfl ?_
              refine pm_R_lo pm_M178 (pc' := 151) (pm_q178_1 (Nat.le_of_ble_eq_true rfl)) rfl rfl ?_
              refine pm_R_br pm_M178 (pc' := 154) (st' := [.int 0, .ref 44]) (pm_q178_1 (Nat.le_of_ble_eq_true rfl)) rfl ?_
              refine pm_R_lo pm_M178 (pc' := 155) (pm_q178_1 (Nat.le_of_ble_eq_true rfl)) rfl rfl ?_
              refine rf_R_get pm_M178 T704 (pc' := 158) (v := .int (m701 17)) (pm_q178_1 (Nat.le_of_ble_eq_true rfl)) rfl rfl rfl ?_
              refine pm_R_br pm_M178 (pc' := 162) (pm_q178_1 (Nat.le_of_ble_eq_true rfl)) rfl ?_
              obtain ⟨f803, e804, b805⟩ := T704.2.2.2.1 44 (by decide) (by decide)
              refine rf_R_ist2 pm_M178 T704 (pc' := 163) (pm_q178_1 (Nat.le_of_ble_eq_true rfl)) e804 (by decide) (by decide) rfl ⟨_, rfl, sf_upd b805 (sf_weak B802 (by decide) (by decide)) _⟩ rfl (fun h806 T807 F808 e809 => ?_)
              have F810 := F763.trans F808 (by decide)
              refine pm_R_lo pm_M178 (pc' := 164) (pm_q178_1 (Nat.le_of_ble_eq_true rfl)) rfl rfl ?_
              refine rf_R_get pm_M178 T807 (pc' := 167) (v := .ref 45) (pm_q178_1 (Nat.le_of_ble_eq_true rfl)) rfl rfl rfl ?_
              refine pm_R_op pm_M178 (pc' := 168) (st' := [.int 0, .ref 45]) (pm_q178_1 (Nat.le_of_ble_eq_true rfl)) rfl rfl ?_
              refine pm_R_lo pm_M178 (pc' := 169) (pm_q178_1 (Nat.le_of_ble_eq_true rfl)) rfl rfl ?_
              refine pm_R_br pm_M178 (pc' := 179) (st' := [.int 0, .ref 45]) (pm_q178_1 (Nat.le_of_ble_eq_true rfl)) rfl ?_
              refine pm_R_lo pm_M178 (pc' := 180) (pm_q178_1 (Nat.le_of_ble_eq_true rfl)) rfl rfl ?_
              refine rf_R_get pm_M178 T807 (pc' := 183) (v := .int (m701 17)) (pm_q178_1 (Nat.le_of_ble_eq_true rfl)) rfl rfl rfl ?_
              refine pm_R_ifc pm_M178 (t := 193) (pc' := 186) (pm_q178_1 (Nat.le_of_ble_eq_true rfl)) rfl rfl (fun c811 => ?_) (fun c811 => absurd (Int32.not_le.mp c811) (sf_nlt sf_k0 B802 (by decide)))
              skip
              refine pm_R_op pm_M178 (pc' := 194) (st' := [.int (-1), .int 0, .ref 45]) (pm_q178_1 (Nat.le_of_ble_eq_true rfl)) rfl rfl ?_
              obtain ⟨f812, e813, b814⟩ := T807.2.2.2.1 45 (by decide) (by decide)
              refine rf_R_ist2 pm_M178 T807 (pc' := 195) (pm_q178_1 (Nat.le_of_ble_eq_true rfl)) e813 (by decide) (by decide) rfl ⟨_, rfl, sf_upd b814 (sf_weak sf_kn1 (by decide) (by decide)) _⟩ rfl (fun h815 T816 F817 e818 => ?_)
              have F819 := F810.trans F817 (by decide)
              refine pm_R_lo pm_M178 (pc' := 196) (pm_q178_1 (Nat.le_of_ble_eq_true rfl)) rfl rfl ?_
              refine rf_R_get pm_M178 T816 (pc' := 199) (v := .ref 44) (pm_q178_1 (Nat.le_of_ble_eq_true rfl)) rfl rfl rfl ?_
              refine pm_R_op pm_M178 (pc' := 200) (st' := [.int 0, .ref 44]) (pm_q178_1 (Nat.le_of_ble_eq_true rfl)) rfl rfl ?_
              have e820 := (F817.cell (by decide) e809)
              refine pm_R_iald pm_M178 (pc' := 201) (v := (m701 17)) (pm_q178_1 (Nat.le_of_ble_eq_true rfl)) e820 (Nat.lt_of_lt_of_le (by decide) T816.1) rfl sf_upd_eq rfl ?_
              refine pm_R_ifc pm_M178 (t := 208) (pc' := 204) (pm_q178_1 (Nat.le_of_ble_eq_true rfl)) rfl rfl (fun c823 => absurd (sf_pt2 B802 sf_k0) c823) (fun c823 => ?_)
              refine pm_R_op pm_M178 (pc' := 205) (st' := [.int 1]) (pm_q178_1 (Nat.le_of_ble_eq_true rfl)) rfl rfl ?_
              refine pm_R_br pm_M178 (pc' := 209) (pm_q178_1 (Nat.le_of_ble_eq_true rfl)) rfl ?_
              have e824 := (F817.cell (by decide) (F808.cell (by decide) e771))
              exact pm_R_ret pm_M178 (r := some (.int 1)) (pm_q178_1 (Nat.le_of_ble_eq_true rfl)) rfl (K1 m701 w702 h815 T816 F819 W765 ⟨f770, e824, (by have z : ((m701 17)).toInt = 0 := (sf_aux35 _ B802.1 B802.2); exact (bd773 z)), (sf_eqL rfl B777).1⟩)
          · have B825 : sf_B 0 0 (f770 0) := sf_eqL (Classical.not_not.mp c776) sf_k0
            refine pm_R_op pm_M178 (pc' := 90) (st' := [.int 1]) rfl rfl rfl ?_
            refine pm_R_br pm_M178 (pc' := 120) rfl rfl ?_
            refine pm_R_lo pm_M178 (pc' := 121) (ls' := [.ref 41, .int 1, .int 1, .int 1]) (st' := []) (pm_q178_1 (Nat.le_of_ble_eq_true rfl)) rfl rfl ?_
            refine pm_R_lo pm_M178 (pc' := 122) (pm_q178_1 (Nat.le_of_ble_eq_true rfl)) rfl rfl ?_
            refine pm_R_br pm_M178 (pc' := 125) (st' := []) (pm_q178_1 (Nat.le_of_ble_eq_true rfl)) rfl ?_
            refine pm_R_lo pm_M178 (pc' := 126) (pm_q178_1 (Nat.le_of_ble_eq_true rfl)) rfl rfl ?_
            refine rf_R_get pm_M178 T704 (pc' := 129) (v := .int (m701 17)) (pm_q178_1 (Nat.le_of_ble_eq_true rfl)) rfl rfl rfl ?_
            refine pm_R_ifc pm_M178 (t := 145) (pc' := 132) (pm_q178_1 (Nat.le_of_ble_eq_true rfl)) rfl rfl (fun c826 => ?_) (fun c826 => ?_)
            · have B827 : sf_B 1 4 (m701 17) := sf_neL0 c826 sf_k0 B767
              refine pm_R_lo pm_M178 (pc' := 146) (pm_q178_1 (Nat.le_of_ble_eq_true rfl)) rfl rfl ?_
              refine rf_R_get pm_M178 T704 (pc' := 149) (v := .ref 44) (pm_q178_1 (Nat.le_of_ble_eq_true rfl)) rfl rfl rfl ?_
              refine pm_R_op pm_M178 (pc' := 150) (st' := [.int 0, .ref 44]) (pm_q178_1 (Nat.le_of_ble_eq_true rfl)) rfl rfl ?_
              refine pm_R_lo pm_M178 (pc' := 151) (pm_q178_1 (Nat.le_of_ble_eq_true rfl)) rfl rfl ?_
              refine pm_R_br pm_M178 (pc' := 154) (st' := [.int 0, .ref 44]) (pm_q178_1 (Nat.le_of_ble_eq_true rfl)) rfl ?_
              refine pm_R_lo pm_M178 (pc' := 155) (pm_q178_1 (Nat.le_of_ble_eq_true rfl)) rfl rfl ?_
              refine rf_R_get pm_M178 T704 (pc' := 158) (v := .int (m701 17)) (pm_q178_1 (Nat.le_of_ble_eq_true rfl)) rfl rfl rfl ?_
              refine pm_R_br pm_M178 (pc' := 162) (pm_q178_1 (Nat.le_of_ble_eq_true rfl)) rfl ?_
              obtain ⟨f828, e829, b830⟩ := T704.2.2.2.1 44 (by decide) (by decide)
              refine rf_R_ist2 pm_M178 T704 (pc' := 163) (pm_q178_1 (Nat.le_of_ble_eq_true rfl)) e829 (by decide) (by decide) rfl ⟨_, rfl, sf_upd b830 (sf_weak B827 (by decide) (by decide)) _⟩ rfl (fun h831 T832 F833 e834 => ?_)
              have F835 := F763.trans F833 (by decide)
              refine pm_R_lo pm_M178 (pc' := 164) (pm_q178_1 (Nat.le_of_ble_eq_true rfl)) rfl rfl ?_
              refine rf_R_get pm_M178 T832 (pc' := 167) (v := .ref 45) (pm_q178_1 (Nat.le_of_ble_eq_true rfl)) rfl rfl rfl ?_
              refine pm_R_op pm_M178 (pc' := 168) (st' := [.int 0, .ref 45]) (pm_q178_1 (Nat.le_of_ble_eq_true rfl)) rfl rfl ?_
              refine pm_R_lo pm_M178 (pc' := 169) (pm_q178_1 (Nat.le_of_ble_eq_true rfl)) rfl rfl ?_
              refine pm_R_br pm_M178 (pc' := 179) (st' := [.int 0, .ref 45]) (pm_q178_1 (Nat.le_of_ble_eq_true rfl)) rfl ?_
              refine pm_R_lo pm_M178 (pc' := 180) (pm_q178_1 (Nat.le_of_ble_eq_true rfl)) rfl rfl ?_
              refine rf_R_get pm_M178 T832 (pc' := 183) (v := .int (m701 17)) (pm_q178_1 (Nat.le_of_ble_eq_true rfl)) rfl rfl rfl ?_
              refine pm_R_ifc pm_M178 (t := 193) (pc' := 186) (pm_q178_1 (Nat.le_of_ble_eq_true rfl)) rfl rfl (fun c836 => absurd c836 (sf_nle B827 sf_k0 (by decide))) (fun c836 => ?_)
              skip
              refine pm_R_lo pm_M178 (pc' := 187) (pm_q178_1 (Nat.le_of_ble_eq_true rfl)) rfl rfl ?_
              have B837 : sf_B 0 600 (m701 18) := T832.2.2.1 18
              refine rf_R_get pm_M178 T832 (pc' := 190) (v := .int (m701 18)) (pm_q178_1 (Nat.le_of_ble_eq_true rfl)) rfl rfl rfl ?_
              refine pm_R_br pm_M178 (pc' := 194) (pm_q178_1 (Nat.le_of_ble_eq_true rfl)) rfl ?_
              obtain ⟨f838, e839, b840⟩ := T832.2.2.2.1 45 (by decide) (by decide)
              refine rf_R_ist2 pm_M178 T832 (pc' := 195) (pm_q178_1 (Nat.le_of_ble_eq_true rfl)) e839 (by decide) (by decide) rfl ⟨_, rfl, sf_upd b840 (sf_weak B837 (by decide) (by decide)) _⟩ rfl (fun h841 T842 F843 e844 => ?_)
              have F845 := F835.trans F843 (by decide)
              refine pm_R_lo pm_M178 (pc' := 196) (pm_q178_1 (Nat.le_of_ble_eq_true rfl)) rfl rfl ?_
              refine rf_R_get pm_M178 T842 (pc' := 199) (v := .ref 44) (pm_q178_1 (Nat.le_of_ble_eq_true rfl)) rfl rfl rfl ?_
              refine pm_R_op pm_M178 (pc' := 200) (st' := [.int 0, .ref 44]) (pm_q178_1 (Nat.le_of_ble_eq_true rfl)) rfl rfl ?_
              have e846 := (F843.cell (by decide) e834)
              refine pm_R_iald pm_M178 (pc' := 201) (v := (m701 17)) (pm_q178_1 (Nat.le_of_ble_eq_true rfl)) e846 (Nat.lt_of_lt_of_le (by decide) T842.1) rfl sf_upd_eq rfl ?_
              refine pm_R_ifc pm_M178 (t := 208) (pc' := 204) (pm_q178_1 (Nat.le_of_ble_eq_true rfl)) rfl rfl (fun c849 => ?_) (fun c849 => absurd (Classical.not_not.mp c849) (sf_neq1 B827 sf_k0 (by decide)))
              skip
              refine pm_R_op pm_M178 (pc' := 209) (st' := [.int 0]) (pm_q178_1 (Nat.le_of_ble_eq_true rfl)) rfl rfl ?_
              exact pm_R_ret pm_M178 (r := some (.int 0)) (pm_q178_1 (Nat.le_of_ble_eq_true rfl)) rfl (K0 m701 w702 h841 T842 F845 W765)
            · have B850 : sf_B 0 0 (m701 17) := sf_eqL (Classical.not_not.mp c826) sf_k0
              refine pm_R_lo pm_M178 (pc' := 133) (pm_q178_1 (Nat.le_of_ble_eq_true rfl)) rfl rfl ?_
              refine pm_R_br pm_M178 (pc' := 136) (st' := []) (pm_q178_1 (Nat.le_of_ble_eq_true rfl)) rfl ?_
              refine pm_R_lo pm_M178 (pc' := 137) (pm_q178_1 (Nat.le_of_ble_eq_true rfl)) rfl rfl ?_
              refine pm_R_op pm_M178 (pc' := 138) (st' := [.int 4, .ref 41]) (pm_q178_1 (Nat.le_of_ble_eq_true rfl)) rfl rfl ?_
              refine pm_R_lo pm_M178 (pc' := 139) (pm_q178_1 (Nat.le_of_ble_eq_true rfl)) rfl rfl ?_
              have B851 : sf_B 0 600 (m701 12) := T704.2.2.1 12
              refine rf_R_get pm_M178 T704 (pc' := 142) (v := .int (m701 12)) (pm_q178_1 (Nat.le_of_ble_eq_true rfl)) rfl rfl rfl ?_
              refine pm_R_cv pm_M178 (pc' := 145) (a := 41) (ra := [.int (m701 12), .int 4]) (rest := []) (ls' := [.ref 41, .int 4, .int (m701 12)]) (pm_q178_1 (Nat.le_of_ble_eq_true rfl)) rfl (Or.inl rfl) pm_M182 T704.2.1 rfl (by decide) (Nat.lt_of_lt_of_le (by decide) T704.1) rfl rfl (Nat.le_of_ble_eq_true rfl) rfl rfl ?_
              refine rf_c182 (d := d + 5) T704 (sf_weak sf_k4 (by decide) (by decide)) B851 (fun m854 w855 h856 T857 F858 W859 B860 => ?_)
              have F861 := F763.trans F858 (by decide)
              have B862 : sf_B (-1) (-1) (m854 21) := by rw [W859 21 (by decide)]; exact B764
              have B863 : sf_B 0 600 (m854 10) := by rw [W859 10 (by decide)]; exact B766
              have ek864 : (m854 10).toInt = ((m701 10)).toInt := by rw [W859 10 (by decide)]
              have B865 : sf_B 0 1 (m854 22) := by rw [W859 22 (by decide)]; exact B768
              have ek866 : (m854 22).toInt = ((m701 22)).toInt := by rw [W859 22 (by decide)]
              have W867 : rf_W [10, 12, 13, 14, 16, 17, 18, 21, 22] m m854 := W765.trans W859 (by decide)
              have B868 : sf_B 0 4 (m854 17) := T857.2.2.1 17
              show pm_R _ 178 145 [.ref 41, .int 1, .int 1, .int 1] [] _ _
              refine pm_R_lo pm_M178 (pc' := 146) (pm_q178_1 (Nat.le_of_ble_eq_true rfl)) rfl rfl ?_
              refine rf_R_get pm_M178 T857 (pc' := 149) (v := .ref 44) (pm_q178_1 (Nat.le_of_ble_eq_true rfl)) rfl rfl rfl ?_
              refine pm_R_op pm_M178 (pc' := 150) (st' := [.int 0, .ref 44]) (pm_q178_1 (Nat.le_of_ble_eq_true rfl)) rfl rfl ?_
              refine pm_R_lo pm_M178 (pc' := 151) (pm_q178_1 (Nat.le_of_ble_eq_true rfl)) rfl rfl ?_
              refine pm_R_br pm_M178 (pc' := 154) (st' := [.int 0, .ref 44]) (pm_q178_1 (Nat.le_of_ble_eq_true rfl)) rfl ?_
              refine pm_R_lo pm_M178 (pc' := 155) (pm_q178_1 (Nat.le_of_ble_eq_true rfl)) rfl rfl ?_
              refine rf_R_get pm_M178 T857 (pc' := 158) (v := .int (m854 17)) (pm_q178_1 (Nat.le_of_ble_eq_true rfl)) rfl rfl rfl ?_
              refine pm_R_br pm_M178 (pc' := 162) (pm_q178_1 (Nat.le_of_ble_eq_true rfl)) rfl ?_
              obtain ⟨f869, e870, b871⟩ := T857.2.2.2.1 44 (by decide) (by decide)
              refine rf_R_ist2 pm_M178 T857 (pc' := 163) (pm_q178_1 (Nat.le_of_ble_eq_true rfl)) e870 (by decide) (by decide) rfl ⟨_, rfl, sf_upd b871 (sf_weak B860 (by decide) (by decide)) _⟩ rfl (fun h872 T873 F874 e875 => ?_)
              have F876 := F861.trans F874 (by decide)
              refine pm_R_lo pm_M178 (pc' := 164) (pm_q178_1 (Nat.le_of_ble_eq_true rfl)) rfl rfl ?_
              refine rf_R_get pm_M178 T873 (pc' := 167) (v := .ref 45) (pm_q178_1 (Nat.le_of_ble_eq_true rfl)) rfl rfl rfl ?_
              refine pm_R_op pm_M178 (pc' := 168) (st' := [.int 0, .ref 45]) (pm_q178_1 (Nat.le_of_ble_eq_true rfl)) rfl rfl ?_
              refine pm_R_lo pm_M178 (pc' := 169) (pm_q178_1 (Nat.le_of_ble_eq_true rfl)) rfl rfl ?_
              refine pm_R_br pm_M178 (pc' := 179) (st' := [.int 0, .ref 45]) (pm_q178_1 (Nat.le_of_ble_eq_true rfl)) rfl ?_
              refine pm_R_lo pm_M178 (pc' := 180) (pm_q178_1 (Nat.le_of_ble_eq_true rfl)) rfl rfl ?_
              refine rf_R_get pm_M178 T873 (pc' := 183) (v := .int (m854 17)) (pm_q178_1 (Nat.le_of_ble_eq_true rfl)) rfl rfl rfl ?_
              refine pm_R_ifc pm_M178 (t := 193) (pc' := 186) (pm_q178_1 (Nat.le_of_ble_eq_true rfl)) rfl rfl (fun c877 => absurd c877 (sf_nle B860 sf_k0 (by decide))) (fun c877 => ?_)
              skip
              refine pm_R_lo pm_M178 (pc' := 187) (pm_q178_1 (Nat.le_of_ble_eq_true rfl)) rfl rfl ?_
              have B878 : sf_B 0 600 (m854 18) := T873.2.2.1 18
              refine rf_R_get pm_M178 T873 (pc' := 190) (v := .int (m854 18)) (pm_q178_1 (Nat.le_of_ble_eq_true rfl)) rfl rfl rfl ?_
              refine pm_R_br pm_M178 (pc' := 194) (pm_q178_1 (Nat.le_of_ble_eq_true rfl)) rfl ?_
              obtain ⟨f879, e880, b881⟩ := T873.2.2.2.1 45 (by decide) (by decide)
              refine rf_R_ist2 pm_M178 T873 (pc' := 195) (pm_q178_1 (Nat.le_of_ble_eq_true rfl)) e880 (by decide) (by decide) rfl ⟨_, rfl, sf_upd b881 (sf_weak B878 (by decide) (by decide)) _⟩ rfl (fun h882 T883 F884 e885 => ?_)
              have F886 := F876.trans F884 (by decide)
              refine pm_R_lo pm_M178 (pc' := 196) (pm_q178_1 (Nat.le_of_ble_eq_true rfl)) rfl rfl ?_
              refine rf_R_get pm_M178 T883 (pc' := 199) (v := .ref 44) (pm_q178_1 (Nat.le_of_ble_eq_true rfl)) rfl rfl rfl ?_
              refine pm_R_op pm_M178 (pc' := 200) (st' := [.int 0, .ref 44]) (pm_q178_1 (Nat.le_of_ble_eq_true rfl)) rfl rfl ?_
              have e887 := (F884.cell (by decide) e875)
              refine pm_R_iald pm_M178 (pc' := 201) (v := (m854 17)) (pm_q178_1 (Nat.le_of_ble_eq_true rfl)) e887 (Nat.lt_of_lt_of_le (by decide) T883.1) rfl sf_upd_eq rfl ?_
              refine pm_R_ifc pm_M178 (t := 208) (pc' := 204) (pm_q178_1 (Nat.le_of_ble_eq_true rfl)) rfl rfl (fun c890 => ?_) (fun c890 => absurd (Classical.not_not.mp c890) (sf_neq1 B860 sf_k0 (by decide)))
              skip
              refine pm_R_op pm_M178 (pc' := 209) (st' := [.int 0]) (pm_q178_1 (Nat.le_of_ble_eq_true rfl)) rfl rfl ?_
              exact pm_R_ret pm_M178 (r := some (.int 0)) (pm_q178_1 (Nat.le_of_ble_eq_true rfl)) rfl (K0 m854 w855 h882 T883 F886 W867)
      · have B891 : sf_B 0 151 x2_614 := sf_ltL (Int32.not_le.mp c621) Bx2_614 sf_k152
        refine pm_R_lo pm_M178 (pc' := 10) rfl rfl rfl ?_
        refine rf_R_get pm_M178 T_614 (pc' := 13) (v := .ref 51) rfl rfl rfl rfl ?_
        refine pm_R_lo pm_M178 (pc' := 14) rfl rfl rfl ?_
        refine pm_R_op pm_M178 (pc' := 15) (st' := [.int 0, .int x2_614, .ref 51]) rfl rfl rfl ?_
        refine rf_R_ist pm_M178 T_614 (pc' := 16) rfl e619 (by decide) (by decide) (sf_in B891 (by decide) (by decide)) ⟨_, rfl⟩ rfl (fun h892 T893 F894 e895 => ?_)
        have F896 := F_614.trans F894 (by decide)
        refine sf_R_iinc pm_M178 (pc' := 19) (ls' := fun z => [.ref 41, .int 1, .int z, pm_no]) rfl B891 rfl (by decide) (by decide) (by decide) (fun _ => rfl) rfl (fun z897 e898 B899 => ?_)
        show pm_R _ 178 19 [.ref 41, .int 1, .int z897, pm_no] [] _ _
        refine pm_R_br pm_M178 (pc' := 2) rfl rfl ?_
        exact ih_614 _ (sf_up hN_614 e898 B891 (by decide) (by decide)) h892 m_614 w_614 z897 T893 F896 W_614 (sf_weak B899 (by decide) (by decide)) ⟨(upd f618 (Int32.toNatClampNeg x2_614) 0), e895, rf_zero zz620 e898 B891 (by decide)⟩ rfl
  obtain ⟨f900, e901⟩ := T.2.2.2.1 51 (by decide) (by decide)
  exact L_614 _ h m w 0 T (rf_G.refl [41, 44, 45, 51, 52] h) (rf_W.refl _ _) (sf_weak sf_k0 (by decide) (by decide)) ⟨f900, e901, fun j hj => absurd hj (by show ¬ (j : Int) < 0; omega)⟩ rfl

set_option maxRecDepth 100000 in
set_option maxHeartbeats 4000000 in
/-- SilentTableModel.readText -/
theorem rf_c178_2 {d : Nat} {m : Nat → Int32} {w : Int64} {h : pm_H} {Q : Option Value → pm_H → Prop}  (T : rf_T m w h)  (K0 : ∀ (m' : Nat → Int32) (w' : Int64) (h' : pm_H), rf_T m' w' h' → rf_G [41, 44, 45, 51, 52] h h' → rf_W [10, 12, 13, 14, 16, 17, 18, 21, 22] m m' → Q (some (.int 0)) h') (K1 : ∀ (m' : Nat → Int32) (w' : Int64) (h' : pm_H), rf_T m' w' h' → rf_G [41, 44, 45, 51, 52] h h' → rf_W [10, 12, 13, 14, 16, 17, 18, 21, 22] m m' → (∃ f : Nat → Int32, h'.2.2 51 = .inl (0, 152, .inl f) ∧ rf_bd 2 f) → Q (some (.int 1)) h') : pm_R (d + 6) 178 0 [.ref 41, .int 2, pm_no, pm_no] [] h Q := by
  refine pm_R_op pm_M178 (pc' := 1) (st' := [.int 0]) rfl rfl rfl ?_
  refine pm_R_lo pm_M178 (pc' := 2) (ls' := [.ref 41, .int 2, .int 0, pm_no]) (st' := []) rfl rfl rfl ?_
  have L_614 : ∀ (N : Nat) (h_614 : pm_H) (m_614 : Nat → Int32) (w_614 : Int64) (x2_614 : Int32), rf_T m_614 w_614 h_614 → rf_G [41, 44, 45, 51, 52] h h_614 → rf_W [] m m_614 → sf_B 0 152 x2_614 → (∃ f : Nat → Int32, h_614.2.2 51 = .inl (0, 152, .inl f) ∧ ∀ j : Nat, (j : Int) < x2_614.toInt → f j = 0) → (152 - x2_614.toInt).toNat = N → pm_R (d + 6) 178 2 [.ref 41, .int 2, .int x2_614, pm_no] [] h_614 Q := by
    intro N
    induction N using Nat.strongRecOn with
    | ind N ih_614 =>
      intro h_614 m_614 w_614 x2_614 T_614 F_614 W_614 Bx2_614 X_614 hN_614
      have W617 : rf_W [10, 12, 13, 14, 16, 17, 18, 21, 22] m m_614 := (rf_W.refl [10, 12, 13, 14, 16, 17, 18, 21, 22] m).trans W_614 (by decide)
      obtain ⟨f618, e619, zz620⟩ := X_614
      refine pm_R_lo pm_M178 (pc' := 3) rfl rfl rfl ?_
      refine pm_R_op pm_M178 (pc' := 6) (st' := [.int 152, .int x2_614]) rfl rfl rfl ?_
      refine pm_R_icmp pm_M178 (t := 22) (pc' := 9) rfl rfl rfl (fun c621 => ?_) (fun c621 => ?_)
      · have B622 : sf_B 152 152 x2_614 := sf_leR c621 sf_k152 Bx2_614
        refine pm_R_lo pm_M178 (pc' := 23) rfl rfl rfl ?_
        refine rf_R_get pm_M178 T_614 (pc' := 26) (v := .ref 51) rfl rfl rfl rfl ?_
        refine pm_R_op pm_M178 (pc' := 27) (st' := [.int 0, .ref 51]) rfl rfl rfl ?_
        refine pm_R_lo pm_M178 (pc' := 28) rfl rfl rfl ?_
        refine pm_R_op pm_M178 (pc' := 29) (st' := [.int 2, .int 2, .int 0, .ref 51]) rfl rfl rfl ?_
        refine pm_R_br pm_M178 (pc' := 32) (st' := [.int 0, .ref 51]) rfl rfl ?_
        refine pm_R_op pm_M178 (pc' := 33) (st' := [.int 4, .int 0, .ref 51]) rfl rfl rfl ?_
        refine pm_R_br pm_M178 (pc' := 37) rfl rfl ?_
        refine rf_R_ist pm_M178 T_614 (pc' := 38) rfl e619 (by decide) (by decide) rfl ⟨_, rfl⟩ rfl (fun h623 T624 F625 e626 => ?_)
        have F627 := F_614.trans F625 (by decide)
        have ct628 : rf_ct 2 (upd f618 (Int32.toNatClampNeg 0) 4) ∧ rf_bd 2 (upd f618 (Int32.toNatClampNeg 0) 4) := rf_all0_2 (fun j hj => zz620 j (by have := Int32.le_iff_toInt_le.mp c621; have e0 : (152 : Int32).toInt = 152 := rfl; omega))
        refine pm_R_lo pm_M178 (pc' := 39) rfl rfl rfl ?_
        refine pm_R_op pm_M178 (pc' := 40) (st' := [.int (-1), .ref 41]) rfl rfl rfl ?_
        refine rf_R_put pm_M178 T624 (pc' := 43) rfl rfl rfl (by decide) rfl rfl (sf_weak sf_kn1 (by decide) (by decide)) rfl rfl (fun h630 m633 em634 T631 F632 => ?_)
        have F635 := F627.trans F632 (by decide)
        have B636 : sf_B (-1) (-1) (m633 21) := by rw [em634]; exact sf_kn1
        have W638 : rf_W [10, 12, 13, 14, 16, 17, 18, 21, 22] m m633 := by rw [em634]; exact W617.put (by decide)
        have B639 : sf_B 0 600 (m633 10) := T631.2.2.1 10
        have B640 : sf_B 0 4 (m633 17) := T631.2.2.1 17
        have B641 : sf_B 0 1 (m633 22) := T631.2.2.1 22
        refine pm_R_lo pm_M178 (pc' := 44) rfl rfl rfl ?_
        refine pm_R_op pm_M178 (pc' := 45) (st' := [.int 0, .ref 41]) rfl rfl rfl ?_
        refine rf_R_put pm_M178 T631 (pc' := 48) rfl rfl rfl (by decide) rfl rfl (sf_weak sf_k0 (by decide) (by decide)) rfl rfl (fun h642 m645 em646 T643 F644 => ?_)
        have F647 := F635.trans F644 (by decide)
        have B648 : sf_B (-1) (-1) (m645 21) := by rw [em646]; exact B636
        have B649 : sf_B 0 4 (m645 17) := by rw [em646]; exact B640
        have ek650 : (m645 17).toInt = ((m633 17)).toInt := by rw [em646]; rfl
        have B651 : sf_B 0 1 (m645 22) := by rw [em646]; exact B641
        have ek652 : (m645 22).toInt = ((m633 22)).toInt := by rw [em646]; rfl
        have B653 : sf_B 0 0 (m645 10) := by rw [em646]; exact sf_k0
        have W655 : rf_W [10, 12, 13, 14, 16, 17, 18, 21, 22] m m645 := by rw [em646]; exact W638.put (by decide)
        refine pm_R_lo pm_M178 (pc' := 49) rfl rfl rfl ?_
        refine pm_R_op pm_M178 (pc' := 50) (st' := [.int 0, .ref 41]) rfl rfl rfl ?_
        refine rf_R_put pm_M178 T643 (pc' := 53) rfl rfl rfl (by decide) rfl rfl (sf_weak sf_k0 (by decide) (by decide)) rfl rfl (fun h656 m659 em660 T657 F658 => ?_)
        have F661 := F647.trans F658 (by decide)
        have B662 : sf_B (-1) (-1) (m659 21) := by rw [em660]; exact B648
        have B663 : sf_B 0 1 (m659 22) := by rw [em660]; exact B651
        have ek664 : (m659 22).toInt = ((m633 22)).toInt := by rw [em660]; exact ek652
        have B665 : sf_B 0 0 (m659 10) := by rw [em660]; exact B653
        have ek666 : (m659 10).toInt = ((m645 10)).toInt := by rw [em660]; rfl
        have B667 : sf_B 0 0 (m659 17) := by rw [em660]; exact sf_k0
        have W669 : rf_W [10, 12, 13, 14, 16, 17, 18, 21, 22] m m659 := by rw [em660]; exact W655.put (by decide)
        refine pm_R_lo pm_M178 (pc' := 54) rfl rfl rfl ?_
        refine pm_R_cv pm_M178 (pc' := 57) (a := 41) (ra := []) (rest := []) (ls' := [.ref 41, pm_no, pm_no]) rfl rfl (Or.inl rfl) pm_M179 T657.2.1 rfl (by decide) (Nat.lt_of_lt_of_le (by decide) T657.1) rfl rfl (Nat.le_of_ble_eq_true rfl) rfl rfl ?_
        refine rf_c179 (d := d + 4) T657  (fun m672 w673 h674 T675 F676 W677 X678 X679 => ?_)
        have F680 := F661.trans F676 (by decide)
        have B681 : sf_B (-1) (-1) (m672 21) := by rw [W677 21 (by decide)]; exact B662
        have B682 : sf_B 0 1 (m672 22) := by rw [W677 22 (by decide)]; exact B663
        have ek683 : (m672 22).toInt = ((m633 22)).toInt := by rw [W677 22 (by decide)]; exact ek664
        have B684 : sf_B 0 0 (m672 17) := by rw [W677 17 (by decide)]; exact B667
        have ek685 : (m672 17).toInt = ((m659 17)).toInt := by rw [W677 17 (by decide)]
        have W686 : rf_W [10, 12, 13, 14, 16, 17, 18, 21, 22] m m672 := W669.trans W677 (by decide)
        have B687 : sf_B 0 600 (m672 10) := T675.2.2.1 10
        show pm_R _ 178 57 [.ref 41, .int 2, .int x2_614, pm_no] [] _ _
        have R688 : (m 10).toInt ≤ (m672 10).toInt := (sf_aux88 _ _ _ _ ek666 X678)
        refine pm_R_lo pm_M178 (pc' := 58) rfl rfl rfl ?_
        refine pm_R_op pm_M178 (pc' := 59) (st' := [.int 1, .int 2]) rfl rfl rfl ?_
        refine pm_R_br pm_M178 (pc' := 69) (st' := []) rfl rfl ?_
        refine pm_R_lo pm_M178 (pc' := 70) rfl rfl rfl ?_
        refine pm_R_lo pm_M178 (pc' := 71) rfl rfl rfl ?_
        refine pm_R_cv pm_M178 (pc' := 74) (a := 41) (ra := [.int 2]) (rest := []) (ls' := [.ref 41, .int 2, pm_no, pm_no, pm_no, pm_no]) rfl rfl (Or.inl rfl) pm_M186 T675.2.1 rfl (by decide) (Nat.lt_of_lt_of_le (by decide) T675.1) rfl rfl (Nat.le_of_ble_eq_true rfl) rfl rfl ?_
        have e689 := (F676.cell (by decide) (F658.cell (by decide) (F644.cell (by decide) (F632.cell (by decide) e626))))
        refine rf_c186_2 (d := d + 0) T675 (⟨(upd f618 (Int32.toNatClampNeg 0) 4), e689, ct628.1, fun z => ct628.2⟩) (fun m692 w693 h694 T695 F696 W697 X698 => ?_) (fun m701 w702 h703 T704 F705 W706 X707 X708 => ?_)
        · have F709 := F680.trans F696 (by decide)
          have W710 : rf_W [10, 12, 13, 14, 16, 17, 18, 21, 22] m m692 := W686.trans W697 (by decide)
          have B711 : sf_B 0 600 (m692 10) := T695.2.2.1 10
          have B712 : sf_B 0 4 (m692 17) := T695.2.2.1 17
          have B713 : sf_B 0 1 (m692 22) := T695.2.2.1 22
          show pm_R _ 178 74 [.ref 41, .int 2, .int x2_614, pm_no] [.int 0] _ _
          have R714 : (m 10).toInt ≤ (m692 10).toInt := (sf_aux70 _ _ _ R688 X698)
          refine pm_R_lo pm_M178 (pc' := 75) (ls' := [.ref 41, .int 2, .int 0, pm_no]) (st' := []) rfl rfl rfl ?_
          refine pm_R_lo pm_M178 (pc' := 76) rfl rfl rfl ?_
          refine pm_R_op pm_M178 (pc' := 77) (st' := [.int 1, .int 2]) rfl rfl rfl ?_
          refine pm_R_br pm_M178 (pc' := 97) (st' := []) rfl rfl ?_
          refine pm_R_lo pm_M178 (pc' := 98) rfl rfl rfl ?_
          refine pm_R_op pm_M178 (pc' := 99) (st' := [.int 2, .int 2]) rfl rfl rfl ?_
          refine pm_R_br pm_M178 (pc' := 102) (st' := []) rfl rfl ?_
          refine pm_R_lo pm_M178 (pc' := 103) rfl rfl rfl ?_
          have B715 : sf_B (-1) 99 (m692 21) := T695.2.2.1 21
          refine rf_R_get pm_M178 T695 (pc' := 106) (v := .int (m692 21)) rfl rfl rfl rfl ?_
          refine pm_R_lo pm_M178 (pc' := 107) (pm_q178_1 (Nat.le_of_ble_eq_true rfl)) rfl rfl ?_
          refine rf_R_get pm_M178 T695 (pc' := 110) (v := .ref 51) (pm_q178_1 (Nat.le_of_ble_eq_true rfl)) rfl rfl rfl ?_
          refine pm_R_op pm_M178 (pc' := 111) (st' := [.int 0, .ref 51, .int (m692 21)]) (pm_q178_1 (Nat.le_of_ble_eq_true rfl)) rfl rfl ?_
          obtain ⟨f716, e717⟩ := T695.2.2.2.1 51 (by decide) (by decide)
          refine rf_R_ild pm_M178 T695 (pc' := 112) (pm_q178_1 (Nat.le_of_ble_eq_true rfl)) e717 (by decide) rfl rfl (fun z719 ez720 => ?_)
          refine pm_R_icmp pm_M178 (t := 119) (pc' := 115) (pm_q178_1 (Nat.le_of_ble_eq_true rfl)) rfl rfl (fun c721 => ?_) (fun c721 => ?_)
          · have B722 : sf_B 0 2147483647 z719 := sf_ltR c721 B715 (sf_any z719)
            refine pm_R_op pm_M178 (pc' := 120) (st' := [.int 0]) (pm_q178_1 (Nat.le_of_ble_eq_true rfl)) rfl rfl ?_
            refine pm_R_lo pm_M178 (pc' := 121) (ls' := [.ref 41, .int 2, .int 0, .int 0]) (st' := []) (pm_q178_1 (Nat.le_of_ble_eq_true rfl)) rfl rfl ?_
            refine pm_R_lo pm_M178 (pc' := 122) (pm_q178_1 (Nat.le_of_ble_eq_true rfl)) rfl rfl ?_
            refine pm_R_br pm_M178 (pc' := 145) (st' := []) (pm_q178_1 (Nat.le_of_ble_eq_true rfl)) rfl ?_
            refine pm_R_lo pm_M178 (pc' := 146) (pm_q178_1 (Nat.le_of_ble_eq_true rfl)) rfl rfl ?_
            refine rf_R_get pm_M178 T695 (pc' := 149) (v := .ref 44) (pm_q178_1 (Nat.le_of_ble_eq_true rfl)) rfl rfl rfl ?_
            refine pm_R_op pm_M178 (pc' := 150) (st' := [.int 0, .ref 44]) (pm_q178_1 (Nat.le_of_ble_eq_true rfl)) rfl rfl ?_
            refine pm_R_lo pm_M178 (pc' := 151) (pm_q178_1 (Nat.le_of_ble_eq_true rfl)) rfl rfl ?_
            refine pm_R_br pm_M178 (pc' := 161) (st' := [.int 0, .ref 44]) (pm_q178_1 (Nat.le_of_ble_eq_true rfl)) rfl ?_
            refine pm_R_op pm_M178 (pc' := 162) (st' := [.int 1, .int 0, .ref 44]) (pm_q178_1 (Nat.le_of_ble_eq_true rfl)) rfl rfl ?_
            obtain ⟨f723, e724, b725⟩ := T695.2.2.2.1 44 (by decide) (by decide)
            refine rf_R_ist2 pm_M178 T695 (pc' := 163) (pm_q178_1 (Nat.le_of_ble_eq_true rfl)) e724 (by decide) (by decide) rfl ⟨_, rfl, sf_upd b725 (sf_weak sf_k1 (by decide) (by decide)) _⟩ rfl (fun h726 T727 F728 e729 => ?_)
            have F730 := F709.trans F728 (by decide)
            refine pm_R_lo pm_M178 (pc' := 164) (pm_q178_1 (Nat.le_of_ble_eq_true rfl)) rfl rfl ?_
            refine rf_R_get pm_M178 T727 (pc' := 167) (v := .ref 45) (pm_q178_1 (Nat.le_of_ble_eq_true rfl)) rfl rfl rfl ?_
            refine pm_R_op pm_M178 (pc' := 168) (st' := [.int 0, .ref 45]) (pm_q178_1 (Nat.le_of_ble_eq_true rfl)) rfl rfl ?_
            refine pm_R_lo pm_M178 (pc' := 169) (pm_q178_1 (Nat.le_of_ble_eq_true rfl)) rfl rfl ?_
            refine pm_R_br pm_M178 (pc' := 172) (st' := [.int 0, .ref 45]) (pm_q178_1 (Nat.le_of_ble_eq_true rfl)) rfl ?_
            refine pm_R_lo pm_M178 (pc' := 173) (pm_q178_1 (Nat.le_of_ble_eq_true rfl)) rfl rfl ?_
            have B731 : sf_B 0 600 (m692 16) := T727.2.2.1 16
            refine rf_R_get pm_M178 T727 (pc' := 176) (v := .int (m692 16)) (pm_q178_1 (Nat.le_of_ble_eq_true rfl)) rfl rfl rfl ?_
            refine pm_R_br pm_M178 (pc' := 194) (pm_q178_1 (Nat.le_of_ble_eq_true rfl)) rfl ?_
            obtain ⟨f732, e733, b734⟩ := T727.2.2.2.1 45 (by decide) (by decide)
            refine rf_R_ist2 pm_M178 T727 (pc' := 195) (pm_q178_1 (Nat.le_of_ble_eq_true rfl)) e733 (by decide) (by decide) rfl ⟨_, rfl, sf_upd b734 (sf_weak B731 (by decide) (by decide)) _⟩ rfl (fun h735 T736 F737 e738 => ?_)
            have F739 := F730.trans F737 (by decide)
            refine pm_R_lo pm_M178 (pc' := 196) (pm_q178_1 (Nat.le_of_ble_eq_true rfl)) rfl rfl ?_
            refine rf_R_get pm_M178 T736 (pc' := 199) (v := .ref 44) (pm_q178_1 (Nat.le_of_ble_eq_true rfl)) rfl rfl rfl ?_
            refine pm_R_op pm_M178 (pc' := 200) (st' := [.int 0, .ref 44]) (pm_q178_1 (Nat.le_of_ble_eq_true rfl)) rfl rfl ?_
            have e740 := (F737.cell (by decide) e729)
            refine pm_R_iald pm_M178 (pc' := 201) (v := 1) (pm_q178_1 (Nat.le_of_ble_eq_true rfl)) e740 (Nat.lt_of_lt_of_le (by decide) T736.1) rfl sf_upd_eq rfl ?_
            refine pm_R_br pm_M178 (pc' := 208) (st' := []) (pm_q178_1 (Nat.le_of_ble_eq_true rfl)) rfl ?_
            refine pm_R_op pm_M178 (pc' := 209) (st' := [.int 0]) (pm_q178_1 (Nat.le_of_ble_eq_true rfl)) rfl rfl ?_
            exact pm_R_ret pm_M178 (r := some (.int 0)) (pm_q178_1 (Nat.le_of_ble_eq_true rfl)) rfl (K0 m692 w693 h735 T736 F739 W710)
          · have B743 : sf_B (-2147483648) 99 z719 := sf_leL (Int32.not_lt.mp c721) (sf_any z719) B715
            refine pm_R_op pm_M178 (pc' := 116) (st' := [.int 1]) (pm_q178_1 (Nat.le_of_ble_eq_true rfl)) rfl rfl ?_
            refine pm_R_br pm_M178 (pc' := 120) (pm_q178_1 (Nat.le_of_ble_eq_true rfl)) rfl ?_
            refine pm_R_lo pm_M178 (pc' := 121) (ls' := [.ref 41, .int 2, .int 0, .int 1]) (st' := []) (pm_q178_1 (Nat.le_of_ble_eq_true rfl)) rfl rfl ?_
            refine pm_R_lo pm_M178 (pc' := 122) (pm_q178_1 (Nat.le_of_ble_eq_true rfl)) rfl rfl ?_
            refine pm_R_br pm_M178 (pc' := 145) (st' := []) (pm_q178_1 (Nat.le_of_ble_eq_true rfl)) rfl ?_
            refine pm_R_lo pm_M178 (pc' := 146) (pm_q178_1 (Nat.le_of_ble_eq_true rfl)) rfl rfl ?_
            refine rf_R_get pm_M178 T695 (pc' := 149) (v := .ref 44) (pm_q178_1 (Nat.le_of_ble_eq_true rfl)) rfl rfl rfl ?_
            refine pm_R_op pm_M178 (pc' := 150) (st' := [.int 0, .ref 44]) (pm_q178_1 (Nat.le_of_ble_eq_true rfl)) rfl rfl ?_
            refine pm_R_lo pm_M178 (pc' := 151) (pm_q178_1 (Nat.le_of_ble_eq_true rfl)) rfl rfl ?_
            refine pm_R_br pm_M178 (pc' := 161) (st' := [.int 0, .ref 44]) (pm_q178_1 (Nat.le_of_ble_eq_true rfl)) rfl ?_
            refine pm_R_op pm_M178 (pc' := 162) (st' := [.int 1, .int 0, .ref 44]) (pm_q178_1 (Nat.le_of_ble_eq_true rfl)) rfl rfl ?_
            obtain ⟨f744, e745, b746⟩ := T695.2.2.2.1 44 (by decide) (by decide)
            refine rf_R_ist2 pm_M178 T695 (pc' := 163) (pm_q178_1 (Nat.le_of_ble_eq_true rfl)) e745 (by decide) (by decide) rfl ⟨_, rfl, sf_upd b746 (sf_weak sf_k1 (by decide) (by decide)) _⟩ rfl (fun h747 T748 F749 e750 => ?_)
            have F751 := F709.trans F749 (by decide)
            refine pm_R_lo pm_M178 (pc' := 164) (pm_q178_1 (Nat.le_of_ble_eq_true rfl)) rfl rfl ?_
            refine rf_R_get pm_M178 T748 (pc' := 167) (v := .ref 45) (pm_q178_1 (Nat.le_of_ble_eq_true rfl)) rfl rfl rfl ?_
            refine pm_R_op pm_M178 (pc' := 168) (st' := [.int 0, .ref 45]) (pm_q178_1 (Nat.le_of_ble_eq_true rfl)) rfl rfl ?_
            refine pm_R_lo pm_M178 (pc' := 169) (pm_q178_1 (Nat.le_of_ble_eq_true rfl)) rfl rfl ?_
            refine pm_R_br pm_M178 (pc' := 172) (st' := [.int 0, .ref 45]) (pm_q178_1 (Nat.le_of_ble_eq_true rfl)) rfl ?_
            refine pm_R_lo pm_M178 (pc' := 173) (pm_q178_1 (Nat.le_of_ble_eq_true rfl)) rfl rfl ?_
            have B752 : sf_B 0 600 (m692 16) := T748.2.2.1 16
            refine rf_R_get pm_M178 T748 (pc' := 176) (v := .int (m692 16)) (pm_q178_1 (Nat.le_of_ble_eq_true rfl)) rfl rfl rfl ?_
            refine pm_R_br pm_M178 (pc' := 194) (pm_q178_1 (Nat.le_of_ble_eq_true rfl)) rfl ?_
            obtain ⟨f753, e754, b755⟩ := T748.2.2.2.1 45 (by decide) (by decide)
            refine rf_R_ist2 pm_M178 T748 (pc' := 195) (pm_q178_1 (Nat.le_of_ble_eq_true rfl)) e754 (by decide) (by decide) rfl ⟨_, rfl, sf_upd b755 (sf_weak B752 (by decide) (by decide)) _⟩ rfl (fun h756 T757 F758 e759 => ?_)
            have F760 := F751.trans F758 (by decide)
            refine pm_R_lo pm_M178 (pc' := 196) (pm_q178_1 (Nat.le_of_ble_eq_true rfl)) rfl rfl ?_
            refine rf_R_get pm_M178 T757 (pc' := 199) (v := .ref 44) (pm_q178_1 (Nat.le_of_ble_eq_true rfl)) rfl rfl rfl ?_
            refine pm_R_op pm_M178 (pc' := 200) (st' := [.int 0, .ref 44]) (pm_q178_1 (Nat.le_of_ble_eq_true rfl)) rfl rfl ?_
            have e761 := (F758.cell (by decide) e750)
            refine pm_R_iald pm_M178 (pc' := 201) (v := 1) (pm_q178_1 (Nat.le_of_ble_eq_true rfl)) e761 (Nat.lt_of_lt_of_le (by decide) T757.1) rfl sf_upd_eq rfl ?_
            refine pm_R_br pm_M178 (pc' := 208) (st' := []) (pm_q178_1 (Nat.le_of_ble_eq_true rfl)) rfl ?_
            refine pm_R_op pm_M178 (pc' := 209) (st' := [.int 0]) (pm_q178_1 (Nat.le_of_ble_eq_true rfl)) rfl rfl ?_
            exact pm_R_ret pm_M178 (r := some (.int 0)) (pm_q178_1 (Nat.le_of_ble_eq_true rfl)) rfl (K0 m692 w693 h756 T757 F760 W710)
        · have F764 := F680.trans F705 (by decide)
          have W765 : rf_W [10, 12, 13, 14, 16, 17, 18, 21, 22] m m701 := W686.trans W706 (by decide)
          have B766 : sf_B 0 600 (m701 10) := T704.2.2.1 10
          have B767 : sf_B 0 4 (m701 17) := T704.2.2.1 17
          have B768 : sf_B 0 1 (m701 22) := T704.2.2.1 22
          show pm_R _ 178 74 [.ref 41, .int 2, .int x2_614, pm_no] [.int 1] _ _
          have R769 : (m 10).toInt ≤ (m701 10).toInt := (sf_aux70 _ _ _ R688 X708)
          obtain ⟨f770, e771, ct772, bd773⟩ := X707
          refine pm_R_lo pm_M178 (pc' := 75) (ls' := [.ref 41, .int 2, .int 1, pm_no]) (st' := []) rfl rfl rfl ?_
          refine pm_R_lo pm_M178 (pc' := 76) rfl rfl rfl ?_
          refine pm_R_op pm_M178 (pc' := 77) (st' := [.int 1, .int 2]) rfl rfl rfl ?_
          refine pm_R_br pm_M178 (pc' := 97) (st' := []) rfl rfl ?_
          refine pm_R_lo pm_M178 (pc' := 98) rfl rfl rfl ?_
          refine pm_R_op pm_M178 (pc' := 99) (st' := [.int 2, .int 2]) rfl rfl rfl ?_
          refine pm_R_br pm_M178 (pc' := 102) (st' := []) rfl rfl ?_
          refine pm_R_lo pm_M178 (pc' := 103) rfl rfl rfl ?_
          have B774 : sf_B (-1) 99 (m701 21) := T704.2.2.1 21
          refine rf_R_get pm_M178 T704 (pc' := 106) (v := .int (m701 21)) rfl rfl rfl rfl ?_
          refine pm_R_lo pm_M178 (pc' := 107) (pm_q178_1 (Nat.le_of_ble_eq_true rfl)) rfl rfl ?_
          refine rf_R_get pm_M178 T704 (pc' := 110) (v := .ref 51) (pm_q178_1 (Nat.le_of_ble_eq_true rfl)) rfl rfl rfl ?_
          refine pm_R_op pm_M178 (pc' := 111) (st' := [.int 0, .ref 51, .int (m701 21)]) (pm_q178_1 (Nat.le_of_ble_eq_true rfl)) rfl rfl ?_
          refine rf_R_ild pm_M178 T704 (pc' := 112) (pm_q178_1 (Nat.le_of_ble_eq_true rfl)) e771 (by decide) rfl rfl (fun z775 ez776 => ?_)
          refine pm_R_icmp pm_M178 (t := 119) (pc' := 115) (pm_q178_1 (Nat.le_of_ble_eq_true rfl)) rfl rfl (fun c777 => ?_) (fun c777 => ?_)
          · have B778 : sf_B 0 2147483647 z775 := sf_ltR c777 B774 (sf_any z775)
            refine pm_R_op pm_M178 (pc' := 120) (st' := [.int 0]) (pm_q178_1 (Nat.le_of_ble_eq_true rfl)) rfl rfl ?_
            refine pm_R_lo pm_M178 (pc' := 121) (ls' := [.ref 41, .int 2, .int 1, .int 0]) (st' := []) (pm_q178_1 (Nat.le_of_ble_eq_true rfl)) rfl rfl ?_
            refine pm_R_lo pm_M178 (pc' := 122) (pm_q178_1 (Nat.le_of_ble_eq_true rfl)) rfl rfl ?_
            refine pm_R_br pm_M178 (pc' := 125) (st' := []) (pm_q178_1 (Nat.le_of_ble_eq_true rfl)) rfl ?_
            refine pm_R_lo pm_M178 (pc' := 126) (pm_q178_1 (Nat.le_of_ble_eq_true rfl)) rfl rfl ?_
            refine rf_R_get pm_M178 T704 (pc' := 129) (v := .int (m701 17)) (pm_q178_1 (Nat.le_of_ble_eq_true rfl)) rfl rfl rfl ?_
            refine pm_R_ifc pm_M178 (t := 145) (pc' := 132) (pm_q178_1 (Nat.le_of_ble_eq_true rfl)) rfl rfl (fun c779 => ?_) (fun c779 => ?_)
            · have B780 : sf_B 1 4 (m701 17) := sf_neL0 c779 sf_k0 B767
              refine pm_R_lo pm_M178 (pc' := 146) (pm_q178_1 (Nat.le_of_ble_eq_true rfl)) rfl rfl ?_
              refine rf_R_get pm_M178 T704 (pc' := 149) (v := .ref 44) (pm_q178_1 (Nat.le_of_ble_eq_true rfl)) rfl rfl rfl ?_
              refine pm_R_op pm_M178 (pc' := 150) (st' := [.int 0, .ref 44]) (pm_q178_1 (Nat.le_of_ble_eq_true rfl)) rfl rfl ?_
              refine pm_R_lo pm_M178 (pc' := 151) (pm_q178_1 (Nat.le_of_ble_eq_true rfl)) rfl rfl ?_
              refine pm_R_br pm_M178 (pc' := 154) (st' := [.int 0, .ref 44]) (pm_q178_1 (Nat.le_of_ble_eq_true rfl)) rfl ?_
              refine pm_R_lo pm_M178 (pc' := 155) (pm_q178_1 (Nat.le_of_ble_eq_true rfl)) rfl rfl ?_
              refine rf_R_get pm_M178 T704 (pc' := 158) (v := .int (m701 17)) (pm_q178_1 (Nat.le_of_ble_eq_true rfl)) rfl rfl rfl ?_
              refine pm_R_br pm_M178 (pc' := 162) (pm_q178_1 (Nat.le_of_ble_eq_true rfl)) rfl ?_
              obtain ⟨f781, e782, b783⟩ := T704.2.2.2.1 44 (by decide) (by decide)
              refine rf_R_ist2 pm_M178 T704 (pc' := 163) (pm_q178_1 (Nat.le_of_ble_eq_true rfl)) e782 (by decide) (by decide) rfl ⟨_, rfl, sf_upd b783 (sf_weak B780 (by decide) (by decide)) _⟩ rfl (fun h784 T785 F786 e787 => ?_)
              have F788 := F764.trans F786 (by decide)
              refine pm_R_lo pm_M178 (pc' := 164) (pm_q178_1 (Nat.le_of_ble_eq_true rfl)) rfl rfl ?_
              refine rf_R_get pm_M178 T785 (pc' := 167) (v := .ref 45) (pm_q178_1 (Nat.le_of_ble_eq_true rfl)) rfl rfl rfl ?_
              refine pm_R_op pm_M178 (pc' := 168) (st' := [.int 0, .ref 45]) (pm_q178_1 (Nat.le_of_ble_eq_true rfl)) rfl rfl ?_
              refine pm_R_lo pm_M178 (pc' := 169) (pm_q178_1 (Nat.le_of_ble_eq_true rfl)) rfl rfl ?_
              refine pm_R_br pm_M178 (pc' := 179) (st' := [.int 0, .ref 45]) (pm_q178_1 (Nat.le_of_ble_eq_true rfl)) rfl ?_
              refine pm_R_lo pm_M178 (pc' := 180) (pm_q178_1 (Nat.le_of_ble_eq_true rfl)) rfl rfl ?_
              refine rf_R_get pm_M178 T785 (pc' := 183) (v := .int (m701 17)) (pm_q178_1 (Nat.le_of_ble_eq_true rfl)) rfl rfl rfl ?_
              refine pm_R_ifc pm_M178 (t := 193) (pc' := 186) (pm_q178_1 (Nat.le_of_ble_eq_true rfl)) rfl rfl (fun c789 => absurd c789 (sf_nle B780 sf_k0 (by decide))) (fun c789 => ?_)
              skip
              refine pm_R_lo pm_M178 (pc' := 187) (pm_q178_1 (Nat.le_of_ble_eq_true rfl)) rfl rfl ?_
              have B790 : sf_B 0 600 (m701 18) := T785.2.2.1 18
              refine rf_R_get pm_M178 T785 (pc' := 190) (v := .int (m701 18)) (pm_q178_1 (Nat.le_of_ble_eq_true rfl)) rfl rfl rfl ?_
              refine pm_R_br pm_M178 (pc' := 194) (pm_q178_1 (Nat.le_of_ble_eq_true rfl)) rfl ?_
              obtain ⟨f791, e792, b793⟩ := T785.2.2.2.1 45 (by decide) (by decide)
              refine rf_R_ist2 pm_M178 T785 (pc' := 195) (pm_q178_1 (Nat.le_of_ble_eq_true rfl)) e792 (by decide) (by decide) rfl ⟨_, rfl, sf_upd b793 (sf_weak B790 (by decide) (by decide)) _⟩ rfl (fun h794 T795 F796 e797 => ?_)
              have F798 := F788.trans F796 (by decide)
              refine pm_R_lo pm_M178 (pc' := 196) (pm_q178_1 (Nat.le_of_ble_eq_true rfl)) rfl rfl ?_
              refine rf_R_get pm_M178 T795 (pc' := 199) (v := .ref 44) (pm_q178_1 (Nat.le_of_ble_eq_true rfl)) rfl rfl rfl ?_
              refine pm_R_op pm_M178 (pc' := 200) (st' := [.int 0, .ref 44]) (pm_q178_1 (Nat.le_of_ble_eq_true rfl)) rfl rfl ?_
              have e799 := (F796.cell (by decide) e787)
              refine pm_R_iald pm_M178 (pc' := 201) (v := (m701 17)) (pm_q178_1 (Nat.le_of_ble_eq_true rfl)) e799 (Nat.lt_of_lt_of_le (by decide) T795.1) rfl sf_upd_eq rfl ?_
              refine pm_R_ifc pm_M178 (t := 208) (pc' := 204) (pm_q178_1 (Nat.le_of_ble_eq_true rfl)) rfl rfl (fun c802 => ?_) (fun c802 => absurd (Classical.not_not.mp c802) (sf_neq1 B780 sf_k0 (by decide)))
              skip
              refine pm_R_op pm_M178 (pc' := 209) (st' := [.int 0]) (pm_q178_1 (Nat.le_of_ble_eq_true rfl)) rfl rfl ?_
              exact pm_R_ret pm_M178 (r := some (.int 0)) (pm_q178_1 (Nat.le_of_ble_eq_true rfl)) rfl (K0 m701 w702 h794 T795 F798 W765)
            · have B803 : sf_B 0 0 (m701 17) := sf_eqL (Classical.not_not.mp c779) sf_k0
              refine pm_R_lo pm_M178 (pc' := 133) (pm_q178_1 (Nat.le_of_ble_eq_true rfl)) rfl rfl ?_
              refine pm_R_br pm_M178 (pc' := 145) (st' := []) (pm_q178_1 (Nat.le_of_ble_eq_true rfl)) rfl ?_
              refine pm_R_lo pm_M178 (pc' := 146) (pm_q178_1 (Nat.le_of_ble_eq_true rfl)) rfl rfl ?_
              refine rf_R_get pm_M178 T704 (pc' := 149) (v := .ref 44) (pm_q178_1 (Nat.le_of_ble_eq_true rfl)) rfl rfl rfl ?_
              refine pm_R_op pm_M178 (pc' := 150) (st' := [.int 0, .ref 44]) (pm_q178_1 (Nat.le_of_ble_eq_true rfl)) rfl rfl ?_
              refine pm_R_lo pm_M178 (pc' := 151) (pm_q178_1 (Nat.le_of_ble_eq_true rfl)) rfl rfl ?_
              refine pm_R_br pm_M178 (pc' := 154) (st' := [.int 0, .ref 44]) (pm_q178_1 (Nat.le_of_ble_eq_true rfl)) rfl ?_
              refine pm_R_lo pm_M178 (pc' := 155) (pm_q178_1 (Nat.le_of_ble_eq_true rfl)) rfl rfl ?_
              refine rf_R_get pm_M178 T704 (pc' := 158) (v := .int (m701 17)) (pm_q178_1 (Nat.le_of_ble_eq_true rfl)) rfl rfl rfl ?_
              refine pm_R_br pm_M178 (pc' := 162) (pm_q178_1 (Nat.le_of_ble_eq_true rfl)) rfl ?_
              obtain ⟨f804, e805, b806⟩ := T704.2.2.2.1 44 (by decide) (by decide)
              refine rf_R_ist2 pm_M178 T704 (pc' := 163) (pm_q178_1 (Nat.le_of_ble_eq_true rfl)) e805 (by decide) (by decide) rfl ⟨_, rfl, sf_upd b806 (sf_weak B803 (by decide) (by decide)) _⟩ rfl (fun h807 T808 F809 e810 => ?_)
              have F811 := F764.trans F809 (by decide)
              refine pm_R_lo pm_M178 (pc' := 164) (pm_q178_1 (Nat.le_of_ble_eq_true rfl)) rfl rfl ?_
              refine rf_R_get pm_M178 T808 (pc' := 167) (v := .ref 45) (pm_q178_1 (Nat.le_of_ble_eq_true rfl)) rfl rfl rfl ?_
              refine pm_R_op pm_M178 (pc' := 168) (st' := [.int 0, .ref 45]) (pm_q178_1 (Nat.le_of_ble_eq_true rfl)) rfl rfl ?_
              refine pm_R_lo pm_M178 (pc' := 169) (pm_q178_1 (Nat.le_of_ble_eq_true rfl)) rfl rfl ?_
              refine pm_R_br pm_M178 (pc' := 179) (st' := [.int 0, .ref 45]) (pm_q178_1 (Nat.le_of_ble_eq_true rfl)) rfl ?_
              refine pm_R_lo pm_M178 (pc' := 180) (pm_q178_1 (Nat.le_of_ble_eq_true rfl)) rfl rfl ?_
              refine rf_R_get pm_M178 T808 (pc' := 183) (v := .int (m701 17)) (pm_q178_1 (Nat.le_of_ble_eq_true rfl)) rfl rfl rfl ?_
              refine pm_R_ifc pm_M178 (t := 193) (pc' := 186) (pm_q178_1 (Nat.le_of_ble_eq_true rfl)) rfl rfl (fun c812 => ?_) (fun c812 => absurd (Int32.not_le.mp c812) (sf_nlt sf_k0 B803 (by decide)))
              skip
              refine pm_R_op pm_M178 (pc' := 194) (st' := [.int (-1), .int 0, .ref 45]) (pm_q178_1 (Nat.le_of_ble_eq_true rfl)) rfl rfl ?_
              obtain ⟨f813, e814, b815⟩ := T808.2.2.2.1 45 (by decide) (by decide)
              refine rf_R_ist2 pm_M178 T808 (pc' := 195) (pm_q178_1 (Nat.le_of_ble_eq_true rfl)) e814 (by decide) (by decide) rfl ⟨_, rfl, sf_upd b815 (sf_weak sf_kn1 (by decide) (by decide)) _⟩ rfl (fun h816 T817 F818 e819 => ?_)
              have F820 := F811.trans F818 (by decide)
              refine pm_R_lo pm_M178 (pc' := 196) (pm_q178_1 (Nat.le_of_ble_eq_true rfl)) rfl rfl ?_
              refine rf_R_get pm_M178 T817 (pc' := 199) (v := .ref 44) (pm_q178_1 (Nat.le_of_ble_eq_true rfl)) rfl rfl rfl ?_
              refine pm_R_op pm_M178 (pc' := 200) (st' := [.int 0, .ref 44]) (pm_q178_1 (Nat.le_of_ble_eq_true rfl)) rfl rfl ?_
              have e821 := (F818.cell (by decide) e810)
              refine pm_R_iald pm_M178 (pc' := 201) (v := (m701 17)) (pm_q178_1 (Nat.le_of_ble_eq_true rfl)) e821 (Nat.lt_of_lt_of_le (by decide) T817.1) rfl sf_upd_eq rfl ?_
              refine pm_R_ifc pm_M178 (t := 208) (pc' := 204) (pm_q178_1 (Nat.le_of_ble_eq_true rfl)) rfl rfl (fun c824 => absurd (sf_pt2 B803 sf_k0) c824) (fun c824 => ?_)
              refine pm_R_op pm_M178 (pc' := 205) (st' := [.int 1]) (pm_q178_1 (Nat.le_of_ble_eq_true rfl)) rfl rfl ?_
              refine pm_R_br pm_M178 (pc' := 209) (pm_q178_1 (Nat.le_of_ble_eq_true rfl)) rfl ?_
              have e825 := (F818.cell (by decide) (F809.cell (by decide) e771))
              exact pm_R_ret pm_M178 (r := some (.int 1)) (pm_q178_1 (Nat.le_of_ble_eq_true rfl)) rfl (K1 m701 w702 h816 T817 F820 W765 ⟨f770, e825, (by have z : ((m701 17)).toInt = 0 := (sf_aux35 _ B803.1 B803.2); exact (bd773 z))⟩)
          · have B826 : sf_B (-2147483648) 99 z775 := sf_leL (Int32.not_lt.mp c777) (sf_any z775) B774
            refine pm_R_op pm_M178 (pc' := 116) (st' := [.int 1]) (pm_q178_1 (Nat.le_of_ble_eq_true rfl)) rfl rfl ?_
            refine pm_R_br pm_M178 (pc' := 120) (pm_q178_1 (Nat.le_of_ble_eq_true rfl)) rfl ?_
            refine pm_R_lo pm_M178 (pc' := 121) (ls' := [.ref 41, .int 2, .int 1, .int 1]) (st' := []) (pm_q178_1 (Nat.le_of_ble_eq_true rfl)) rfl rfl ?_
            refine pm_R_lo pm_M178 (pc' := 122) (pm_q178_1 (Nat.le_of_ble_eq_true rfl)) rfl rfl ?_
            refine pm_R_br pm_M178 (pc' := 125) (st' := []) (pm_q178_1 (Nat.le_of_ble_eq_true rfl)) rfl ?_
            refine pm_R_lo pm_M178 (pc' := 126) (pm_q178_1 (Nat.le_of_ble_eq_true rfl)) rfl rfl ?_
            refine rf_R_get pm_M178 T704 (pc' := 129) (v := .int (m701 17)) (pm_q178_1 (Nat.le_of_ble_eq_true rfl)) rfl rfl rfl ?_
            refine pm_R_ifc pm_M178 (t := 145) (pc' := 132) (pm_q178_1 (Nat.le_of_ble_eq_true rfl)) rfl rfl (fun c827 => ?_) (fun c827 => ?_)
            · have B828 : sf_B 1 4 (m701 17) := sf_neL0 c827 sf_k0 B767
              refine pm_R_lo pm_M178 (pc' := 146) (pm_q178_1 (Nat.le_of_ble_eq_true rfl)) rfl rfl ?_
              refine rf_R_get pm_M178 T704 (pc' := 149) (v := .ref 44) (pm_q178_1 (Nat.le_of_ble_eq_true rfl)) rfl rfl rfl ?_
              refine pm_R_op pm_M178 (pc' := 150) (st' := [.int 0, .ref 44]) (pm_q178_1 (Nat.le_of_ble_eq_true rfl)) rfl rfl ?_
              refine pm_R_lo pm_M178 (pc' := 151) (pm_q178_1 (Nat.le_of_ble_eq_true rfl)) rfl rfl ?_
              refine pm_R_br pm_M178 (pc' := 154) (st' := [.int 0, .ref 44]) (pm_q178_1 (Nat.le_of_ble_eq_true rfl)) rfl ?_
              refine pm_R_lo pm_M178 (pc' := 155) (pm_q178_1 (Nat.le_of_ble_eq_true rfl)) rfl rfl ?_
              refine rf_R_get pm_M178 T704 (pc' := 158) (v := .int (m701 17)) (pm_q178_1 (Nat.le_of_ble_eq_true rfl)) rfl rfl rfl ?_
              refine pm_R_br pm_M178 (pc' := 162) (pm_q178_1 (Nat.le_of_ble_eq_true rfl)) rfl ?_
              obtain ⟨f829, e830, b831⟩ := T704.2.2.2.1 44 (by decide) (by decide)
              refine rf_R_ist2 pm_M178 T704 (pc' := 163) (pm_q178_1 (Nat.le_of_ble_eq_true rfl)) e830 (by decide) (by decide) rfl ⟨_, rfl, sf_upd b831 (sf_weak B828 (by decide) (by decide)) _⟩ rfl (fun h832 T833 F834 e835 => ?_)
              have F836 := F764.trans F834 (by decide)
              refine pm_R_lo pm_M178 (pc' := 164) (pm_q178_1 (Nat.le_of_ble_eq_true rfl)) rfl rfl ?_
              refine rf_R_get pm_M178 T833 (pc' := 167) (v := .ref 45) (pm_q178_1 (Nat.le_of_ble_eq_true rfl)) rfl rfl rfl ?_
              refine pm_R_op pm_M178 (pc' := 168) (st' := [.int 0, .ref 45]) (pm_q178_1 (Nat.le_of_ble_eq_true rfl)) rfl rfl ?_
              refine pm_R_lo pm_M178 (pc' := 169) (pm_q178_1 (Nat.le_of_ble_eq_true rfl)) rfl rfl ?_
              refine pm_R_br pm_M178 (pc' := 179) (st' := [.int 0, .ref 45]) (pm_q178_1 (Nat.le_of_ble_eq_true rfl)) rfl ?_
              refine pm_R_lo pm_M178 (pc' := 180) (pm_q178_1 (Nat.le_of_ble_eq_true rfl)) rfl rfl ?_
              refine rf_R_get pm_M178 T833 (pc' := 183) (v := .int (m701 17)) (pm_q178_1 (Nat.le_of_ble_eq_true rfl)) rfl rfl rfl ?_
              refine pm_R_ifc pm_M178 (t := 193) (pc' := 186) (pm_q178_1 (Nat.le_of_ble_eq_true rfl)) rfl rfl (fun c837 => absurd c837 (sf_nle B828 sf_k0 (by decide))) (fun c837 => ?_)
              skip
              refine pm_R_lo pm_M178 (pc' := 187) (pm_q178_1 (Nat.le_of_ble_eq_true rfl)) rfl rfl ?_
              have B838 : sf_B 0 600 (m701 18) := T833.2.2.1 18
              refine rf_R_get pm_M178 T833 (pc' := 190) (v := .int (m701 18)) (pm_q178_1 (Nat.le_of_ble_eq_true rfl)) rfl rfl rfl ?_
              refine pm_R_br pm_M178 (pc' := 194) (pm_q178_1 (Nat.le_of_ble_eq_true rfl)) rfl ?_
              obtain ⟨f839, e840, b841⟩ := T833.2.2.2.1 45 (by decide) (by decide)
              refine rf_R_ist2 pm_M178 T833 (pc' := 195) (pm_q178_1 (Nat.le_of_ble_eq_true rfl)) e840 (by decide) (by decide) rfl ⟨_, rfl, sf_upd b841 (sf_weak B838 (by decide) (by decide)) _⟩ rfl (fun h842 T843 F844 e845 => ?_)
              have F846 := F836.trans F844 (by decide)
              refine pm_R_lo pm_M178 (pc' := 196) (pm_q178_1 (Nat.le_of_ble_eq_true rfl)) rfl rfl ?_
              refine rf_R_get pm_M178 T843 (pc' := 199) (v := .ref 44) (pm_q178_1 (Nat.le_of_ble_eq_true rfl)) rfl rfl rfl ?_
              refine pm_R_op pm_M178 (pc' := 200) (st' := [.int 0, .ref 44]) (pm_q178_1 (Nat.le_of_ble_eq_true rfl)) rfl rfl ?_
              have e847 := (F844.cell (by decide) e835)
              refine pm_R_iald pm_M178 (pc' := 201) (v := (m701 17)) (pm_q178_1 (Nat.le_of_ble_eq_true rfl)) e847 (Nat.lt_of_lt_of_le (by decide) T843.1) rfl sf_upd_eq rfl ?_
              refine pm_R_ifc pm_M178 (t := 208) (pc' := 204) (pm_q178_1 (Nat.le_of_ble_eq_true rfl)) rfl rfl (fun c850 => ?_) (fun c850 => absurd (Classical.not_not.mp c850) (sf_neq1 B828 sf_k0 (by decide)))
              skip
              refine pm_R_op pm_M178 (pc' := 209) (st' := [.int 0]) (pm_q178_1 (Nat.le_of_ble_eq_true rfl)) rfl rfl ?_
              exact pm_R_ret pm_M178 (r := some (.int 0)) (pm_q178_1 (Nat.le_of_ble_eq_true rfl)) rfl (K0 m701 w702 h842 T843 F846 W765)
            · have B851 : sf_B 0 0 (m701 17) := sf_eqL (Classical.not_not.mp c827) sf_k0
              refine pm_R_lo pm_M178 (pc' := 133) (pm_q178_1 (Nat.le_of_ble_eq_true rfl)) rfl rfl ?_
              refine pm_R_br pm_M178 (pc' := 136) (st' := []) (pm_q178_1 (Nat.le_of_ble_eq_true rfl)) rfl ?_
              refine pm_R_lo pm_M178 (pc' := 137) (pm_q178_1 (Nat.le_of_ble_eq_true rfl)) rfl rfl ?_
              refine pm_R_op pm_M178 (pc' := 138) (st' := [.int 4, .ref 41]) (pm_q178_1 (Nat.le_of_ble_eq_true rfl)) rfl rfl ?_
              refine pm_R_lo pm_M178 (pc' := 139) (pm_q178_1 (Nat.le_of_ble_eq_true rfl)) rfl rfl ?_
              have B852 : sf_B 0 600 (m701 12) := T704.2.2.1 12
              refine rf_R_get pm_M178 T704 (pc' := 142) (v := .int (m701 12)) (pm_q178_1 (Nat.le_of_ble_eq_true rfl)) rfl rfl rfl ?_
              refine pm_R_cv pm_M178 (pc' := 145) (a := 41) (ra := [.int (m701 12), .int 4]) (rest := []) (ls' := [.ref 41, .int 4, .int (m701 12)]) (pm_q178_1 (Nat.le_of_ble_eq_true rfl)) rfl (Or.inl rfl) pm_M182 T704.2.1 rfl (by decide) (Nat.lt_of_lt_of_le (by decide) T704.1) rfl rfl (Nat.le_of_ble_eq_true rfl) rfl rfl ?_
              refine rf_c182 (d := d + 5) T704 (sf_weak sf_k4 (by decide) (by decide)) B852 (fun m855 w856 h857 T858 F859 W860 B861 => ?_)
              have F862 := F764.trans F859 (by decide)
              have B863 : sf_B 0 600 (m855 10) := by rw [W860 10 (by decide)]; exact B766
              have ek864 : (m855 10).toInt = ((m701 10)).toInt := by rw [W860 10 (by decide)]
              have B865 : sf_B 0 1 (m855 22) := by rw [W860 22 (by decide)]; exact B768
              have ek866 : (m855 22).toInt = ((m701 22)).toInt := by rw [W860 22 (by decide)]
              have W867 : rf_W [10, 12, 13, 14, 16, 17, 18, 21, 22] m m855 := W765.trans W860 (by decide)
              have B868 : sf_B 0 4 (m855 17) := T858.2.2.1 17
              show pm_R _ 178 145 [.ref 41, .int 2, .int 1, .int 1] [] _ _
              refine pm_R_lo pm_M178 (pc' := 146) (pm_q178_1 (Nat.le_of_ble_eq_true rfl)) rfl rfl ?_
              refine rf_R_get pm_M178 T858 (pc' := 149) (v := .ref 44) (pm_q178_1 (Nat.le_of_ble_eq_true rfl)) rfl rfl rfl ?_
              refine pm_R_op pm_M178 (pc' := 150) (st' := [.int 0, .ref 44]) (pm_q178_1 (Nat.le_of_ble_eq_true rfl)) rfl rfl ?_
              refine pm_R_lo pm_M178 (pc' := 151) (pm_q178_1 (Nat.le_of_ble_eq_true rfl)) rfl rfl ?_
              refine pm_R_br pm_M178 (pc' := 154) (st' := [.int 0, .ref 44]) (pm_q178_1 (Nat.le_of_ble_eq_true rfl)) rfl ?_
              refine pm_R_lo pm_M178 (pc' := 155) (pm_q178_1 (Nat.le_of_ble_eq_true rfl)) rfl rfl ?_
              refine rf_R_get pm_M178 T858 (pc' := 158) (v := .int (m855 17)) (pm_q178_1 (Nat.le_of_ble_eq_true rfl)) rfl rfl rfl ?_
              refine pm_R_br pm_M178 (pc' := 162) (pm_q178_1 (Nat.le_of_ble_eq_true rfl)) rfl ?_
              obtain ⟨f869, e870, b871⟩ := T858.2.2.2.1 44 (by decide) (by decide)
              refine rf_R_ist2 pm_M178 T858 (pc' := 163) (pm_q178_1 (Nat.le_of_ble_eq_true rfl)) e870 (by decide) (by decide) rfl ⟨_, rfl, sf_upd b871 (sf_weak B861 (by decide) (by decide)) _⟩ rfl (fun h872 T873 F874 e875 => ?_)
              have F876 := F862.trans F874 (by decide)
              refine pm_R_lo pm_M178 (pc' := 164) (pm_q178_1 (Nat.le_of_ble_eq_true rfl)) rfl rfl ?_
              refine rf_R_get pm_M178 T873 (pc' := 167) (v := .ref 45) (pm_q178_1 (Nat.le_of_ble_eq_true rfl)) rfl rfl rfl ?_
              refine pm_R_op pm_M178 (pc' := 168) (st' := [.int 0, .ref 45]) (pm_q178_1 (Nat.le_of_ble_eq_true rfl)) rfl rfl ?_
              refine pm_R_lo pm_M178 (pc' := 169) (pm_q178_1 (Nat.le_of_ble_eq_true rfl)) rfl rfl ?_
              refine pm_R_br pm_M178 (pc' := 179) (st' := [.int 0, .ref 45]) (pm_q178_1 (Nat.le_of_ble_eq_true rfl)) rfl ?_
              refine pm_R_lo pm_M178 (pc' := 180) (pm_q178_1 (Nat.le_of_ble_eq_true rfl)) rfl rfl ?_
              refine rf_R_get pm_M178 T873 (pc' := 183) (v := .int (m855 17)) (pm_q178_1 (Nat.le_of_ble_eq_true rfl)) rfl rfl rfl ?_
              refine pm_R_ifc pm_M178 (t := 193) (pc' := 186) (pm_q178_1 (Nat.le_of_ble_eq_true rfl)) rfl rfl (fun c877 => absurd c877 (sf_nle B861 sf_k0 (by decide))) (fun c877 => ?_)
              skip
              refine pm_R_lo pm_M178 (pc' := 187) (pm_q178_1 (Nat.le_of_ble_eq_true rfl)) rfl rfl ?_
              have B878 : sf_B 0 600 (m855 18) := T873.2.2.1 18
              refine rf_R_get pm_M178 T873 (pc' := 190) (v := .int (m855 18)) (pm_q178_1 (Nat.le_of_ble_eq_true rfl)) rfl rfl rfl ?_
              refine pm_R_br pm_M178 (pc' := 194) (pm_q178_1 (Nat.le_of_ble_eq_true rfl)) rfl ?_
              obtain ⟨f879, e880, b881⟩ := T873.2.2.2.1 45 (by decide) (by decide)
              refine rf_R_ist2 pm_M178 T873 (pc' := 195) (pm_q178_1 (Nat.le_of_ble_eq_true rfl)) e880 (by decide) (by decide) rfl ⟨_, rfl, sf_upd b881 (sf_weak B878 (by decide) (by decide)) _⟩ rfl (fun h882 T883 F884 e885 => ?_)
              have F886 := F876.trans F884 (by decide)
              refine pm_R_lo pm_M178 (pc' := 196) (pm_q178_1 (Nat.le_of_ble_eq_true rfl)) rfl rfl ?_
              refine rf_R_get pm_M178 T883 (pc' := 199) (v := .ref 44) (pm_q178_1 (Nat.le_of_ble_eq_true rfl)) rfl rfl rfl ?_
              refine pm_R_op pm_M178 (pc' := 200) (st' := [.int 0, .ref 44]) (pm_q178_1 (Nat.le_of_ble_eq_true rfl)) rfl rfl ?_
              have e887 := (F884.cell (by decide) e875)
              refine pm_R_iald pm_M178 (pc' := 201) (v := (m855 17)) (pm_q178_1 (Nat.le_of_ble_eq_true rfl)) e887 (Nat.lt_of_lt_of_le (by decide) T883.1) rfl sf_upd_eq rfl ?_
              refine pm_R_ifc pm_M178 (t := 208) (pc' := 204) (pm_q178_1 (Nat.le_of_ble_eq_true rfl)) rfl rfl (fun c890 => ?_) (fun c890 => absurd (Classical.not_not.mp c890) (sf_neq1 B861 sf_k0 (by decide)))
              skip
              refine pm_R_op pm_M178 (pc' := 209) (st' := [.int 0]) (pm_q178_1 (Nat.le_of_ble_eq_true rfl)) rfl rfl ?_
              exact pm_R_ret pm_M178 (r := some (.int 0)) (pm_q178_1 (Nat.le_of_ble_eq_true rfl)) rfl (K0 m855 w856 h882 T883 F886 W867)
      · have B891 : sf_B 0 151 x2_614 := sf_ltL (Int32.not_le.mp c621) Bx2_614 sf_k152
        refine pm_R_lo pm_M178 (pc' := 10) rfl rfl rfl ?_
        refine rf_R_get pm_M178 T_614 (pc' := 13) (v := .ref 51) rfl rfl rfl rfl ?_
        refine pm_R_lo pm_M178 (pc' := 14) rfl rfl rfl ?_
        refine pm_R_op pm_M178 (pc' := 15) (st' := [.int 0, .int x2_614, .ref 51]) rfl rfl rfl ?_
        refine rf_R_ist pm_M178 T_614 (pc' := 16) rfl e619 (by decide) (by decide) (sf_in B891 (by decide) (by decide)) ⟨_, rfl⟩ rfl (fun h892 T893 F894 e895 => ?_)
        have F896 := F_614.trans F894 (by decide)
        refine sf_R_iinc pm_M178 (pc' := 19) (ls' := fun z => [.ref 41, .int 2, .int z, pm_no]) rfl B891 rfl (by decide) (by decide) (by decide) (fun _ => rfl) rfl (fun z897 e898 B899 => ?_)
        show pm_R _ 178 19 [.ref 41, .int 2, .int z897, pm_no] [] _ _
        refine pm_R_br pm_M178 (pc' := 2) rfl rfl ?_
        exact ih_614 _ (sf_up hN_614 e898 B891 (by decide) (by decide)) h892 m_614 w_614 z897 T893 F896 W_614 (sf_weak B899 (by decide) (by decide)) ⟨(upd f618 (Int32.toNatClampNeg x2_614) 0), e895, rf_zero zz620 e898 B891 (by decide)⟩ rfl
  obtain ⟨f900, e901⟩ := T.2.2.2.1 51 (by decide) (by decide)
  exact L_614 _ h m w 0 T (rf_G.refl [41, 44, 45, 51, 52] h) (rf_W.refl _ _) (sf_weak sf_k0 (by decide) (by decide)) ⟨f900, e901, fun j hj => absurd hj (by show ¬ (j : Int) < 0; omega)⟩ rfl
