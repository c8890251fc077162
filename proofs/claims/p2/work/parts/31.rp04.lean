set_option maxRecDepth 100000 in
set_option maxHeartbeats 4000000 in
/-- SilentTableModel.readText -/
theorem rf_c178_3 {d : Nat} {m : Nat → Int32} {w : Int64} {h : pm_H} {Q : Option Value → pm_H → Prop}  (T : rf_T m w h)  (K0 : ∀ (m' : Nat → Int32) (w' : Int64) (h' : pm_H), rf_T m' w' h' → rf_G [41, 44, 45, 51, 52] h h' → rf_W [10, 12, 13, 14, 16, 17, 18, 21, 22] m m' → Q (some (.int 0)) h') (K1 : ∀ (m' : Nat → Int32) (w' : Int64) (h' : pm_H), rf_T m' w' h' → rf_G [41, 44, 45, 51, 52] h h' → rf_W [10, 12, 13, 14, 16, 17, 18, 21, 22] m m' → (∃ f : Nat → Int32, h'.2.2 51 = .inl (0, 152, .inl f) ∧ rf_bd 3 f) → Q (some (.int 1)) h') : pm_R (d + 6) 178 0 [.ref 41, .int 3, pm_no, pm_no] [] h Q := by
  refine pm_R_op pm_M178 (pc' := 1) (st' := [.int 0]) rfl rfl rfl ?_
  refine pm_R_lo pm_M178 (pc' := 2) (ls' := [.ref 41, .int 3, .int 0, pm_no]) (st' := []) rfl rfl rfl ?_
  have L_376 : ∀ (N : Nat) (h_376 : pm_H) (m_376 : Nat → Int32) (w_376 : Int64) (x2_376 : Int32), rf_T m_376 w_376 h_376 → rf_G [41, 44, 45, 51, 52] h h_376 → rf_W [] m m_376 → sf_B 0 152 x2_376 → (∃ f : Nat → Int32, h_376.2.2 51 = .inl (0, 152, .inl f) ∧ ∀ j : Nat, (j : Int) < x2_376.toInt → f j = 0) → (152 - x2_376.toInt).toNat = N → pm_R (d + 6) 178 2 [.ref 41, .int 3, .int x2_376, pm_no] [] h_376 Q := by
    intro N
    induction N using Nat.strongRecOn with
    | ind N ih_376 =>
      intro h_376 m_376 w_376 x2_376 T_376 F_376 W_376 Bx2_376 X_376 hN_376
      have W379 : rf_W [10, 12, 13, 14, 16, 17, 18, 21, 22] m m_376 := (rf_W.refl [10, 12, 13, 14, 16, 17, 18, 21, 22] m).trans W_376 (by decide)
      obtain ⟨f380, e381, zz382⟩ := X_376
      refine pm_R_lo pm_M178 (pc' := 3) rfl rfl rfl ?_
      refine pm_R_op pm_M178 (pc' := 6) (st' := [.int 152, .int x2_376]) rfl rfl rfl ?_
      refine pm_R_icmp pm_M178 (t := 22) (pc' := 9) rfl rfl rfl (fun c383 => ?_) (fun c383 => ?_)
      · have B384 : sf_B 152 152 x2_376 := sf_leR c383 sf_k152 Bx2_376
        refine pm_R_lo pm_M178 (pc' := 23) rfl rfl rfl ?_
        refine rf_R_get pm_M178 T_376 (pc' := 26) (v := .ref 51) rfl rfl rfl rfl ?_
        refine pm_R_op pm_M178 (pc' := 27) (st' := [.int 0, .ref 51]) rfl rfl rfl ?_
        refine pm_R_lo pm_M178 (pc' := 28) rfl rfl rfl ?_
        refine pm_R_op pm_M178 (pc' := 29) (st' := [.int 2, .int 3, .int 0, .ref 51]) rfl rfl rfl ?_
        refine pm_R_br pm_M178 (pc' := 36) (st' := [.int 0, .ref 51]) rfl rfl ?_
        refine pm_R_op pm_M178 (pc' := 37) (st' := [.int 0, .int 0, .ref 51]) rfl rfl rfl ?_
        refine rf_R_ist pm_M178 T_376 (pc' := 38) rfl e381 (by decide) (by decide) rfl ⟨_, rfl⟩ rfl (fun h385 T386 F387 e388 => ?_)
        have F389 := F_376.trans F387 (by decide)
        have ct390 : rf_ct 3 (upd f380 (Int32.toNatClampNeg 0) 0) ∧ rf_bd 3 (upd f380 (Int32.toNatClampNeg 0) 0) := rf_all0_3 (fun j hj => zz382 j (by have := Int32.le_iff_toInt_le.mp c383; have e0 : (152 : Int32).toInt = 152 := rfl; omega))
        refine pm_R_lo pm_M178 (pc' := 39) rfl rfl rfl ?_
        refine pm_R_op pm_M178 (pc' := 40) (st' := [.int (-1), .ref 41]) rfl rfl rfl ?_
        refine rf_R_put pm_M178 T386 (pc' := 43) rfl rfl rfl (by decide) rfl rfl (sf_weak sf_kn1 (by decide) (by decide)) rfl rfl (fun h392 m395 em396 T393 F394 => ?_)
        have F397 := F389.trans F394 (by decide)
        have B398 : sf_B (-1) (-1) (m395 21) := by rw [em396]; exact sf_kn1
        have W400 : rf_W [10, 12, 13, 14, 16, 17, 18, 21, 22] m m395 := by rw [em396]; exact W379.put (by decide)
        refine pm_R_lo pm_M178 (pc' := 44) rfl rfl rfl ?_
        refine pm_R_op pm_M178 (pc' := 45) (st' := [.int 0, .ref 41]) rfl rfl rfl ?_
        refine rf_R_put pm_M178 T393 (pc' := 48) rfl rfl rfl (by decide) rfl rfl (sf_weak sf_k0 (by decide) (by decide)) rfl rfl (fun h401 m404 em405 T402 F403 => ?_)
        have F406 := F397.trans F403 (by decide)
        have B407 : sf_B (-1) (-1) (m404 21) := by rw [em405]; exact B398
        have B408 : sf_B 0 0 (m404 10) := by rw [em405]; exact sf_k0
        have W410 : rf_W [10, 12, 13, 14, 16, 17, 18, 21, 22] m m404 := by rw [em405]; exact W400.put (by decide)
        refine pm_R_lo pm_M178 (pc' := 49) rfl rfl rfl ?_
        refine pm_R_op pm_M178 (pc' := 50) (st' := [.int 0, .ref 41]) rfl rfl rfl ?_
        refine rf_R_put pm_M178 T402 (pc' := 53) rfl rfl rfl (by decide) rfl rfl (sf_weak sf_k0 (by decide) (by decide)) rfl rfl (fun h411 m414 em415 T412 F413 => ?_)
        have F416 := F406.trans F413 (by decide)
        have B417 : sf_B (-1) (-1) (m414 21) := by rw [em415]; exact B407
        have B418 : sf_B 0 0 (m414 10) := by rw [em415]; exact B408
        have ek419 : (m414 10).toInt = ((m404 10)).toInt := by rw [em415]; rfl
        have B420 : sf_B 0 0 (m414 17) := by rw [em415]; exact sf_k0
        have W422 : rf_W [10, 12, 13, 14, 16, 17, 18, 21, 22] m m414 := by rw [em415]; exact W410.put (by decide)
        refine pm_R_lo pm_M178 (pc' := 54) rfl rfl rfl ?_
        refine pm_R_cv pm_M178 (pc' := 57) (a := 41) (ra := []) (rest := []) (ls' := [.ref 41, pm_no, pm_no]) rfl rfl (Or.inl rfl) pm_M179 T412.2.1 rfl (by decide) (Nat.lt_of_lt_of_le (by decide) T412.1) rfl rfl (Nat.le_of_ble_eq_true rfl) rfl rfl ?_
        refine rf_c179 (d := d + 4) T412  (fun m425 w426 h427 T428 F429 W430 X431 X432 => ?_)
        have F433 := F416.trans F429 (by decide)
        have B434 : sf_B (-1) (-1) (m425 21) := by rw [W430 21 (by decide)]; exact B417
        have B435 : sf_B 0 0 (m425 17) := by rw [W430 17 (by decide)]; exact B420
        have ek436 : (m425 17).toInt = ((m414 17)).toInt := by rw [W430 17 (by decide)]
        have W437 : rf_W [10, 12, 13, 14, 16, 17, 18, 21, 22] m m425 := W422.trans W430 (by decide)
        show pm_R _ 178 57 [.ref 41, .int 3, .int x2_376, pm_no] [] _ _
        refine pm_R_lo pm_M178 (pc' := 58) rfl rfl rfl ?_
        refine pm_R_op pm_M178 (pc' := 59) (st' := [.int 1, .int 3]) rfl rfl rfl ?_
        refine pm_R_br pm_M178 (pc' := 69) (st' := []) rfl rfl ?_
        refine pm_R_lo pm_M178 (pc' := 70) rfl rfl rfl ?_
        refine pm_R_lo pm_M178 (pc' := 71) rfl rfl rfl ?_
        refine pm_R_cv pm_M178 (pc' := 74) (a := 41) (ra := [.int 3]) (rest := []) (ls' := [.ref 41, .int 3, pm_no, pm_no, pm_no, pm_no]) rfl rfl (Or.inl rfl) pm_M186 T428.2.1 rfl (by decide) (Nat.lt_of_lt_of_le (by decide) T428.1) rfl rfl (Nat.le_of_ble_eq_true rfl) rfl rfl ?_
        have e438 := (F429.cell (by decide) (F413.cell (by decide) (F403.cell (by decide) (F394.cell (by decide) e388))))
        refine rf_c186_3 (d := d + 0) T428 (⟨(upd f380 (Int32.toNatClampNeg 0) 0), e438, ct390.1, fun z => ct390.2⟩) (fun m441 w442 h443 T444 F445 W446 X447 => ?_) (fun m450 w451 h452 T453 F454 W455 X456 X457 => ?_)
        · have F458 := F433.trans F445 (by decide)
          have W459 : rf_W [10, 12, 13, 14, 16, 17, 18, 21, 22] m m441 := W437.trans W446 (by decide)
          show pm_R _ 178 74 [.ref 41, .int 3, .int x2_376, pm_no] [.int 0] _ _
          refine pm_R_lo pm_M178 (pc' := 75) (ls' := [.ref 41, .int 3, .int 0, pm_no]) (st' := []) rfl rfl rfl ?_
          refine pm_R_lo pm_M178 (pc' := 76) rfl rfl rfl ?_
          refine pm_R_op pm_M178 (pc' := 77) (st' := [.int 1, .int 3]) rfl rfl rfl ?_
          refine pm_R_br pm_M178 (pc' := 97) (st' := []) rfl rfl ?_
          refine pm_R_lo pm_M178 (pc' := 98) rfl rfl rfl ?_
          refine pm_R_op pm_M178 (pc' := 99) (st' := [.int 2, .int 3]) rfl rfl rfl ?_
          refine pm_R_br pm_M178 (pc' := 119) (st' := []) rfl rfl ?_
          refine pm_R_op pm_M178 (pc' := 120) (st' := [.int 0]) (pm_q178_1 (Nat.le_of_ble_eq_true rfl)) rfl rfl ?_
          refine pm_R_lo pm_M178 (pc' := 121) (ls' := [.ref 41, .int 3, .int 0, .int 0]) (st' := []) (pm_q178_1 (Nat.le_of_ble_eq_true rfl)) rfl rfl ?_
          refine pm_R_lo pm_M178 (pc' := 122) (pm_q178_1 (Nat.le_of_ble_eq_true rfl)) rfl rfl ?_
          refine pm_R_br pm_M178 (pc' := 145) (st' := []) (pm_q178_1 (Nat.le_of_ble_eq_true rfl)) rfl ?_
          refine pm_R_lo pm_M178 (pc' := 146) (pm_q178_1 (Nat.le_of_ble_eq_true rfl)) rfl rfl ?_
          refine rf_R_get pm_M178 T444 (pc' := 149) (v := .ref 44) (pm_q178_1 (Nat.le_of_ble_eq_true rfl)) rfl rfl rfl ?_
          refine pm_R_op pm_M178 (pc' := 150) (st' := [.int 0, .ref 44]) (pm_q178_1 (Nat.le_of_ble_eq_true rfl)) rfl rfl ?_
          refine pm_R_lo pm_M178 (pc' := 151) (pm_q178_1 (Nat.le_of_ble_eq_true rfl)) rfl rfl ?_
          refine pm_R_br pm_M178 (pc' := 161) (st' := [.int 0, .ref 44]) (pm_q178_1 (Nat.le_of_ble_eq_true rfl)) rfl ?_
          refine pm_R_op pm_M178 (pc' := 162) (st' := [.int 1, .int 0, .ref 44]) (pm_q178_1 (Nat.le_of_ble_eq_true rfl)) rfl rfl ?_
          obtain ⟨f460, e461, b462⟩ := T444.2.2.2.1 44 (by decide) (by decide)
          refine rf_R_ist2 pm_M178 T444 (pc' := 163) (pm_q178_1 (Nat.le_of_ble_eq_true rfl)) e461 (by decide) (by decide) rfl ⟨_, rfl, sf_upd b462 (sf_weak sf_k1 (by decide) (by decide)) _⟩ rfl (fun h463 T464 F465 e466 => ?_)
          have F467 := F458.trans F465 (by decide)
          refine pm_R_lo pm_M178 (pc' := 164) (pm_q178_1 (Nat.le_of_ble_eq_true rfl)) rfl rfl ?_
          refine rf_R_get pm_M178 T464 (pc' := 167) (v := .ref 45) (pm_q178_1 (Nat.le_of_ble_eq_true rfl)) rfl rfl rfl ?_
          refine pm_R_op pm_M178 (pc' := 168) (st' := [.int 0, .ref 45]) (pm_q178_1 (Nat.le_of_ble_eq_true rfl)) rfl rfl ?_
          refine pm_R_lo pm_M178 (pc' := 169) (pm_q178_1 (Nat.le_of_ble_eq_true rfl)) rfl rfl ?_
          refine pm_R_br pm_M178 (pc' := 172) (st' := [.int 0, .ref 45]) (pm_q178_1 (Nat.le_of_ble_eq_true rfl)) rfl ?_
          refine pm_R_lo pm_M178 (pc' := 173) (pm_q178_1 (Nat.le_of_ble_eq_true rfl)) rfl rfl ?_
          have B468 : sf_B 0 600 (m441 16) := T464.2.2.1 16
          refine rf_R_get pm_M178 T464 (pc' := 176) (v := .int (m441 16)) (pm_q178_1 (Nat.le_of_ble_eq_true rfl)) rfl rfl rfl ?_
          refine pm_R_br pm_M178 (pc' := 194) (pm_q178_1 (Nat.le_of_ble_eq_true rfl)) rfl ?_
          obtain ⟨f469, e470, b471⟩ := T464.2.2.2.1 45 (by decide) (by decide)
          refine rf_R_ist2 pm_M178 T464 (pc' := 195) (pm_q178_1 (Nat.le_of_ble_eq_true rfl)) e470 (by decide) (by decide) rfl ⟨_, rfl, sf_upd b471 (sf_weak B468 (by decide) (by decide)) _⟩ rfl (fun h472 T473 F474 e475 => ?_)
          have F476 := F467.trans F474 (by decide)
          refine pm_R_lo pm_M178 (pc' := 196) (pm_q178_1 (Nat.le_of_ble_eq_true rfl)) rfl rfl ?_
          refine rf_R_get pm_M178 T473 (pc' := 199) (v := .ref 44) (pm_q178_1 (Nat.le_of_ble_eq_true rfl)) rfl rfl rfl ?_
          refine pm_R_op pm_M178 (pc' := 200) (st' := [.int 0, .ref 44]) (pm_q178_1 (Nat.le_of_ble_eq_true rfl)) rfl rfl ?_
          have e477 := (F474.cell (by decide) e466)
          refine pm_R_iald pm_M178 (pc' := 201) (v := 1) (pm_q178_1 (Nat.le_of_ble_eq_true rfl)) e477 (Nat.lt_of_lt_of_le (by decide) T473.1) rfl rfl rfl ?_
          refine pm_R_br pm_M178 (pc' := 208) (st' := []) (pm_q178_1 (Nat.le_of_ble_eq_true rfl)) rfl ?_
          refine pm_R_op pm_M178 (pc' := 209) (st' := [.int 0]) (pm_q178_1 (Nat.le_of_ble_eq_true rfl)) rfl rfl ?_
          exact pm_R_ret pm_M178 (r := some (.int 0)) (pm_q178_1 (Nat.le_of_ble_eq_true rfl)) rfl (K0 m441 w442 h472 T473 F476 W459)
        · have F480 := F433.trans F454 (by decide)
          have W481 : rf_W [10, 12, 13, 14, 16, 17, 18, 21, 22] m m450 := W437.trans W455 (by decide)
          show pm_R _ 178 74 [.ref 41, .int 3, .int x2_376, pm_no] [.int 1] _ _
          obtain ⟨f482, e483, ct484, bd485⟩ := X456
          have B486 : sf_B 0 4 (m450 17) := T453.2.2.1 17
          refine pm_R_lo pm_M178 (pc' := 75) (ls' := [.ref 41, .int 3, .int 1, pm_no]) (st' := []) rfl rfl rfl ?_
          refine pm_R_lo pm_M178 (pc' := 76) rfl rfl rfl ?_
          refine pm_R_op pm_M178 (pc' := 77) (st' := [.int 1, .int 3]) rfl rfl rfl ?_
          refine pm_R_br pm_M178 (pc' := 97) (st' := []) rfl rfl ?_
          refine pm_R_lo pm_M178 (pc' := 98) rfl rfl rfl ?_
          refine pm_R_op pm_M178 (pc' := 99) (st' := [.int 2, .int 3]) rfl rfl rfl ?_
          refine pm_R_br pm_M178 (pc' := 119) (st' := []) rfl rfl ?_
          refine pm_R_op pm_M178 (pc' := 120) (st' := [.int 0]) (pm_q178_1 (Nat.le_of_ble_eq_true rfl)) rfl rfl ?_
          refine pm_R_lo pm_M178 (pc' := 121) (ls' := [.ref 41, .int 3, .int 1, .int 0]) (st' := []) (pm_q178_1 (Nat.le_of_ble_eq_true rfl)) rfl rfl ?_
          refine pm_R_lo pm_M178 (pc' := 122) (pm_q178_1 (Nat.le_of_ble_eq_true rfl)) rfl rfl ?_
          refine pm_R_br pm_M178 (pc' := 125) (st' := []) (pm_q178_1 (Nat.le_of_ble_eq_true rfl)) rfl ?_
          refine pm_R_lo pm_M178 (pc' := 126) (pm_q178_1 (Nat.le_of_ble_eq_true rfl)) rfl rfl ?_
          refine rf_R_get pm_M178 T453 (pc' := 129) (v := .int (m450 17)) (pm_q178_1 (Nat.le_of_ble_eq_true rfl)) rfl rfl rfl ?_
          refine pm_R_ifc pm_M178 (t := 145) (pc' := 132) (pm_q178_1 (Nat.le_of_ble_eq_true rfl)) rfl rfl (fun c487 => ?_) (fun c487 => ?_)
          · have B488 : sf_B 1 4 (m450 17) := sf_neL0 c487 sf_k0 B486
            refine pm_R_lo pm_M178 (pc' := 146) (pm_q178_1 (Nat.le_of_ble_eq_true rfl)) rfl rfl ?_
            refine rf_R_get pm_M178 T453 (pc' := 149) (v := .ref 44) (pm_q178_1 (Nat.le_of_ble_eq_true rfl)) rfl rfl rfl ?_
            refine pm_R_op pm_M178 (pc' := 150) (st' := [.int 0, .ref 44]) (pm_q178_1 (Nat.le_of_ble_eq_true rfl)) rfl rfl ?_
            refine pm_R_lo pm_M178 (pc' := 151) (pm_q178_1 (Nat.le_of_ble_eq_true rfl)) rfl rfl ?_
            refine pm_R_br pm_M178 (pc' := 154) (st' := [.int 0, .ref 44]) (pm_q178_1 (Nat.le_of_ble_eq_true rfl)) rfl ?_
            refine pm_R_lo pm_M178 (pc' := 155) (pm_q178_1 (Nat.le_of_ble_eq_true rfl)) rfl rfl ?_
            refine rf_R_get pm_M178 T453 (pc' := 158) (v := .int (m450 17)) (pm_q178_1 (Nat.le_of_ble_eq_true rfl)) rfl rfl rfl ?_
            refine pm_R_br pm_M178 (pc' := 162) (pm_q178_1 (Nat.le_of_ble_eq_true rfl)) rfl ?_
            obtain ⟨f489, e490, b491⟩ := T453.2.2.2.1 44 (by decide) (by decide)
            refine rf_R_ist2 pm_M178 T453 (pc' := 163) (pm_q178_1 (Nat.le_of_ble_eq_true rfl)) e490 (by decide) (by decide) rfl ⟨_, rfl, sf_upd b491 (sf_weak B488 (by decide) (by decide)) _⟩ rfl (fun h492 T493 F494 e495 => ?_)
            have F496 := F480.trans F494 (by decide)
            refine pm_R_lo pm_M178 (pc' := 164) (pm_q178_1 (Nat.le_of_ble_eq_true rfl)) rfl rfl ?_
            refine rf_R_get pm_M178 T493 (pc' := 167) (v := .ref 45) (pm_q178_1 (Nat.le_of_ble_eq_true rfl)) rfl rfl rfl ?_
            refine pm_R_op pm_M178 (pc' := 168) (st' := [.int 0, .ref 45]) (pm_q178_1 (Nat.le_of_ble_eq_true rfl)) rfl rfl ?_
            refine pm_R_lo pm_M178 (pc' := 169) (pm_q178_1 (Nat.le_of_ble_eq_true rfl)) rfl rfl ?_
            refine pm_R_br pm_M178 (pc' := 179) (st' := [.int 0, .ref 45]) (pm_q178_1 (Nat.le_of_ble_eq_true rfl)) rfl ?_
            refine pm_R_lo pm_M178 (pc' := 180) (pm_q178_1 (Nat.le_of_ble_eq_true rfl)) rfl rfl ?_
            refine rf_R_get pm_M178 T493 (pc' := 183) (v := .int (m450 17)) (pm_q178_1 (Nat.le_of_ble_eq_true rfl)) rfl rfl rfl ?_
            refine pm_R_ifc pm_M178 (t := 193) (pc' := 186) (pm_q178_1 (Nat.le_of_ble_eq_true rfl)) rfl rfl (fun c497 => absurd c497 (sf_nle B488 sf_k0 (by decide))) (fun c497 => ?_)
            skip
            refine pm_R_lo pm_M178 (pc' := 187) (pm_q178_1 (Nat.le_of_ble_eq_true rfl)) rfl rfl ?_
            have B498 : sf_B 0 600 (m450 18) := T493.2.2.1 18
            refine rf_R_get pm_M178 T493 (pc' := 190) (v := .int (m450 18)) (pm_q178_1 (Nat.le_of_ble_eq_true rfl)) rfl rfl rfl ?_
            refine pm_R_br pm_M178 (pc' := 194) (pm_q178_1 (Nat.le_of_ble_eq_true rfl)) rfl ?_
            obtain ⟨f499, e500, b501⟩ := T493.2.2.2.1 45 (by decide) (by decide)
            refine rf_R_ist2 pm_M178 T493 (pc' := 195) (pm_q178_1 (Nat.le_of_ble_eq_true rfl)) e500 (by decide) (by decide) rfl ⟨_, rfl, sf_upd b501 (sf_weak B498 (by decide) (by decide)) _⟩ rfl (fun h502 T503 F504 e505 => ?_)
            have F506 := F496.trans F504 (by decide)
            refine pm_R_lo pm_M178 (pc' := 196) (pm_q178_1 (Nat.le_of_ble_eq_true rfl)) rfl rfl ?_
            refine rf_R_get pm_M178 T503 (pc' := 199) (v := .ref 44) (pm_q178_1 (Nat.le_of_ble_eq_true rfl)) rfl rfl rfl ?_
            refine pm_R_op pm_M178 (pc' := 200) (st' := [.int 0, .ref 44]) (pm_q178_1 (Nat.le_of_ble_eq_true rfl)) rfl rfl ?_
            have e507 := (F504.cell (by decide) e495)
            refine pm_R_iald pm_M178 (pc' := 201) (v := (m450 17)) (pm_q178_1 (Nat.le_of_ble_eq_true rfl)) e507 (Nat.lt_of_lt_of_le (by decide) T503.1) rfl rfl rfl ?_
            refine pm_R_ifc pm_M178 (t := 208) (pc' := 204) (pm_q178_1 (Nat.le_of_ble_eq_true rfl)) rfl rfl (fun c510 => ?_) (fun c510 => absurd (Classical.not_not.mp c510) (sf_neq1 B488 sf_k0 (by decide)))
            skip
            refine pm_R_op pm_M178 (pc' := 209) (st' := [.int 0]) (pm_q178_1 (Nat.le_of_ble_eq_true rfl)) rfl rfl ?_
            exact pm_R_ret pm_M178 (r := some (.int 0)) (pm_q178_1 (Nat.le_of_ble_eq_true rfl)) rfl (K0 m450 w451 h502 T503 F506 W481)
          · have B511 : sf_B 0 0 (m450 17) := sf_eqL (Classical.not_not.mp c487) sf_k0
            refine pm_R_lo pm_M178 (pc' := 133) (pm_q178_1 (Nat.le_of_ble_eq_true rfl)) rfl rfl ?_
            refine pm_R_br pm_M178 (pc' := 145) (st' := []) (pm_q178_1 (Nat.le_of_ble_eq_true rfl)) rfl ?_
            refine pm_R_lo pm_M178 (pc' := 146) (pm_q178_1 (Nat.le_of_ble_eq_true rfl)) rfl rfl ?_
            refine rf_R_get pm_M178 T453 (pc' := 149) (v := .ref 44) (pm_q178_1 (Nat.le_of_ble_eq_true rfl)) rfl rfl rfl ?_
            refine pm_R_op pm_M178 (pc' := 150) (st' := [.int 0, .ref 44]) (pm_q178_1 (Nat.le_of_ble_eq_true rfl)) rfl rfl ?_
            refine pm_R_lo pm_M178 (pc' := 151) (pm_q178_1 (Nat.le_of_ble_eq_true rfl)) rfl rfl ?_
            refine pm_R_br pm_M178 (pc' := 154) (st' := [.int 0, .ref 44]) (pm_q178_1 (Nat.le_of_ble_eq_true rfl)) rfl ?_
            refine pm_R_lo pm_M178 (pc' := 155) (pm_q178_1 (Nat.le_of_ble_eq_true rfl)) rfl rfl ?_
            refine rf_R_get pm_M178 T453 (pc' := 158) (v := .int (m450 17)) (pm_q178_1 (Nat.le_of_ble_eq_true rfl)) rfl rfl rfl ?_
            refine pm_R_br pm_M178 (pc' := 162) (pm_q178_1 (Nat.le_of_ble_eq_true rfl)) rfl ?_
            obtain ⟨f512, e513, b514⟩ := T453.2.2.2.1 44 (by decide) (by decide)
            refine rf_R_ist2 pm_M178 T453 (pc' := 163) (pm_q178_1 (Nat.le_of_ble_eq_true rfl)) e513 (by decide) (by decide) rfl ⟨_, rfl, sf_upd b514 (sf_weak B511 (by decide) (by decide)) _⟩ rfl (fun h515 T516 F517 e518 => ?_)
            have F519 := F480.trans F517 (by decide)
            refine pm_R_lo pm_M178 (pc' := 164) (pm_q178_1 (Nat.le_of_ble_eq_true rfl)) rfl rfl ?_
            refine rf_R_get pm_M178 T516 (pc' := 167) (v := .ref 45) (pm_q178_1 (Nat.le_of_ble_eq_true rfl)) rfl rfl rfl ?_
            refine pm_R_op pm_M178 (pc' := 168) (st' := [.int 0, .ref 45]) (pm_q178_1 (Nat.le_of_ble_eq_true rfl)) rfl rfl ?_
            refine pm_R_lo pm_M178 (pc' := 169) (pm_q178_1 (Nat.le_of_ble_eq_true rfl)) rfl rfl ?_
            refine pm_R_br pm_M178 (pc' := 179) (st' := [.int 0, .ref 45]) (pm_q178_1 (Nat.le_of_ble_eq_true rfl)) rfl ?_
            refine pm_R_lo pm_M178 (pc' := 180) (pm_q178_1 (Nat.le_of_ble_eq_true rfl)) rfl rfl ?_
            refine rf_R_get pm_M178 T516 (pc' := 183) (v := .int (m450 17)) (pm_q178_1 (Nat.le_of_ble_eq_true rfl)) rfl rfl rfl ?_
            refine pm_R_ifc pm_M178 (t := 193) (pc' := 186) (pm_q178_1 (Nat.le_of_ble_eq_true rfl)) rfl rfl (fun c520 => ?_) (fun c520 => absurd (Int32.not_le.mp c520) (sf_nlt sf_k0 B511 (by decide)))
            skip
            refine pm_R_op pm_M178 (pc' := 194) (st' := [.int (-1), .int 0, .ref 45]) (pm_q178_1 (Nat.le_of_ble_eq_true rfl)) rfl rfl ?_
            obtain ⟨f521, e522, b523⟩ := T516.2.2.2.1 45 (by decide) (by decide)
            refine rf_R_ist2 pm_M178 T516 (pc' := 195) (pm_q178_1 (Nat.le_of_ble_eq_true rfl)) e522 (by decide) (by decide) rfl ⟨_, rfl, sf_upd b523 (sf_weak sf_kn1 (by decide) (by decide)) _⟩ rfl (fun h524 T525 F526 e527 => ?_)
            have F528 := F519.trans F526 (by decide)
            refine pm_R_lo pm_M178 (pc' := 196) (pm_q178_1 (Nat.le_of_ble_eq_true rfl)) rfl rfl ?_
            refine rf_R_get pm_M178 T525 (pc' := 199) (v := .ref 44) (pm_q178_1 (Nat.le_of_ble_eq_true rfl)) rfl rfl rfl ?_
            refine pm_R_op pm_M178 (pc' := 200) (st' := [.int 0, .ref 44]) (pm_q178_1 (Nat.le_of_ble_eq_true rfl)) rfl rfl ?_
            have e529 := (F526.cell (by decide) e518)
            refine pm_R_iald pm_M178 (pc' := 201) (v := (m450 17)) (pm_q178_1 (Nat.le_of_ble_eq_true rfl)) e529 (Nat.lt_of_lt_of_le (by decide) T525.1) rfl rfl rfl ?_
            refine pm_R_ifc pm_M178 (t := 208) (pc' := 204) (pm_q178_1 (Nat.le_of_ble_eq_true rfl)) rfl rfl (fun c532 => absurd (sf_pt2 B511 sf_k0) c532) (fun c532 => ?_)
            refine pm_R_op pm_M178 (pc' := 205) (st' := [.int 1]) (pm_q178_1 (Nat.le_of_ble_eq_true rfl)) rfl rfl ?_
            refine pm_R_br pm_M178 (pc' := 209) (pm_q178_1 (Nat.le_of_ble_eq_true rfl)) rfl ?_
            have e533 := (F526.cell (by decide) (F517.cell (by decide) e483))
            exact pm_R_ret pm_M178 (r := some (.int 1)) (pm_q178_1 (Nat.le_of_ble_eq_true rfl)) rfl (K1 m450 w451 h524 T525 F528 W481 ⟨f482, e533, (by have z : ((m450 17)).toInt = 0 := (sf_aux35 _ B511.1 B511.2); exact (bd485 z))⟩)
      · have B534 : sf_B 0 151 x2_376 := sf_ltL (Int32.not_le.mp c383) Bx2_376 sf_k152
        refine pm_R_lo pm_M178 (pc' := 10) rfl rfl rfl ?_
        refine rf_R_get pm_M178 T_376 (pc' := 13) (v := .ref 51) rfl rfl rfl rfl ?_
        refine pm_R_lo pm_M178 (pc' := 14) rfl rfl rfl ?_
        refine pm_R_op pm_M178 (pc' := 15) (st' := [.int 0, .int x2_376, .ref 51]) rfl rfl rfl ?_
        refine rf_R_ist pm_M178 T_376 (pc' := 16) rfl e381 (by decide) (by decide) (sf_in B534 (by decide) (by decide)) ⟨_, rfl⟩ rfl (fun h535 T536 F537 e538 => ?_)
        have F539 := F_376.trans F537 (by decide)
        refine sf_R_iinc pm_M178 (pc' := 19) (ls' := fun z => [.ref 41, .int 3, .int z, pm_no]) rfl B534 rfl (by decide) (by decide) (by decide) (fun _ => rfl) rfl (fun z540 e541 B542 => ?_)
        show pm_R _ 178 19 [.ref 41, .int 3, .int z540, pm_no] [] _ _
        refine pm_R_br pm_M178 (pc' := 2) rfl rfl ?_
        exact ih_376 _ (sf_up hN_376 e541 B534 (by decide) (by decide)) h535 m_376 w_376 z540 T536 F539 W_376 (sf_weak B542 (by decide) (by decide)) ⟨(upd f380 (Int32.toNatClampNeg x2_376) 0), e538, rf_zero zz382 e541 B534 (by decide)⟩ rfl
  obtain ⟨f543, e544⟩ := T.2.2.2.1 51 (by decide) (by decide)
  exact L_376 _ h m w 0 T (rf_G.refl [41, 44, 45, 51, 52] h) (rf_W.refl _ _) (sf_weak sf_k0 (by decide) (by decide)) ⟨f543, e544, fun j hj => absurd hj (by show ¬ (j : Int) < 0; omega)⟩ rfl
