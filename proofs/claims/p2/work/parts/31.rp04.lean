theorem sf_aux75 (v0 : Int)  : v0 = 0 := by omega
theorem sf_aux76 (v0 v1 v2 : Int) (q0 : v0 = v1) (q1 : v2 = v0) (q2 : v2 = 0) : v1 = 0 := by omega
theorem sf_aux77 (v0 v1 v2 v3 : Int) (q0 : v0 = v1) (q1 : v2 ≤ v1) (q2 : v0 ≤ v3) : v2 ≤ v3 := by omega
set_option maxRecDepth 100000 in
set_option maxHeartbeats 4000000 in
/-- SilentTableModel.mealLine -/
theorem rf_c189 {d : Nat} {m : Nat → Int32} {w : Int64} {h : pm_H} {Q : Option Value → pm_H → Prop} {a0 : Int64} {a1 : Int32} (T : rf_T m w h) (Ba1 : sf_B 0 600 a1) (X : rf_I 2 (m 17) h) (K0 : ∀ (m' : Nat → Int32) (w' : Int64) (h' : pm_H), rf_T m' w' h' → rf_G [41, 51, 52] h h' → rf_W [10, 12, 13, 14, 16, 17, 18, 21, 22] m m' → (m 10).toInt ≤ (m' 10).toInt → Q (some (.int 0)) h') (K1 : ∀ (m' : Nat → Int32) (w' : Int64) (h' : pm_H), rf_T m' w' h' → rf_G [41, 51, 52] h h' → rf_W [10, 12, 13, 14, 16, 17, 18, 21, 22] m m' → rf_I 2 (m' 17) h' → (m 10).toInt ≤ (m' 10).toInt → Q (some (.int 1)) h') : pm_R (d + 4) 189 0 [.ref 41, .long a0, pm_no, .int a1, pm_no] [] h Q := by
  have B1 : sf_B 0 600 (m 10) := T.2.2.1 10
  obtain ⟨f2, e3, ct4, bd5⟩ := X
  have B6 : sf_B 0 4 (m 17) := T.2.2.1 17
  refine pm_R_lo pm_M189 (pc' := 1) rfl rfl rfl ?_
  refine pm_R_ldc2 pm_M189 (pc' := 4) rfl rfl rfl ?_
  refine sf_R_lcmp pm_M189 (pc' := 5) rfl rfl (fun z7 e8 => ?_)
  refine pm_R_ifc pm_M189 (t := 37) (pc' := 8) rfl rfl rfl (fun c9 => ?_) (fun c9 => ?_)
  · have B10 : sf_B 0 0 z7 := sf_eqL c9 sf_k0
    have B11 : lf_B 495622124659 495622124659 a0 := lf_eqB e8 B10 (⟨by decide, by decide⟩ : lf_B 495622124659 495622124659 495622124659)
    refine pm_R_lo pm_M189 (pc' := 38) rfl rfl rfl ?_
    refine pm_R_ldc2 pm_M189 (pc' := 41) rfl rfl rfl ?_
    refine pm_R_op pm_M189 (pc' := 42) (st' := [.int z7]) rfl (by show some (Value.int (lg_cmp a0 495622124659) :: _) = _; rw [← e8]) rfl ?_
    refine pm_R_ifc pm_M189 (t := 62) (pc' := 45) rfl rfl rfl (fun c14 => ?_) (fun c14 => absurd (sf_pt2 B10 sf_k0) c14)
    refine pm_R_lo pm_M189 (pc' := 63) rfl rfl rfl ?_
    refine pm_R_cv pm_M189 (pc' := 66) (a := 41) (ra := []) (rest := []) (ls' := [.ref 41, pm_no, pm_no]) rfl rfl (Or.inl rfl) pm_M179 T.2.1 rfl (by decide) (Nat.lt_of_lt_of_le (by decide) T.1) rfl rfl (Nat.le_of_ble_eq_true rfl) rfl rfl ?_
    refine rf_c179 (d := d + 2) T  (fun m17 w18 h19 T20 F21 W22 X23 X24 => ?_)
    have F25 := (rf_G.refl [41, 51, 52] h).trans F21 (by decide)
    have B26 : sf_B 0 4 (m17 17) := by rw [W22 17 (by decide)]; exact B6
    have ek27 : (m17 17).toInt = ((m 17)).toInt := by rw [W22 17 (by decide)]
    have W28 : rf_W [10, 12, 13, 14, 16, 17, 18, 21, 22] m m17 := (rf_W.refl [10, 12, 13, 14, 16, 17, 18, 21, 22] m).trans W22 (by decide)
    have B29 : sf_B 0 600 (m17 10) := T20.2.2.1 10
    have B30 : sf_B 0 1 (m17 22) := T20.2.2.1 22
    show pm_R _ 189 66 [.ref 41, .long a0, pm_no, .int a1, pm_no] [] _ _
    have R31 : (m 10).toInt ≤ (m17 10).toInt := (sf_aux51 _ _ X23)
    refine pm_R_lo pm_M189 (pc' := 67) rfl rfl rfl ?_
    refine pm_R_ldc2 pm_M189 (pc' := 70) rfl rfl rfl ?_
    refine pm_R_op pm_M189 (pc' := 71) (st' := [.int z7]) rfl (by show some (Value.int (lg_cmp a0 495622124659) :: _) = _; rw [← e8]) rfl ?_
    refine pm_R_ifc pm_M189 (t := 137) (pc' := 74) rfl rfl rfl (fun c34 => absurd (sf_pt2 B10 sf_k0) c34) (fun c34 => ?_)
    refine pm_R_lo pm_M189 (pc' := 75) rfl rfl rfl ?_
    have B35 : sf_B 0 4 (m17 13) := T20.2.2.1 13
    refine rf_R_get pm_M189 T20 (pc' := 78) (v := .int (m17 13)) rfl rfl rfl rfl ?_
    refine pm_R_op pm_M189 (pc' := 79) (st' := [.int 3, .int (m17 13)]) rfl rfl rfl ?_
    refine pm_R_icmp pm_M189 (t := 98) (pc' := 82) rfl rfl rfl (fun c36 => ?_) (fun c36 => ?_)
    · skip
      refine pm_R_lo pm_M189 (pc' := 99) rfl rfl rfl ?_
      refine pm_R_op pm_M189 (pc' := 100) (st' := [.int 0, .ref 41]) rfl rfl rfl ?_
      refine pm_R_op pm_M189 (pc' := 102) (st' := [.int 6, .int 0, .ref 41]) rfl rfl rfl ?_
      refine pm_R_op pm_M189 (pc' := 103) (st' := [.int (-1), .int 6, .int 0, .ref 41]) rfl rfl rfl ?_
      refine pm_R_cv pm_M189 (pc' := 106) (a := 41) (ra := [.int (-1), .int 6, .int 0]) (rest := []) (ls' := [.ref 41, .int 0, .int 6, .int (-1)]) rfl rfl (Or.inl rfl) pm_M183 T20.2.1 rfl (by decide) (Nat.lt_of_lt_of_le (by decide) T20.1) rfl rfl (Nat.le_of_ble_eq_true rfl) rfl rfl ?_
      obtain ⟨f37, e38, b39⟩ := T20.2.2.2.1 52 (by decide) (by decide)
      refine rf_c183_0_6 (d := d + 1) T20  (fun m42 w43 h44 T45 F46 W47 X48 => ?_) (fun m51 w52 h53 T54 F55 W56 X57 X58 X59 X60 X61 => ?_) (fun m64 w65 h66 T67 F68 W69 X70 X71 X72 B73 B74 => ?_)
      · have F75 := F25.trans F46 (by decide)
        have W76 : rf_W [10, 12, 13, 14, 16, 17, 18, 21, 22] m m42 := W28.trans W47 (by decide)
        have B77 : sf_B 0 600 (m42 10) := T45.2.2.1 10
        have B78 : sf_B 0 4 (m42 17) := T45.2.2.1 17
        have B79 : sf_B 0 1 (m42 22) := T45.2.2.1 22
        show pm_R _ 189 106 [.ref 41, .long a0, pm_no, .int a1, pm_no] [.int 0] _ _
        have R80 : (m 10).toInt ≤ (m42 10).toInt := (sf_aux70 _ _ _ R31 X48)
        refine pm_R_lo pm_M189 (pc' := 108) (ls' := [.ref 41, .long a0, pm_no, .int a1, .int 0]) (st' := []) rfl rfl rfl ?_
        refine pm_R_lo pm_M189 (pc' := 109) rfl rfl rfl ?_
        refine rf_R_get pm_M189 T45 (pc' := 112) (v := .ref 51) rfl rfl rfl rfl ?_
        refine pm_R_op pm_M189 (pc' := 113) (st' := [.int 0, .ref 51]) rfl rfl rfl ?_
        refine pm_R_lo pm_M189 (pc' := 115) (pm_q189_1 (Nat.le_of_ble_eq_true rfl)) rfl rfl ?_
        refine pm_R_br pm_M189 (pc' := 127) (st' := [.int 0, .ref 51]) (pm_q189_1 (Nat.le_of_ble_eq_true rfl)) rfl ?_
        refine pm_R_lo pm_M189 (pc' := 128) (pm_q189_1 (Nat.le_of_ble_eq_true rfl)) rfl rfl ?_
        refine rf_R_get pm_M189 T45 (pc' := 131) (v := .ref 51) (pm_q189_1 (Nat.le_of_ble_eq_true rfl)) rfl rfl rfl ?_
        refine pm_R_op pm_M189 (pc' := 132) (st' := [.int 0, .ref 51, .int 0, .ref 51]) (pm_q189_1 (Nat.le_of_ble_eq_true rfl)) rfl rfl ?_
        have e81 := (F46.cell (by decide) (F21.cell (by decide) e3))
        refine rf_R_ild pm_M189 T45 (pc' := 133) (pm_q189_1 (Nat.le_of_ble_eq_true rfl)) e81 (by decide) rfl rfl (fun z82 ez83 => ?_)
        refine rf_R_ist pm_M189 T45 (pc' := 134) (pm_q189_1 (Nat.le_of_ble_eq_true rfl)) e81 (by decide) (by decide) rfl ⟨_, rfl⟩ rfl (fun h84 T85 F86 e87 => ?_)
        have F88 := F75.trans F86 (by decide)
        have ct89 : rf_ct 2 (upd f2 (Int32.toNatClampNeg 0) z82) := (sf_eqL (Eq.trans (sf_upd_nec (k := Int32.toNatClampNeg 0) (j := Int32.toNatClampNeg 1) (by decide)) rfl) ct4)
        have bd90 : (m42 17).toInt = 0 → rf_bd 2 (upd f2 (Int32.toNatClampNeg 0) z82) := fun z => ((bd5 (sf_aux75 _ )).self (k := 0) ez83)
        refine pm_R_lo pm_M189 (pc' := 136) (pm_q189_1 (Nat.le_of_ble_eq_true rfl)) rfl rfl ?_
        exact pm_R_ret pm_M189 (r := some (.int 0)) (pm_q189_1 (Nat.le_of_ble_eq_true rfl)) rfl (K0 m42 w43 h84 T85 F88 W76 (sf_aux51 _ _ R80))
      · have F91 := F25.trans F55 (by decide)
        have W92 : rf_W [10, 12, 13, 14, 16, 17, 18, 21, 22] m m51 := W28.trans W56 (by decide)
        have B93 : sf_B 0 600 (m51 10) := T54.2.2.1 10
        have B94 : sf_B 0 4 (m51 17) := T54.2.2.1 17
        have B95 : sf_B 0 1 (m51 22) := T54.2.2.1 22
        show pm_R _ 189 106 [.ref 41, .long a0, pm_no, .int a1, pm_no] [.int 1] _ _
        have R96 : (m 10).toInt ≤ (m51 10).toInt := (sf_aux70 _ _ _ R31 X61)
        obtain ⟨v97, B98, e99⟩ := X57 _ e38
        refine pm_R_lo pm_M189 (pc' := 108) (ls' := [.ref 41, .long a0, pm_no, .int a1, .int 1]) (st' := []) rfl rfl rfl ?_
        refine pm_R_lo pm_M189 (pc' := 109) rfl rfl rfl ?_
        refine rf_R_get pm_M189 T54 (pc' := 112) (v := .ref 51) rfl rfl rfl rfl ?_
        refine pm_R_op pm_M189 (pc' := 113) (st' := [.int 0, .ref 51]) rfl rfl rfl ?_
        refine pm_R_lo pm_M189 (pc' := 115) (pm_q189_1 (Nat.le_of_ble_eq_true rfl)) rfl rfl ?_
        refine pm_R_br pm_M189 (pc' := 118) (st' := [.int 0, .ref 51]) (pm_q189_1 (Nat.le_of_ble_eq_true rfl)) rfl ?_
        refine pm_R_lo pm_M189 (pc' := 119) (pm_q189_1 (Nat.le_of_ble_eq_true rfl)) rfl rfl ?_
        refine rf_R_get pm_M189 T54 (pc' := 122) (v := .ref 52) (pm_q189_1 (Nat.le_of_ble_eq_true rfl)) rfl rfl rfl ?_
        refine pm_R_op pm_M189 (pc' := 123) (st' := [.int 0, .ref 52, .int 0, .ref 51]) (pm_q189_1 (Nat.le_of_ble_eq_true rfl)) rfl rfl ?_
        refine pm_R_iald pm_M189 (pc' := 124) (v := v97) (pm_q189_1 (Nat.le_of_ble_eq_true rfl)) e99 (Nat.lt_of_lt_of_le (by decide) T54.1) rfl sf_upd_eq rfl ?_
        refine pm_R_br pm_M189 (pc' := 133) (pm_q189_1 (Nat.le_of_ble_eq_true rfl)) rfl ?_
        have e102 := (F55.cell (by decide) (F21.cell (by decide) e3))
        refine rf_R_ist pm_M189 T54 (pc' := 134) (pm_q189_1 (Nat.le_of_ble_eq_true rfl)) e102 (by decide) (by decide) rfl ⟨_, rfl⟩ rfl (fun h103 T104 F105 e106 => ?_)
        have F107 := F91.trans F105 (by decide)
        have ct108 : rf_ct 2 (upd f2 (Int32.toNatClampNeg 0) v97) := (sf_eqL (Eq.trans (sf_upd_nec (k := Int32.toNatClampNeg 0) (j := Int32.toNatClampNeg 1) (by decide)) rfl) ct4)
        have bd109 : (m51 17).toInt = 0 → rf_bd 2 (upd f2 (Int32.toNatClampNeg 0) v97) := fun z => ((bd5 (sf_aux76 _ _ _ ek27 X58 z)).set (k := 0) B98 (by decide) (by decide))
        refine pm_R_lo pm_M189 (pc' := 136) (pm_q189_1 (Nat.le_of_ble_eq_true rfl)) rfl rfl ?_
        exact pm_R_ret pm_M189 (r := some (.int 1)) (pm_q189_1 (Nat.le_of_ble_eq_true rfl)) rfl (K1 m51 w52 h103 T104 F107 W92 (⟨(upd f2 (Int32.toNatClampNeg 0) v97), e106, ct108, fun z => (bd109 z)⟩) (sf_aux51 _ _ R96))
      · have F110 := F25.trans F68 (by decide)
        have W111 : rf_W [10, 12, 13, 14, 16, 17, 18, 21, 22] m m64 := W28.trans W69 (by decide)
        have B112 : sf_B 0 600 (m64 10) := T67.2.2.1 10
        have B113 : sf_B 0 4 (m64 17) := T67.2.2.1 17
        have B114 : sf_B 0 1 (m64 22) := T67.2.2.1 22
        show pm_R _ 189 106 [.ref 41, .long a0, pm_no, .int a1, pm_no] [.int 1] _ _
        have R115 : (m 10).toInt ≤ (m64 10).toInt := (sf_aux70 _ _ _ R31 X72)
        obtain ⟨v116, B117, e118⟩ := X70 _ e38
        refine pm_R_lo pm_M189 (pc' := 108) (ls' := [.ref 41, .long a0, pm_no, .int a1, .int 1]) (st' := []) rfl rfl rfl ?_
        refine pm_R_lo pm_M189 (pc' := 109) rfl rfl rfl ?_
        refine rf_R_get pm_M189 T67 (pc' := 112) (v := .ref 51) rfl rfl rfl rfl ?_
        refine pm_R_op pm_M189 (pc' := 113) (st' := [.int 0, .ref 51]) rfl rfl rfl ?_
        refine pm_R_lo pm_M189 (pc' := 115) (pm_q189_1 (Nat.le_of_ble_eq_true rfl)) rfl rfl ?_
        refine pm_R_br pm_M189 (pc' := 118) (st' := [.int 0, .ref 51]) (pm_q189_1 (Nat.le_of_ble_eq_true rfl)) rfl ?_
        refine pm_R_lo pm_M189 (pc' := 119) (pm_q189_1 (Nat.le_of_ble_eq_true rfl)) rfl rfl ?_
        refine rf_R_get pm_M189 T67 (pc' := 122) (v := .ref 52) (pm_q189_1 (Nat.le_of_ble_eq_true rfl)) rfl rfl rfl ?_
        refine pm_R_op pm_M189 (pc' := 123) (st' := [.int 0, .ref 52, .int 0, .ref 51]) (pm_q189_1 (Nat.le_of_ble_eq_true rfl)) rfl rfl ?_
        refine pm_R_iald pm_M189 (pc' := 124) (v := v116) (pm_q189_1 (Nat.le_of_ble_eq_true rfl)) e118 (Nat.lt_of_lt_of_le (by decide) T67.1) rfl sf_upd_eq rfl ?_
        refine pm_R_br pm_M189 (pc' := 133) (pm_q189_1 (Nat.le_of_ble_eq_true rfl)) rfl ?_
        have e121 := (F68.cell (by decide) (F21.cell (by decide) e3))
        refine rf_R_ist pm_M189 T67 (pc' := 134) (pm_q189_1 (Nat.le_of_ble_eq_true rfl)) e121 (by decide) (by decide) rfl ⟨_, rfl⟩ rfl (fun h122 T123 F124 e125 => ?_)
        have F126 := F110.trans F124 (by decide)
        have ct127 : rf_ct 2 (upd f2 (Int32.toNatClampNeg 0) v116) := (sf_eqL (Eq.trans (sf_upd_nec (k := Int32.toNatClampNeg 0) (j := Int32.toNatClampNeg 1) (by decide)) rfl) ct4)
        have bd128 : (m64 17).toInt = 0 → rf_bd 2 (upd f2 (Int32.toNatClampNeg 0) v116) := fun z => (sf_pos B73 (by decide) z)
        refine pm_R_lo pm_M189 (pc' := 136) (pm_q189_1 (Nat.le_of_ble_eq_true rfl)) rfl rfl ?_
        exact pm_R_ret pm_M189 (r := some (.int 1)) (pm_q189_1 (Nat.le_of_ble_eq_true rfl)) rfl (K1 m64 w65 h122 T123 F126 W111 (⟨(upd f2 (Int32.toNatClampNeg 0) v116), e125, ct127, fun z => (sf_pos B73 (by decide) z)⟩) (sf_aux51 _ _ R115))
    · have B129 : sf_B 3 3 (m17 13) := sf_eqL (Classical.not_not.mp c36) sf_k3
      refine pm_R_lo pm_M189 (pc' := 83) rfl rfl rfl ?_
      have B130 : sf_B 0 99 (m17 14) := T20.2.2.1 14
      refine rf_R_get pm_M189 T20 (pc' := 86) (v := .int (m17 14)) rfl rfl rfl rfl ?_
      refine pm_R_ifc pm_M189 (t := 98) (pc' := 89) rfl rfl rfl (fun c131 => ?_) (fun c131 => ?_)
      · have B132 : sf_B 1 99 (m17 14) := sf_neL0 c131 sf_k0 B130
        refine pm_R_lo pm_M189 (pc' := 99) rfl rfl rfl ?_
        refine pm_R_op pm_M189 (pc' := 100) (st' := [.int 0, .ref 41]) rfl rfl rfl ?_
        refine pm_R_op pm_M189 (pc' := 102) (st' := [.int 6, .int 0, .ref 41]) rfl rfl rfl ?_
        refine pm_R_op pm_M189 (pc' := 103) (st' := [.int (-1), .int 6, .int 0, .ref 41]) rfl rfl rfl ?_
        refine pm_R_cv pm_M189 (pc' := 106) (a := 41) (ra := [.int (-1), .int 6, .int 0]) (rest := []) (ls' := [.ref 41, .int 0, .int 6, .int (-1)]) rfl rfl (Or.inl rfl) pm_M183 T20.2.1 rfl (by decide) (Nat.lt_of_lt_of_le (by decide) T20.1) rfl rfl (Nat.le_of_ble_eq_true rfl) rfl rfl ?_
        obtain ⟨f133, e134, b135⟩ := T20.2.2.2.1 52 (by decide) (by decide)
        refine rf_c183_0_6 (d := d + 1) T20  (fun m138 w139 h140 T141 F142 W143 X144 => ?_) (fun m147 w148 h149 T150 F151 W152 X153 X154 X155 X156 X157 => ?_) (fun m160 w161 h162 T163 F164 W165 X166 X167 X168 B169 B170 => ?_)
        · have F171 := F25.trans F142 (by decide)
          have W172 : rf_W [10, 12, 13, 14, 16, 17, 18, 21, 22] m m138 := W28.trans W143 (by decide)
          have B173 : sf_B 0 600 (m138 10) := T141.2.2.1 10
          have B174 : sf_B 0 4 (m138 17) := T141.2.2.1 17
          have B175 : sf_B 0 1 (m138 22) := T141.2.2.1 22
          show pm_R _ 189 106 [.ref 41, .long a0, pm_no, .int a1, pm_no] [.int 0] _ _
          have R176 : (m 10).toInt ≤ (m138 10).toInt := (sf_aux70 _ _ _ R31 X144)
          refine pm_R_lo pm_M189 (pc' := 108) (ls' := [.ref 41, .long a0, pm_no, .int a1, .int 0]) (st' := []) rfl rfl rfl ?_
          refine pm_R_lo pm_M189 (pc' := 109) rfl rfl rfl ?_
          refine rf_R_get pm_M189 T141 (pc' := 112) (v := .ref 51) rfl rfl rfl rfl ?_
          refine pm_R_op pm_M189 (pc' := 113) (st' := [.int 0, .ref 51]) rfl rfl rfl ?_
          refine pm_R_lo pm_M189 (pc' := 115) (pm_q189_1 (Nat.le_of_ble_eq_true rfl)) rfl rfl ?_
          refine pm_R_br pm_M189 (pc' := 127) (st' := [.int 0, .ref 51]) (pm_q189_1 (Nat.le_of_ble_eq_true rfl)) rfl ?_
          refine pm_R_lo pm_M189 (pc' := 128) (pm_q189_1 (Nat.le_of_ble_eq_true rfl)) rfl rfl ?_
          refine rf_R_get pm_M189 T141 (pc' := 131) (v := .ref 51) (pm_q189_1 (Nat.le_of_ble_eq_true rfl)) rfl rfl rfl ?_
          refine pm_R_op pm_M189 (pc' := 132) (st' := [.int 0, .ref 51, .int 0, .ref 51]) (pm_q189_1 (Nat.le_of_ble_eq_true rfl)) rfl rfl ?_
          have e177 := (F142.cell (by decide) (F21.cell (by decide) e3))
          refine rf_R_ild pm_M189 T141 (pc' := 133) (pm_q189_1 (Nat.le_of_ble_eq_true rfl)) e177 (by decide) rfl rfl (fun z178 ez179 => ?_)
          refine rf_R_ist pm_M189 T141 (pc' := 134) (pm_q189_1 (Nat.le_of_ble_eq_true rfl)) e177 (by decide) (by decide) rfl ⟨_, rfl⟩ rfl (fun h180 T181 F182 e183 => ?_)
          have F184 := F171.trans F182 (by decide)
          have ct185 : rf_ct 2 (upd f2 (Int32.toNatClampNeg 0) z178) := (sf_eqL (Eq.trans (sf_upd_nec (k := Int32.toNatClampNeg 0) (j := Int32.toNatClampNeg 1) (by decide)) rfl) ct4)
          have bd186 : (m138 17).toInt = 0 → rf_bd 2 (upd f2 (Int32.toNatClampNeg 0) z178) := fun z => ((bd5 (sf_aux75 _ )).self (k := 0) ez179)
          refine pm_R_lo pm_M189 (pc' := 136) (pm_q189_1 (Nat.le_of_ble_eq_true rfl)) rfl rfl ?_
          exact pm_R_ret pm_M189 (r := some (.int 0)) (pm_q189_1 (Nat.le_of_ble_eq_true rfl)) rfl (K0 m138 w139 h180 T181 F184 W172 (sf_aux51 _ _ R176))
        · have F187 := F25.trans F151 (by decide)
          have W188 : rf_W [10, 12, 13, 14, 16, 17, 18, 21, 22] m m147 := W28.trans W152 (by decide)
          have B189 : sf_B 0 600 (m147 10) := T150.2.2.1 10
          have B190 : sf_B 0 4 (m147 17) := T150.2.2.1 17
          have B191 : sf_B 0 1 (m147 22) := T150.2.2.1 22
          show pm_R _ 189 106 [.ref 41, .long a0, pm_no, .int a1, pm_no] [.int 1] _ _
          have R192 : (m 10).toInt ≤ (m147 10).toInt := (sf_aux70 _ _ _ R31 X157)
          obtain ⟨v193, B194, e195⟩ := X153 _ e134
          refine pm_R_lo pm_M189 (pc' := 108) (ls' := [.ref 41, .long a0, pm_no, .int a1, .int 1]) (st' := []) rfl rfl rfl ?_
          refine pm_R_lo pm_M189 (pc' := 109) rfl rfl rfl ?_
          refine rf_R_get pm_M189 T150 (pc' := 112) (v := .ref 51) rfl rfl rfl rfl ?_
          refine pm_R_op pm_M189 (pc' := 113) (st' := [.int 0, .ref 51]) rfl rfl rfl ?_
          refine pm_R_lo pm_M189 (pc' := 115) (pm_q189_1 (Nat.le_of_ble_eq_true rfl)) rfl rfl ?_
          refine pm_R_br pm_M189 (pc' := 118) (st' := [.int 0, .ref 51]) (pm_q189_1 (Nat.le_of_ble_eq_true rfl)) rfl ?_
          refine pm_R_lo pm_M189 (pc' := 119) (pm_q189_1 (Nat.le_of_ble_eq_true rfl)) rfl rfl ?_
          refine rf_R_get pm_M189 T150 (pc' := 122) (v := .ref 52) (pm_q189_1 (Nat.le_of_ble_eq_true rfl)) rfl rfl rfl ?_
          refine pm_R_op pm_M189 (pc' := 123) (st' := [.int 0, .ref 52, .int 0, .ref 51]) (pm_q189_1 (Nat.le_of_ble_eq_true rfl)) rfl rfl ?_
          refine pm_R_iald pm_M189 (pc' := 124) (v := v193) (pm_q189_1 (Nat.le_of_ble_eq_true rfl)) e195 (Nat.lt_of_lt_of_le (by decide) T150.1) rfl sf_upd_eq rfl ?_
          refine pm_R_br pm_M189 (pc' := 133) (pm_q189_1 (Nat.le_of_ble_eq_true rfl)) rfl ?_
          have e198 := (F151.cell (by decide) (F21.cell (by decide) e3))
          refine rf_R_ist pm_M189 T150 (pc' := 134) (pm_q189_1 (Nat.le_of_ble_eq_true rfl)) e198 (by decide) (by decide) rfl ⟨_, rfl⟩ rfl (fun h199 T200 F201 e202 => ?_)
          have F203 := F187.trans F201 (by decide)
          have ct204 : rf_ct 2 (upd f2 (Int32.toNatClampNeg 0) v193) := (sf_eqL (Eq.trans (sf_upd_nec (k := Int32.toNatClampNeg 0) (j := Int32.toNatClampNeg 1) (by decide)) rfl) ct4)
          have bd205 : (m147 17).toInt = 0 → rf_bd 2 (upd f2 (Int32.toNatClampNeg 0) v193) := fun z => ((bd5 (sf_aux76 _ _ _ ek27 X154 z)).set (k := 0) B194 (by decide) (by decide))
          refine pm_R_lo pm_M189 (pc' := 136) (pm_q189_1 (Nat.le_of_ble_eq_true rfl)) rfl rfl ?_
          exact pm_R_ret pm_M189 (r := some (.int 1)) (pm_q189_1 (Nat.le_of_ble_eq_true rfl)) rfl (K1 m147 w148 h199 T200 F203 W188 (⟨(upd f2 (Int32.toNatClampNeg 0) v193), e202, ct204, fun z => (bd205 z)⟩) (sf_aux51 _ _ R192))
        · have F206 := F25.trans F164 (by decide)
          have W207 : rf_W [10, 12, 13, 14, 16, 17, 18, 21, 22] m m160 := W28.trans W165 (by decide)
          have B208 : sf_B 0 600 (m160 10) := T163.2.2.1 10
          have B209 : sf_B 0 4 (m160 17) := T163.2.2.1 17
          have B210 : sf_B 0 1 (m160 22) := T163.2.2.1 22
          show pm_R _ 189 106 [.ref 41, .long a0, pm_no, .int a1, pm_no] [.int 1] _ _
          have R211 : (m 10).toInt ≤ (m160 10).toInt := (sf_aux70 _ _ _ R31 X168)
          obtain ⟨v212, B213, e214⟩ := X166 _ e134
          refine pm_R_lo pm_M189 (pc' := 108) (ls' := [.ref 41, .long a0, pm_no, .int a1, .int 1]) (st' := []) rfl rfl rfl ?_
          refine pm_R_lo pm_M189 (pc' := 109) rfl rfl rfl ?_
          refine rf_R_get pm_M189 T163 (pc' := 112) (v := .ref 51) rfl rfl rfl rfl ?_
          refine pm_R_op pm_M189 (pc' := 113) (st' := [.int 0, .ref 51]) rfl rfl rfl ?_
          refine pm_R_lo pm_M189 (pc' := 115) (pm_q189_1 (Nat.le_of_ble_eq_true rfl)) rfl rfl ?_
          refine pm_R_br pm_M189 (pc' := 118) (st' := [.int 0, .ref 51]) (pm_q189_1 (Nat.le_of_ble_eq_true rfl)) rfl ?_
          refine pm_R_lo pm_M189 (pc' := 119) (pm_q189_1 (Nat.le_of_ble_eq_true rfl)) rfl rfl ?_
          refine rf_R_get pm_M189 T163 (pc' := 122) (v := .ref 52) (pm_q189_1 (Nat.le_of_ble_eq_true rfl)) rfl rfl rfl ?_
          refine pm_R_op pm_M189 (pc' := 123) (st' := [.int 0, .ref 52, .int 0, .ref 51]) (pm_q189_1 (Nat.le_of_ble_eq_true rfl)) rfl rfl ?_
          refine pm_R_iald pm_M189 (pc' := 124) (v := v212) (pm_q189_1 (Nat.le_of_ble_eq_true rfl)) e214 (Nat.lt_of_lt_of_le (by decide) T163.1) rfl sf_upd_eq rfl ?_
          refine pm_R_br pm_M189 (pc' := 133) (pm_q189_1 (Nat.le_of_ble_eq_true rfl)) rfl ?_
          have e217 := (F164.cell (by decide) (F21.cell (by decide) e3))
          refine rf_R_ist pm_M189 T163 (pc' := 134) (pm_q189_1 (Nat.le_of_ble_eq_true rfl)) e217 (by decide) (by decide) rfl ⟨_, rfl⟩ rfl (fun h218 T219 F220 e221 => ?_)
          have F222 := F206.trans F220 (by decide)
          have ct223 : rf_ct 2 (upd f2 (Int32.toNatClampNeg 0) v212) := (sf_eqL (Eq.trans (sf_upd_nec (k := Int32.toNatClampNeg 0) (j := Int32.toNatClampNeg 1) (by decide)) rfl) ct4)
          have bd224 : (m160 17).toInt = 0 → rf_bd 2 (upd f2 (Int32.toNatClampNeg 0) v212) := fun z => (sf_pos B169 (by decide) z)
          refine pm_R_lo pm_M189 (pc' := 136) (pm_q189_1 (Nat.le_of_ble_eq_true rfl)) rfl rfl ?_
          exact pm_R_ret pm_M189 (r := some (.int 1)) (pm_q189_1 (Nat.le_of_ble_eq_true rfl)) rfl (K1 m160 w161 h218 T219 F222 W207 (⟨(upd f2 (Int32.toNatClampNeg 0) v212), e221, ct223, fun z => (sf_pos B169 (by decide) z)⟩) (sf_aux51 _ _ R211))
      · have B225 : sf_B 0 0 (m17 14) := sf_eqL (Classical.not_not.mp c131) sf_k0
        refine pm_R_lo pm_M189 (pc' := 90) rfl rfl rfl ?_
        refine pm_R_op pm_M189 (pc' := 91) (st' := [.int 2, .ref 41]) rfl rfl rfl ?_
        refine pm_R_lo pm_M189 (pc' := 92) rfl rfl rfl ?_
        have B226 : sf_B 0 600 (m17 12) := T20.2.2.1 12
        refine rf_R_get pm_M189 T20 (pc' := 95) (v := .int (m17 12)) rfl rfl rfl rfl ?_
        refine pm_R_cv pm_M189 (pc' := 98) (a := 41) (ra := [.int (m17 12), .int 2]) (rest := []) (ls' := [.ref 41, .int 2, .int (m17 12)]) rfl rfl (Or.inl rfl) pm_M182 T20.2.1 rfl (by decide) (Nat.lt_of_lt_of_le (by decide) T20.1) rfl rfl (Nat.le_of_ble_eq_true rfl) rfl rfl ?_
        refine rf_c182 (d := d + 3) T20 (sf_weak sf_k2 (by decide) (by decide)) B226 (fun m229 w230 h231 T232 F233 W234 B235 => ?_)
        have F236 := F25.trans F233 (by decide)
        have B237 : sf_B 0 600 (m229 10) := by rw [W234 10 (by decide)]; exact B29
        have ek238 : (m229 10).toInt = ((m17 10)).toInt := by rw [W234 10 (by decide)]
        have B239 : sf_B 0 1 (m229 22) := by rw [W234 22 (by decide)]; exact B30
        have ek240 : (m229 22).toInt = ((m17 22)).toInt := by rw [W234 22 (by decide)]
        have B241 : sf_B 3 3 (m229 13) := by rw [W234 13 (by decide)]; exact B129
        have B242 : sf_B 0 0 (m229 14) := by rw [W234 14 (by decide)]; exact B225
        have W243 : rf_W [10, 12, 13, 14, 16, 17, 18, 21, 22] m m229 := W28.trans W234 (by decide)
        have B244 : sf_B 0 4 (m229 17) := T232.2.2.1 17
        show pm_R _ 189 98 [.ref 41, .long a0, pm_no, .int a1, pm_no] [] _ _
        refine pm_R_lo pm_M189 (pc' := 99) rfl rfl rfl ?_
        refine pm_R_op pm_M189 (pc' := 100) (st' := [.int 0, .ref 41]) rfl rfl rfl ?_
        refine pm_R_op pm_M189 (pc' := 102) (st' := [.int 6, .int 0, .ref 41]) rfl rfl rfl ?_
        refine pm_R_op pm_M189 (pc' := 103) (st' := [.int (-1), .int 6, .int 0, .ref 41]) rfl rfl rfl ?_
        refine pm_R_cv pm_M189 (pc' := 106) (a := 41) (ra := [.int (-1), .int 6, .int 0]) (rest := []) (ls' := [.ref 41, .int 0, .int 6, .int (-1)]) rfl rfl (Or.inl rfl) pm_M183 T232.2.1 rfl (by decide) (Nat.lt_of_lt_of_le (by decide) T232.1) rfl rfl (Nat.le_of_ble_eq_true rfl) rfl rfl ?_
        obtain ⟨f245, e246, b247⟩ := T232.2.2.2.1 52 (by decide) (by decide)
        refine rf_c183_0_6 (d := d + 1) T232  (fun m250 w251 h252 T253 F254 W255 X256 => ?_) (fun m259 w260 h261 T262 F263 W264 X265 X266 X267 X268 X269 => ?_) (fun m272 w273 h274 T275 F276 W277 X278 X279 X280 B281 B282 => ?_)
        · have F283 := F236.trans F254 (by decide)
          have W284 : rf_W [10, 12, 13, 14, 16, 17, 18, 21, 22] m m250 := W243.trans W255 (by decide)
          have B285 : sf_B 0 600 (m250 10) := T253.2.2.1 10
          have B286 : sf_B 0 4 (m250 17) := T253.2.2.1 17
          have B287 : sf_B 0 1 (m250 22) := T253.2.2.1 22
          show pm_R _ 189 106 [.ref 41, .long a0, pm_no, .int a1, pm_no] [.int 0] _ _
          have R288 : (m 10).toInt ≤ (m250 10).toInt := (sf_aux77 _ _ _ _ ek238 R31 X256)
          refine pm_R_lo pm_M189 (pc' := 108) (ls' := [.ref 41, .long a0, pm_no, .int a1, .int 0]) (st' := []) rfl rfl rfl ?_
          refine pm_R_lo pm_M189 (pc' := 109) rfl rfl rfl ?_
          refine rf_R_get pm_M189 T253 (pc' := 112) (v := .ref 51) rfl rfl rfl rfl ?_
          refine pm_R_op pm_M189 (pc' := 113) (st' := [.int 0, .ref 51]) rfl rfl rfl ?_
          refine pm_R_lo pm_M189 (pc' := 115) (pm_q189_1 (Nat.le_of_ble_eq_true rfl)) rfl rfl ?_
          refine pm_R_br pm_M189 (pc' := 127) (st' := [.int 0, .ref 51]) (pm_q189_1 (Nat.le_of_ble_eq_true rfl)) rfl ?_
          refine pm_R_lo pm_M189 (pc' := 128) (pm_q189_1 (Nat.le_of_ble_eq_true rfl)) rfl rfl ?_
          refine rf_R_get pm_M189 T253 (pc' := 131) (v := .ref 51) (pm_q189_1 (Nat.le_of_ble_eq_true rfl)) rfl rfl rfl ?_
          refine pm_R_op pm_M189 (pc' := 132) (st' := [.int 0, .ref 51, .int 0, .ref 51]) (pm_q189_1 (Nat.le_of_ble_eq_true rfl)) rfl rfl ?_
          have e289 := (F254.cell (by decide) (F233.cell (by decide) (F21.cell (by decide) e3)))
          refine rf_R_ild pm_M189 T253 (pc' := 133) (pm_q189_1 (Nat.le_of_ble_eq_true rfl)) e289 (by decide) rfl rfl (fun z290 ez291 => ?_)
          refine rf_R_ist pm_M189 T253 (pc' := 134) (pm_q189_1 (Nat.le_of_ble_eq_true rfl)) e289 (by decide) (by decide) rfl ⟨_, rfl⟩ rfl (fun h292 T293 F294 e295 => ?_)
          have F296 := F283.trans F294 (by decide)
          have ct297 : rf_ct 2 (upd f2 (Int32.toNatClampNeg 0) z290) := (sf_eqL (Eq.trans (sf_upd_nec (k := Int32.toNatClampNeg 0) (j := Int32.toNatClampNeg 1) (by decide)) rfl) ct4)
          have bd298 : (m250 17).toInt = 0 → rf_bd 2 (upd f2 (Int32.toNatClampNeg 0) z290) := fun z => ((bd5 (sf_aux75 _ )).self (k := 0) ez291)
          refine pm_R_lo pm_M189 (pc' := 136) (pm_q189_1 (Nat.le_of_ble_eq_true rfl)) rfl rfl ?_
          exact pm_R_ret pm_M189 (r := some (.int 0)) (pm_q189_1 (Nat.le_of_ble_eq_true rfl)) rfl (K0 m250 w251 h292 T293 F296 W284 (sf_aux51 _ _ R288))
        · have F299 := F236.trans F263 (by decide)
          have W300 : rf_W [10, 12, 13, 14, 16, 17, 18, 21, 22] m m259 := W243.trans W264 (by decide)
          have B301 : sf_B 0 600 (m259 10) := T262.2.2.1 10
          have B302 : sf_B 0 4 (m259 17) := T262.2.2.1 17
          have B303 : sf_B 0 1 (m259 22) := T262.2.2.1 22
          show pm_R _ 189 106 [.ref 41, .long a0, pm_no, .int a1, pm_no] [.int 1] _ _
          have R304 : (m 10).toInt ≤ (m259 10).toInt := (sf_aux77 _ _ _ _ ek238 R31 X269)
          obtain ⟨v305, B306, e307⟩ := X265 _ e246
          refine pm_R_lo pm_M189 (pc' := 108) (ls' := [.ref 41, .long a0, pm_no, .int a1, .int 1]) (st' := []) rfl rfl rfl ?_
          refine pm_R_lo pm_M189 (pc' := 109) rfl rfl rfl ?_
          refine rf_R_get pm_M189 T262 (pc' := 112) (v := .ref 51) rfl rfl rfl rfl ?_
          refine pm_R_op pm_M189 (pc' := 113) (st' := [.int 0, .ref 51]) rfl rfl rfl ?_
          refine pm_R_lo pm_M189 (pc' := 115) (pm_q189_1 (Nat.le_of_ble_eq_true rfl)) rfl rfl ?_
          refine pm_R_br pm_M189 (pc' := 118) (st' := [.int 0, .ref 51]) (pm_q189_1 (Nat.le_of_ble_eq_true rfl)) rfl ?_
          refine pm_R_lo pm_M189 (pc' := 119) (pm_q189_1 (Nat.le_of_ble_eq_true rfl)) rfl rfl ?_
          refine rf_R_get pm_M189 T262 (pc' := 122) (v := .ref 52) (pm_q189_1 (Nat.le_of_ble_eq_true rfl)) rfl rfl rfl ?_
          refine pm_R_op pm_M189 (pc' := 123) (st' := [.int 0, .ref 52, .int 0, .ref 51]) (pm_q189_1 (Nat.le_of_ble_eq_true rfl)) rfl rfl ?_
          refine pm_R_iald pm_M189 (pc' := 124) (v := v305) (pm_q189_1 (Nat.le_of_ble_eq_true rfl)) e307 (Nat.lt_of_lt_of_le (by decide) T262.1) rfl sf_upd_eq rfl ?_
          refine pm_R_br pm_M189 (pc' := 133) (pm_q189_1 (Nat.le_of_ble_eq_true rfl)) rfl ?_
          have e310 := (F263.cell (by decide) (F233.cell (by decide) (F21.cell (by decide) e3)))
          refine rf_R_ist pm_M189 T262 (pc' := 134) (pm_q189_1 (Nat.le_of_ble_eq_true rfl)) e310 (by decide) (by decide) rfl ⟨_, rfl⟩ rfl (fun h311 T312 F313 e314 => ?_)
          have F315 := F299.trans F313 (by decide)
          have ct316 : rf_ct 2 (upd f2 (Int32.toNatClampNeg 0) v305) := (sf_eqL (Eq.trans (sf_upd_nec (k := Int32.toNatClampNeg 0) (j := Int32.toNatClampNeg 1) (by decide)) rfl) ct4)
          have bd317 : (m259 17).toInt = 0 → rf_bd 2 (upd f2 (Int32.toNatClampNeg 0) v305) := fun z => (sf_pos (sf_eqT X266 B235) (by decide) z)
          refine pm_R_lo pm_M189 (pc' := 136) (pm_q189_1 (Nat.le_of_ble_eq_true rfl)) rfl rfl ?_
          exact pm_R_ret pm_M189 (r := some (.int 1)) (pm_q189_1 (Nat.le_of_ble_eq_true rfl)) rfl (K1 m259 w260 h311 T312 F315 W300 (⟨(upd f2 (Int32.toNatClampNeg 0) v305), e314, ct316, fun z => (sf_pos (sf_eqT X266 B235) (by decide) z)⟩) (sf_aux51 _ _ R304))
        · have F318 := F236.trans F276 (by decide)
          have W319 : rf_W [10, 12, 13, 14, 16, 17, 18, 21, 22] m m272 := W243.trans W277 (by decide)
          have B320 : sf_B 0 600 (m272 10) := T275.2.2.1 10
          have B321 : sf_B 0 4 (m272 17) := T275.2.2.1 17
          have B322 : sf_B 0 1 (m272 22) := T275.2.2.1 22
          show pm_R _ 189 106 [.ref 41, .long a0, pm_no, .int a1, pm_no] [.int 1] _ _
          have R323 : (m 10).toInt ≤ (m272 10).toInt := (sf_aux77 _ _ _ _ ek238 R31 X280)
          obtain ⟨v324, B325, e326⟩ := X278 _ e246
          refine pm_R_lo pm_M189 (pc' := 108) (ls' := [.ref 41, .long a0, pm_no, .int a1, .int 1]) (st' := []) rfl rfl rfl ?_
          refine pm_R_lo pm_M189 (pc' := 109) rfl rfl rfl ?_
          refine rf_R_get pm_M189 T275 (pc' := 112) (v := .ref 51) rfl rfl rfl rfl ?_
          refine pm_R_op pm_M189 (pc' := 113) (st' := [.int 0, .ref 51]) rfl rfl rfl ?_
          refine pm_R_lo pm_M189 (pc' := 115) (pm_q189_1 (Nat.le_of_ble_eq_true rfl)) rfl rfl ?_
          refine pm_R_br pm_M189 (pc' := 118) (st' := [.int 0, .ref 51]) (pm_q189_1 (Nat.le_of_ble_eq_true rfl)) rfl ?_
          refine pm_R_lo pm_M189 (pc' := 119) (pm_q189_1 (Nat.le_of_ble_eq_true rfl)) rfl rfl ?_
          refine rf_R_get pm_M189 T275 (pc' := 122) (v := .ref 52) (pm_q189_1 (Nat.le_of_ble_eq_true rfl)) rfl rfl rfl ?_
          refine pm_R_op pm_M189 (pc' := 123) (st' := [.int 0, .ref 52, .int 0, .ref 51]) (pm_q189_1 (Nat.le_of_ble_eq_true rfl)) rfl rfl ?_
          refine pm_R_iald pm_M189 (pc' := 124) (v := v324) (pm_q189_1 (Nat.le_of_ble_eq_true rfl)) e326 (Nat.lt_of_lt_of_le (by decide) T275.1) rfl sf_upd_eq rfl ?_
          refine pm_R_br pm_M189 (pc' := 133) (pm_q189_1 (Nat.le_of_ble_eq_true rfl)) rfl ?_
          have e329 := (F276.cell (by decide) (F233.cell (by decide) (F21.cell (by decide) e3)))
          refine rf_R_ist pm_M189 T275 (pc' := 134) (pm_q189_1 (Nat.le_of_ble_eq_true rfl)) e329 (by decide) (by decide) rfl ⟨_, rfl⟩ rfl (fun h330 T331 F332 e333 => ?_)
          have F334 := F318.trans F332 (by decide)
          have ct335 : rf_ct 2 (upd f2 (Int32.toNatClampNeg 0) v324) := (sf_eqL (Eq.trans (sf_upd_nec (k := Int32.toNatClampNeg 0) (j := Int32.toNatClampNeg 1) (by decide)) rfl) ct4)
          have bd336 : (m272 17).toInt = 0 → rf_bd 2 (upd f2 (Int32.toNatClampNeg 0) v324) := fun z => (sf_pos B281 (by decide) z)
          refine pm_R_lo pm_M189 (pc' := 136) (pm_q189_1 (Nat.le_of_ble_eq_true rfl)) rfl rfl ?_
          exact pm_R_ret pm_M189 (r := some (.int 1)) (pm_q189_1 (Nat.le_of_ble_eq_true rfl)) rfl (K1 m272 w273 h330 T331 F334 W319 (⟨(upd f2 (Int32.toNatClampNeg 0) v324), e333, ct335, fun z => (sf_pos B281 (by decide) z)⟩) (sf_aux51 _ _ R323))
  · have k337 := sf_lneC e8 c9
    refine pm_R_lo pm_M189 (pc' := 9) rfl rfl rfl ?_
    refine pm_R_ldc2 pm_M189 (pc' := 12) rfl rfl rfl ?_
    refine sf_R_lcmp pm_M189 (pc' := 13) rfl rfl (fun z338 e339 => ?_)
    refine pm_R_ifc pm_M189 (t := 37) (pc' := 16) rfl rfl rfl (fun c340 => ?_) (fun c340 => ?_)
    · have B341 : sf_B 0 0 z338 := sf_eqL c340 sf_k0
      have B342 : lf_B 1819242347 1819242347 a0 := lf_eqB e339 B341 (⟨by decide, by decide⟩ : lf_B 1819242347 1819242347 1819242347)
      refine pm_R_lo pm_M189 (pc' := 38) rfl rfl rfl ?_
      refine pm_R_ldc2 pm_M189 (pc' := 41) rfl rfl rfl ?_
      refine pm_R_op pm_M189 (pc' := 42) (st' := [.int z7]) rfl (by show some (Value.int (lg_cmp a0 495622124659) :: _) = _; rw [← e8]) rfl ?_
      refine pm_R_ifc pm_M189 (t := 62) (pc' := 45) rfl rfl rfl (fun c345 => absurd c345 c9) (fun c345 => ?_)
      have k346 := sf_lneC e8 c345
      refine pm_R_lo pm_M189 (pc' := 46) rfl rfl rfl ?_
      refine rf_R_get pm_M189 T (pc' := 49) (v := .ref 51) rfl rfl rfl rfl ?_
      refine pm_R_op pm_M189 (pc' := 50) (st' := [.int 1, .ref 51]) rfl rfl rfl ?_
      refine pm_R_iald pm_M189 (pc' := 51) (v := (f2 1)) rfl e3 (Nat.lt_of_lt_of_le (by decide) T.1) rfl rfl rfl ?_
      refine pm_R_op pm_M189 (pc' := 53) (st' := [.int 50, .int (f2 1)]) rfl rfl rfl ?_
      refine pm_R_icmp pm_M189 (t := 62) (pc' := 56) rfl rfl rfl (fun c349 => ?_) (fun c349 => ?_)
      · have B350 : sf_B 0 49 (f2 1) := sf_neH0 c349 sf_k50 ct4
        refine pm_R_lo pm_M189 (pc' := 63) rfl rfl rfl ?_
        refine pm_R_cv pm_M189 (pc' := 66) (a := 41) (ra := []) (rest := []) (ls' := [.ref 41, pm_no, pm_no]) rfl rfl (Or.inl rfl) pm_M179 T.2.1 rfl (by decide) (Nat.lt_of_lt_of_le (by decide) T.1) rfl rfl (Nat.le_of_ble_eq_true rfl) rfl rfl ?_
        refine rf_c179 (d := d + 2) T  (fun m353 w354 h355 T356 F357 W358 X359 X360 => ?_)
        have F361 := (rf_G.refl [41, 51, 52] h).trans F357 (by decide)
        have B362 : sf_B 0 4 (m353 17) := by rw [W358 17 (by decide)]; exact B6
        have ek363 : (m353 17).toInt = ((m 17)).toInt := by rw [W358 17 (by decide)]
        have W364 : rf_W [10, 12, 13, 14, 16, 17, 18, 21, 22] m m353 := (rf_W.refl [10, 12, 13, 14, 16, 17, 18, 21, 22] m).trans W358 (by decide)
        have B365 : sf_B 0 600 (m353 10) := T356.2.2.1 10
        have B366 : sf_B 0 1 (m353 22) := T356.2.2.1 22
        show pm_R _ 189 66 [.ref 41, .long a0, pm_no, .int a1, pm_no] [] _ _
        have R367 : (m 10).toInt ≤ (m353 10).toInt := (sf_aux51 _ _ X359)
        refine pm_R_lo pm_M189 (pc' := 67) rfl rfl rfl ?_
        refine pm_R_ldc2 pm_M189 (pc' := 70) rfl rfl rfl ?_
        refine pm_R_op pm_M189 (pc' := 71) (st' := [.int z7]) rfl (by show some (Value.int (lg_cmp a0 495622124659) :: _) = _; rw [← e8]) rfl ?_
        refine pm_R_ifc pm_M189 (t := 137) (pc' := 74) rfl rfl rfl (fun c370 => ?_) (fun c370 => absurd (Classical.not_not.mp c370) c9)
        have k371 := sf_lneC e8 c370
        refine pm_R_lo pm_M189 (pc' := 138) (pm_q189_1 (Nat.le_of_ble_eq_true rfl)) rfl rfl ?_
        refine pm_R_cv pm_M189 (pc' := 141) (a := 41) (ra := []) (rest := []) (ls' := [.ref 41, pm_no]) (pm_q189_1 (Nat.le_of_ble_eq_true rfl)) rfl (Or.inl rfl) pm_M190 T356.2.1 rfl (by decide) (Nat.lt_of_lt_of_le (by decide) T356.1) rfl rfl (Nat.le_of_ble_eq_true rfl) rfl rfl ?_
        refine pm_R_op pm_M190 (pc' := 1) (st' := [.int 0]) rfl rfl rfl ?_
        refine pm_R_lo pm_M190 (pc' := 2) (ls' := [.ref 41, .int 0]) (st' := []) rfl rfl rfl ?_
        refine pm_R_lo pm_M190 (pc' := 3) rfl rfl rfl ?_
        refine pm_R_op pm_M190 (pc' := 4) (st' := [.int 4, .int 0]) rfl rfl rfl ?_
        refine pm_R_br pm_M190 (pc' := 7) (st' := []) rfl rfl ?_
        refine pm_R_lo pm_M190 (pc' := 8) rfl rfl rfl ?_
        refine rf_R_get pm_M190 T356 (pc' := 11) (v := .ref 52) rfl rfl rfl rfl ?_
        refine pm_R_lo pm_M190 (pc' := 12) rfl rfl rfl ?_
        refine pm_R_op pm_M190 (pc' := 13) (st' := [.int (-1), .int 0, .ref 52]) rfl rfl rfl ?_
        obtain ⟨f372, e373, b374⟩ := T356.2.2.2.1 52 (by decide) (by decide)
        refine rf_R_ist pm_M190 T356 (pc' := 14) rfl e373 (by decide) (by decide) rfl ⟨_, rfl, sf_upd b374 (sf_weak sf_kn1 (by decide) (by decide)) _⟩ rfl (fun h375 T376 F377 e378 => ?_)
        have F379 := F361.trans F377 (by decide)
        refine pm_R_lo pm_M190 (pc' := 17) (ls' := [.ref 41, .int 1]) (st' := []) rfl rfl rfl ?_
        refine pm_R_br pm_M190 (pc' := 2) rfl rfl ?_
        refine pm_R_lo pm_M190 (pc' := 3) rfl rfl rfl ?_
        refine pm_R_op pm_M190 (pc' := 4) (st' := [.int 4, .int 1]) rfl rfl rfl ?_
        refine pm_R_br pm_M190 (pc' := 7) (st' := []) rfl rfl ?_
        refine pm_R_lo pm_M190 (pc' := 8) rfl rfl rfl ?_
        refine rf_R_get pm_M190 T376 (pc' := 11) (v := .ref 52) rfl rfl rfl rfl ?_
        refine pm_R_lo pm_M190 (pc' := 12) rfl rfl rfl ?_
        refine pm_R_op pm_M190 (pc' := 13) (st' := [.int (-1), .int 1, .ref 52]) rfl rfl rfl ?_
        refine rf_R_ist pm_M190 T376 (pc' := 14) rfl e378 (by decide) (by decide) rfl ⟨_, rfl, sf_upd (sf_upd b374 (sf_weak sf_kn1 (by decide) (by decide)) _) (sf_weak sf_kn1 (by decide) (by decide)) _⟩ rfl (fun h380 T381 F382 e383 => ?_)
        have F384 := F379.trans F382 (by decide)
        refine pm_R_lo pm_M190 (pc' := 17) (ls' := [.ref 41, .int 2]) (st' := []) rfl rfl rfl ?_
        refine pm_R_br pm_M190 (pc' := 2) rfl rfl ?_
        refine pm_R_lo pm_M190 (pc' := 3) rfl rfl rfl ?_
        refine pm_R_op pm_M190 (pc' := 4) (st' := [.int 4, .int 2]) rfl rfl rfl ?_
        refine pm_R_br pm_M190 (pc' := 7) (st' := []) rfl rfl ?_
        refine pm_R_lo pm_M190 (pc' := 8) rfl rfl rfl ?_
        refine rf_R_get pm_M190 T381 (pc' := 11) (v := .ref 52) rfl rfl rfl rfl ?_
        refine pm_R_lo pm_M190 (pc' := 12) rfl rfl rfl ?_
        refine pm_R_op pm_M190 (pc' := 13) (st' := [.int (-1), .int 2, .ref 52]) rfl rfl rfl ?_
        refine rf_R_ist pm_M190 T381 (pc' := 14) rfl e383 (by decide) (by decide) rfl ⟨_, rfl, sf_upd (sf_upd (sf_upd b374 (sf_weak sf_kn1 (by decide) (by decide)) _) (sf_weak sf_kn1 (by decide) (by decide)) _) (sf_weak sf_kn1 (by decide) (by decide)) _⟩ rfl (fun h385 T386 F387 e388 => ?_)
        have F389 := F384.trans F387 (by decide)
        refine pm_R_lo pm_M190 (pc' := 17) (ls' := [.ref 41, .int 3]) (st' := []) rfl rfl rfl ?_
        refine pm_R_br pm_M190 (pc' := 2) rfl rfl ?_
        refine pm_R_lo pm_M190 (pc' := 3) rfl rfl rfl ?_
        refine pm_R_op pm_M190 (pc' := 4) (st' := [.int 4, .int 3]) rfl rfl rfl ?_
        refine pm_R_br pm_M190 (pc' := 7) (st' := []) rfl rfl ?_
        refine pm_R_lo pm_M190 (pc' := 8) rfl rfl rfl ?_
        refine rf_R_get pm_M190 T386 (pc' := 11) (v := .ref 52) rfl rfl rfl rfl ?_
        refine pm_R_lo pm_M190 (pc' := 12) rfl rfl rfl ?_
        refine pm_R_op pm_M190 (pc' := 13) (st' := [.int (-1), .int 3, .ref 52]) rfl rfl rfl ?_
        refine rf_R_ist pm_M190 T386 (pc' := 14) rfl e388 (by decide) (by decide) rfl ⟨_, rfl, sf_upd (sf_upd (sf_upd (sf_upd b374 (sf_weak sf_kn1 (by decide) (by decide)) _) (sf_weak sf_kn1 (by decide) (by decide)) _) (sf_weak sf_kn1 (by decide) (by decide)) _) (sf_weak sf_kn1 (by decide) (by decide)) _⟩ rfl (fun h390 T391 F392 e393 => ?_)
        have F394 := F389.trans F392 (by decide)
        refine pm_R_lo pm_M190 (pc' := 17) (ls' := [.ref 41, .int 4]) (st' := []) rfl rfl rfl ?_
        refine pm_R_br pm_M190 (pc' := 2) rfl rfl ?_
        refine pm_R_lo pm_M190 (pc' := 3) rfl rfl rfl ?_
        refine pm_R_op pm_M190 (pc' := 4) (st' := [.int 4, .int 4]) rfl rfl rfl ?_
        refine pm_R_br pm_M190 (pc' := 20) (st' := []) rfl rfl ?_
        refine pm_R_ret pm_M190 (r := none) rfl rfl ?_
        show pm_R _ 189 141 [.ref 41, .long a0, pm_no, .int a1, pm_no] [] _ _
        refine pm_R_lo pm_M189 (pc' := 142) (pm_q189_1 (Nat.le_of_ble_eq_true rfl)) rfl rfl ?_
        refine rf_R_get pm_M189 T391 (pc' := 145) (v := .ref 52) (pm_q189_1 (Nat.le_of_ble_eq_true rfl)) rfl rfl rfl ?_
        refine pm_R_op pm_M189 (pc' := 146) (st' := [.int 0, .ref 52]) (pm_q189_1 (Nat.le_of_ble_eq_true rfl)) rfl rfl ?_
        refine pm_R_lo pm_M189 (pc' := 147) (pm_q189_1 (Nat.le_of_ble_eq_true rfl)) rfl rfl ?_
        refine pm_R_ldc2 pm_M189 (pc' := 150) (pm_q189_1 (Nat.le_of_ble_eq_true rfl)) rfl rfl ?_
        refine pm_R_op pm_M189 (pc' := 151) (st' := [.int z338, .int 0, .ref 52]) (pm_q189_1 (Nat.le_of_ble_eq_true rfl)) (by show some (Value.int (lg_cmp a0 1819242347) :: _) = _; rw [← e339]) rfl ?_
        refine pm_R_ifc pm_M189 (t := 158) (pc' := 154) (pm_q189_1 (Nat.le_of_ble_eq_true rfl)) rfl rfl (fun c397 => absurd (sf_pt2 B341 sf_k0) c397) (fun c397 => ?_)
        refine pm_R_op pm_M189 (pc' := 155) (st' := [.int 0, .int 0, .ref 52]) (pm_q189_1 (Nat.le_of_ble_eq_true rfl)) rfl rfl ?_
        refine pm_R_br pm_M189 (pc' := 171) (pm_q189_1 (Nat.le_of_ble_eq_true rfl)) rfl ?_
        refine rf_R_ist pm_M189 T391 (pc' := 172) (pm_q189_1 (Nat.le_of_ble_eq_true rfl)) e393 (by decide) (by decide) rfl ⟨_, rfl, sf_upd (sf_upd (sf_upd (sf_upd (sf_upd b374 (sf_weak sf_kn1 (by decide) (by decide)) _) (sf_weak sf_kn1 (by decide) (by decide)) _) (sf_weak sf_kn1 (by decide) (by decide)) _) (sf_weak sf_kn1 (by decide) (by decide)) _) (sf_weak sf_k0 (by decide) (by decide)) _⟩ rfl (fun h398 T399 F400 e401 => ?_)
        have F402 := F394.trans F400 (by decide)
        refine pm_R_lo pm_M189 (pc' := 173) (pm_q189_1 (Nat.le_of_ble_eq_true rfl)) rfl rfl ?_
        refine pm_R_op pm_M189 (pc' := 174) (st' := [.int 1, .ref 41]) (pm_q189_1 (Nat.le_of_ble_eq_true rfl)) rfl rfl ?_
        refine pm_R_op pm_M189 (pc' := 175) (st' := [.int (-1), .int 1, .ref 41]) (pm_q189_1 (Nat.le_of_ble_eq_true rfl)) rfl rfl ?_
        refine pm_R_cv pm_M189 (pc' := 178) (a := 41) (ra := [.int (-1), .int 1]) (rest := []) (ls' := [.ref 41, .int 1, .int (-1), pm_no]) (pm_q189_1 (Nat.le_of_ble_eq_true rfl)) rfl (Or.inl rfl) pm_M191 T399.2.1 rfl (by decide) (Nat.lt_of_lt_of_le (by decide) T399.1) rfl rfl (Nat.le_of_ble_eq_true rfl) rfl rfl ?_
        refine pm_R_lo pm_M191 (pc' := 1) rfl rfl rfl ?_
        refine pm_R_lo pm_M191 (pc' := 2) rfl rfl rfl ?_
        refine pm_R_op pm_M191 (pc' := 3) (st' := [.int 5, .int 1, .ref 41]) rfl rfl rfl ?_
        refine pm_R_lo pm_M191 (pc' := 4) rfl rfl rfl ?_
        refine pm_R_cv pm_M191 (pc' := 7) (a := 41) (ra := [.int (-1), .int 5, .int 1]) (rest := []) (ls' := [.ref 41, .int 1, .int 5, .int (-1)]) rfl rfl (Or.inl rfl) pm_M183 T399.2.1 rfl (by decide) (Nat.lt_of_lt_of_le (by decide) T399.1) rfl rfl (Nat.le_of_ble_eq_true rfl) rfl rfl ?_
        refine rf_c183_1_5 (d := d + 0) T399  (fun m405 w406 h407 T408 F409 W410 X411 => ?_) (fun m414 w415 h416 T417 F418 W419 X420 X421 X422 X423 X424 => ?_) (fun m427 w428 h429 T430 F431 W432 X433 X434 X435 B436 B437 => ?_)
        · have F438 := F402.trans F409 (by decide)
          have W439 : rf_W [10, 12, 13, 14, 16, 17, 18, 21, 22] m m405 := W364.trans W410 (by decide)
          have B440 : sf_B 0 600 (m405 10) := T408.2.2.1 10
          have B441 : sf_B 0 4 (m405 17) := T408.2.2.1 17
          have B442 : sf_B 0 1 (m405 22) := T408.2.2.1 22
          show pm_R _ 191 7 [.ref 41, .int 1, .int (-1), pm_no] [.int 0] _ _
          have R443 : (m 10).toInt ≤ (m405 10).toInt := (sf_aux70 _ _ _ R367 X411)
          refine pm_R_lo pm_M191 (pc' := 8) (ls' := [.ref 41, .int 1, .int (-1), .int 0]) (st' := []) rfl rfl rfl ?_
          refine pm_R_lo pm_M191 (pc' := 9) rfl rfl rfl ?_
          refine pm_R_lo pm_M191 (pc' := 10) rfl rfl rfl ?_
          refine pm_R_br pm_M191 (pc' := 35) (st' := [.ref 41]) rfl rfl ?_
          refine pm_R_lo pm_M191 (pc' := 36) rfl rfl rfl ?_
          have B444 : sf_B (-1) 99 (m405 21) := T408.2.2.1 21
          refine rf_R_get pm_M191 T408 (pc' := 39) (v := .int (m405 21)) rfl rfl rfl rfl ?_
          refine rf_R_put pm_M191 T408 (pc' := 42) rfl rfl rfl (by decide) rfl rfl B444 rfl rfl (fun h445 m448 em449 T446 F447 => ?_)
          have F450 := F438.trans F447 (by decide)
          have B451 : sf_B 0 600 (m448 10) := by rw [em449]; exact B440
          have ek452 : (m448 10).toInt = ((m405 10)).toInt := by rw [em449]; rfl
          have B453 : sf_B 0 4 (m448 17) := by rw [em449]; exact B441
          have ek454 : (m448 17).toInt = ((m405 17)).toInt := by rw [em449]; rfl
          have B455 : sf_B 0 1 (m448 22) := by rw [em449]; exact B442
          have ek456 : (m448 22).toInt = ((m405 22)).toInt := by rw [em449]; rfl
          have B457 : sf_B (-1) 99 (m448 21) := by rw [em449]; exact B444
          have ek458 : (m448 21).toInt = ((m405 21)).toInt := by rw [em449]; rfl
          have W459 : rf_W [10, 12, 13, 14, 16, 17, 18, 21, 22] m m448 := by rw [em449]; exact W439.put (by decide)
          refine pm_R_lo pm_M191 (pc' := 43) rfl rfl rfl ?_
          refine pm_R_ret pm_M191 (r := some (.int 0)) rfl rfl ?_
          show pm_R _ 189 178 [.ref 41, .long a0, pm_no, .int a1, pm_no] [.int 0] _ _
          refine pm_R_br pm_M189 (pc' := 181) (st' := []) (pm_q189_1 (Nat.le_of_ble_eq_true rfl)) rfl ?_
          refine pm_R_op pm_M189 (pc' := 182) (st' := [.int 0]) (pm_q189_1 (Nat.le_of_ble_eq_true rfl)) rfl rfl ?_
          exact pm_R_ret pm_M189 (r := some (.int 0)) (pm_q189_1 (Nat.le_of_ble_eq_true rfl)) rfl (K0 m448 w406 h445 T446 F450 W459 (sf_aux39 _ _ _ ek452 R443))
        · have F460 := F402.trans F418 (by decide)
          have W461 : rf_W [10, 12, 13, 14, 16, 17, 18, 21, 22] m m414 := W364.trans W419 (by decide)
          have B462 : sf_B 0 600 (m414 10) := T417.2.2.1 10
          have B463 : sf_B 0 4 (m414 17) := T417.2.2.1 17
          have B464 : sf_B 0 1 (m414 22) := T417.2.2.1 22
          show pm_R _ 191 7 [.ref 41, .int 1, .int (-1), pm_no] [.int 1] _ _
          have R465 : (m 10).toInt ≤ (m414 10).toInt := (sf_aux70 _ _ _ R367 X424)
          obtain ⟨v466, B467, e468⟩ := X420 _ e401
          refine pm_R_lo pm_M191 (pc' := 8) (ls' := [.ref 41, .int 1, .int (-1), .int 1]) (st' := []) rfl rfl rfl ?_
          refine pm_R_lo pm_M191 (pc' := 9) rfl rfl rfl ?_
          refine pm_R_lo pm_M191 (pc' := 10) rfl rfl rfl ?_
          refine pm_R_br pm_M191 (pc' := 13) (st' := [.ref 41]) rfl rfl ?_
          refine pm_R_lo pm_M191 (pc' := 14) rfl rfl rfl ?_
          refine rf_R_get pm_M191 T417 (pc' := 17) (v := .ref 52) rfl rfl rfl rfl ?_
          refine pm_R_lo pm_M191 (pc' := 18) rfl rfl rfl ?_
          refine pm_R_iald pm_M191 (pc' := 19) (v := v466) rfl e468 (Nat.lt_of_lt_of_le (by decide) T417.1) rfl sf_upd_eq rfl ?_
          refine pm_R_lo pm_M191 (pc' := 20) rfl rfl rfl ?_
          have B471 : sf_B (-1) 99 (m414 21) := T417.2.2.1 21
          refine rf_R_get pm_M191 T417 (pc' := 23) (v := .int (m414 21)) rfl rfl rfl rfl ?_
          refine pm_R_icmp pm_M191 (t := 35) (pc' := 26) rfl rfl rfl (fun c472 => ?_) (fun c472 => ?_)
          · have B473 : sf_B 0 99 (m414 21) := sf_leR c472 B467 B471
            refine pm_R_lo pm_M191 (pc' := 36) rfl rfl rfl ?_
            refine rf_R_get pm_M191 T417 (pc' := 39) (v := .int (m414 21)) rfl rfl rfl rfl ?_
            refine rf_R_put pm_M191 T417 (pc' := 42) rfl rfl rfl (by decide) rfl rfl (sf_weak B473 (by decide) (by decide)) rfl rfl (fun h474 m477 em478 T475 F476 => ?_)
            have F479 := F460.trans F476 (by decide)
            have B480 : sf_B 0 600 (m477 10) := by rw [em478]; exact B462
            have ek481 : (m477 10).toInt = ((m414 10)).toInt := by rw [em478]; rfl
            have B482 : sf_B 0 4 (m477 17) := by rw [em478]; exact (sf_eqT X421 B362)
            have ek483 : (m477 17).toInt = ((m353 17)).toInt := by rw [em478]; exact X421
            have B484 : sf_B 0 1 (m477 22) := by rw [em478]; exact (sf_eqT X422 B366)
            have ek485 : (m477 22).toInt = ((m353 22)).toInt := by rw [em478]; exact X422
            have B486 : sf_B 0 99 (m477 21) := by rw [em478]; exact B473
            have ek487 : (m477 21).toInt = ((m414 21)).toInt := by rw [em478]; rfl
            have W488 : rf_W [10, 12, 13, 14, 16, 17, 18, 21, 22] m m477 := by rw [em478]; exact W461.put (by decide)
            refine pm_R_lo pm_M191 (pc' := 43) rfl rfl rfl ?_
            refine pm_R_ret pm_M191 (r := some (.int 1)) rfl rfl ?_
            show pm_R _ 189 178 [.ref 41, .long a0, pm_no, .int a1, pm_no] [.int 1] _ _
            refine pm_R_br pm_M189 (pc' := 183) (st' := []) (pm_q189_1 (Nat.le_of_ble_eq_true rfl)) rfl ?_
            refine pm_R_lo pm_M189 (pc' := 184) (pm_q189_1 (Nat.le_of_ble_eq_true rfl)) rfl rfl ?_
            refine pm_R_ldc2 pm_M189 (pc' := 187) (pm_q189_1 (Nat.le_of_ble_eq_true rfl)) rfl rfl ?_
            refine pm_R_op pm_M189 (pc' := 188) (st' := [.int z338]) (pm_q189_1 (Nat.le_of_ble_eq_true rfl)) (by show some (Value.int (lg_cmp a0 1819242347) :: _) = _; rw [← e339]) rfl ?_
            refine pm_R_ifc pm_M189 (t := 205) (pc' := 191) (pm_q189_1 (Nat.le_of_ble_eq_true rfl)) rfl rfl (fun c491 => absurd (sf_pt2 B341 sf_k0) c491) (fun c491 => ?_)
            refine pm_R_lo pm_M189 (pc' := 192) (pm_q189_1 (Nat.le_of_ble_eq_true rfl)) rfl rfl ?_
            refine pm_R_op pm_M189 (pc' := 193) (st' := [.int 2, .ref 41]) (pm_q189_1 (Nat.le_of_ble_eq_true rfl)) rfl rfl ?_
            refine pm_R_lo pm_M189 (pc' := 194) (pm_q189_1 (Nat.le_of_ble_eq_true rfl)) rfl rfl ?_
            refine rf_R_get pm_M189 T475 (pc' := 197) (v := .ref 52) (pm_q189_1 (Nat.le_of_ble_eq_true rfl)) rfl rfl rfl ?_
            refine pm_R_op pm_M189 (pc' := 198) (st' := [.int 1, .ref 52, .int 2, .ref 41]) (pm_q189_1 (Nat.le_of_ble_eq_true rfl)) rfl rfl ?_
            have e492 := (F476.cell (by decide) e468)
            refine pm_R_iald pm_M189 (pc' := 199) (v := v466) (pm_q189_1 (Nat.le_of_ble_eq_true rfl)) e492 (Nat.lt_of_lt_of_le (by decide) T475.1) rfl sf_upd_eq rfl ?_
            refine pm_R_cv pm_M189 (pc' := 202) (a := 41) (ra := [.int v466, .int 2]) (rest := []) (ls' := [.ref 41, .int 2, .int v466, pm_no]) (pm_q189_1 (Nat.le_of_ble_eq_true rfl)) rfl (Or.inl rfl) pm_M191 T475.2.1 rfl (by decide) (Nat.lt_of_lt_of_le (by decide) T475.1) rfl rfl (Nat.le_of_ble_eq_true rfl) rfl rfl ?_
            refine pm_R_lo pm_M191 (pc' := 1) rfl rfl rfl ?_
            refine pm_R_lo pm_M191 (pc' := 2) rfl rfl rfl ?_
            refine pm_R_op pm_M191 (pc' := 3) (st' := [.int 5, .int 2, .ref 41]) rfl rfl rfl ?_
            refine pm_R_lo pm_M191 (pc' := 4) rfl rfl rfl ?_
            refine pm_R_cv pm_M191 (pc' := 7) (a := 41) (ra := [.int v466, .int 5, .int 2]) (rest := []) (ls' := [.ref 41, .int 2, .int 5, .int v466]) rfl rfl (Or.inl rfl) pm_M183 T475.2.1 rfl (by decide) (Nat.lt_of_lt_of_le (by decide) T475.1) rfl rfl (Nat.le_of_ble_eq_true rfl) rfl rfl ?_
            refine rf_c183_2_5 (d := d + 0) T475  (fun m497 w498 h499 T500 F501 W502 X503 => ?_) (fun m506 w507 h508 T509 F510 W511 X512 X513 X514 X515 X516 => ?_) (fun m519 w520 h521 T522 F523 W524 X525 X526 X527 B528 B529 => ?_)
            · have F530 := F479.trans F501 (by decide)
              have B531 : sf_B 0 99 (m497 21) := by rw [W502 21 (by decide)]; exact B486
              have ek532 : (m497 21).toInt = ((m414 21)).toInt := by rw [W502 21 (by decide)]; exact ek487
              have W533 : rf_W [10, 12, 13, 14, 16, 17, 18, 21, 22] m m497 := W488.trans W502 (by decide)
              have B534 : sf_B 0 600 (m497 10) := T500.2.2.1 10
              have B535 : sf_B 0 4 (m497 17) := T500.2.2.1 17
              have B536 : sf_B 0 1 (m497 22) := T500.2.2.1 22
              show pm_R _ 191 7 [.ref 41, .int 2, .int v466, pm_no] [.int 0] _ _
              have R537 : (m 10).toInt ≤ (m497 10).toInt := (sf_aux77 _ _ _ _ ek481 R465 X503)
              refine pm_R_lo pm_M191 (pc' := 8) (ls' := [.ref 41, .int 2, .int v466, .int 0]) (st' := []) rfl rfl rfl ?_
              refine pm_R_lo pm_M191 (pc' := 9) rfl rfl rfl ?_
              refine pm_R_lo pm_M191 (pc' := 10) rfl rfl rfl ?_
              refine pm_R_br pm_M191 (pc' := 35) (st' := [.ref 41]) rfl rfl ?_
              refine pm_R_lo pm_M191 (pc' := 36) rfl rfl rfl ?_
              refine rf_R_get pm_M191 T500 (pc' := 39) (v := .int (m497 21)) rfl rfl rfl rfl ?_
              refine rf_R_put pm_M191 T500 (pc' := 42) rfl rfl rfl (by decide) rfl rfl (sf_weak B531 (by decide) (by decide)) rfl rfl (fun h538 m541 em542 T539 F540 => ?_)
              have F543 := F530.trans F540 (by decide)
              have B544 : sf_B 0 600 (m541 10) := by rw [em542]; exact B534
              have ek545 : (m541 10).toInt = ((m497 10)).toInt := by rw [em542]; rfl
              have B546 : sf_B 0 4 (m541 17) := by rw [em542]; exact B535
              have ek547 : (m541 17).toInt = ((m497 17)).toInt := by rw [em542]; rfl
              have B548 : sf_B 0 1 (m541 22) := by rw [em542]; exact B536
              have ek549 : (m541 22).toInt = ((m497 22)).toInt := by rw [em542]; rfl
              have B550 : sf_B 0 99 (m541 21) := by rw [em542]; exact B531
              have ek551 : (m541 21).toInt = ((m497 21)).toInt := by rw [em542]; rfl
              have W552 : rf_W [10, 12, 13, 14, 16, 17, 18, 21, 22] m m541 := by rw [em542]; exact W533.put (by decide)
              refine pm_R_lo pm_M191 (pc' := 43) rfl rfl rfl ?_
              refine pm_R_ret pm_M191 (r := some (.int 0)) rfl rfl ?_
              show pm_R _ 189 202 [.ref 41, .long a0, pm_no, .int a1, pm_no] [.int 0] _ _
              refine pm_R_br pm_M189 (pc' := 224) (st' := []) (pm_q189_1 (Nat.le_of_ble_eq_true rfl)) rfl ?_
              refine pm_R_op pm_M189 (pc' := 225) (st' := [.int 0]) (pm_q189_2 (Nat.le_of_ble_eq_true rfl)) rfl rfl ?_
              exact pm_R_ret pm_M189 (r := some (.int 0)) (pm_q189_2 (Nat.le_of_ble_eq_true rfl)) rfl (K0 m541 w498 h538 T539 F543 W552 (sf_aux39 _ _ _ ek545 R537))
            · have F553 := F479.trans F510 (by decide)
              have B554 : sf_B 0 99 (m506 21) := by rw [W511 21 (by decide)]; exact B486
              have ek555 : (m506 21).toInt = ((m414 21)).toInt := by rw [W511 21 (by decide)]; exact ek487
              have W556 : rf_W [10, 12, 13, 14, 16, 17, 18, 21, 22] m m506 := W488.trans W511 (by decide)
              have B557 : sf_B 0 600 (m506 10) := T509.2.2.1 10
              have B558 : sf_B 0 4 (m506 17) := T509.2.2.1 17
              have B559 : sf_B 0 1 (m506 22) := T509.2.2.1 22
              show pm_R _ 191 7 [.ref 41, .int 2, .int v466, pm_no] [.int 1] _ _
              have R560 : (m 10).toInt ≤ (m506 10).toInt := (sf_aux77 _ _ _ _ ek481 R465 X516)
              obtain ⟨v561, B562, e563⟩ := X512 _ e492
              refine pm_R_lo pm_M191 (pc' := 8) (ls' := [.ref 41, .int 2, .int v466, .int 1]) (st' := []) rfl rfl rfl ?_
              refine pm_R_lo pm_M191 (pc' := 9) rfl rfl rfl ?_
              refine pm_R_lo pm_M191 (pc' := 10) rfl rfl rfl ?_
              refine pm_R_br pm_M191 (pc' := 13) (st' := [.ref 41]) rfl rfl ?_
              refine pm_R_lo pm_M191 (pc' := 14) rfl rfl rfl ?_
              refine rf_R_get pm_M191 T509 (pc' := 17) (v := .ref 52) rfl rfl rfl rfl ?_
              refine pm_R_lo pm_M191 (pc' := 18) rfl rfl rfl ?_
              refine pm_R_iald pm_M191 (pc' := 19) (v := v561) rfl e563 (Nat.lt_of_lt_of_le (by decide) T509.1) rfl sf_upd_eq rfl ?_
              refine pm_R_lo pm_M191 (pc' := 20) rfl rfl rfl ?_
              refine rf_R_get pm_M191 T509 (pc' := 23) (v := .int (m506 21)) rfl rfl rfl rfl ?_
              refine pm_R_icmp pm_M191 (t := 35) (pc' := 26) rfl rfl rfl (fun c566 => ?_) (fun c566 => ?_)
              · skip
                refine pm_R_lo pm_M191 (pc' := 36) rfl rfl rfl ?_
                refine rf_R_get pm_M191 T509 (pc' := 39) (v := .int (m506 21)) rfl rfl rfl rfl ?_
                refine rf_R_put pm_M191 T509 (pc' := 42) rfl rfl rfl (by decide) rfl rfl (sf_weak B554 (by decide) (by decide)) rfl rfl (fun h567 m570 em571 T568 F569 => ?_)
                have F572 := F553.trans F569 (by decide)
                have B573 : sf_B 0 600 (m570 10) := by rw [em571]; exact B557
                have ek574 : (m570 10).toInt = ((m506 10)).toInt := by rw [em571]; rfl
                have B575 : sf_B 0 4 (m570 17) := by rw [em571]; exact (sf_eqT X513 B482)
                have ek576 : (m570 17).toInt = ((m477 17)).toInt := by rw [em571]; exact X513
                have B577 : sf_B 0 1 (m570 22) := by rw [em571]; exact (sf_eqT X514 B484)
                have ek578 : (m570 22).toInt = ((m477 22)).toInt := by rw [em571]; exact X514
                have B579 : sf_B 0 99 (m570 21) := by rw [em571]; exact B554
                have ek580 : (m570 21).toInt = ((m506 21)).toInt := by rw [em571]; rfl
                have W581 : rf_W [10, 12, 13, 14, 16, 17, 18, 21, 22] m m570 := by rw [em571]; exact W556.put (by decide)
                refine pm_R_lo pm_M191 (pc' := 43) rfl rfl rfl ?_
                refine pm_R_ret pm_M191 (r := some (.int 1)) rfl rfl ?_
                show pm_R _ 189 202 [.ref 41, .long a0, pm_no, .int a1, pm_no] [.int 1] _ _
                refine pm_R_br pm_M189 (pc' := 205) (st' := []) (pm_q189_1 (Nat.le_of_ble_eq_true rfl)) rfl ?_
                refine pm_R_lo pm_M189 (pc' := 206) (pm_q189_1 (Nat.le_of_ble_eq_true rfl)) rfl rfl ?_
                refine pm_R_ldc2 pm_M189 (pc' := 209) (pm_q189_1 (Nat.le_of_ble_eq_true rfl)) rfl rfl ?_
                refine sf_R_lcmp pm_M189 (pc' := 210) (pm_q189_1 (Nat.le_of_ble_eq_true rfl)) rfl (fun z582 e583 => ?_)
                have B584 : sf_B (-2147483648) (-1) z582 := lf_cmpLt e583 B342 (⟨by decide, by decide⟩ : lf_B 1935767923 1935767923 1935767923) (by decide)
                refine pm_R_ifc pm_M189 (t := 226) (pc' := 213) (pm_q189_1 (Nat.le_of_ble_eq_true rfl)) rfl rfl (fun c585 => ?_) (fun c585 => absurd (Classical.not_not.mp c585) (sf_neq2 B584 sf_k0 (by decide)))
                have k586 := sf_lneC e583 c585
                refine pm_R_lo pm_M189 (pc' := 227) (pm_q189_2 (Nat.le_of_ble_eq_true rfl)) rfl rfl ?_
                refine pm_R_op pm_M189 (pc' := 228) (st' := [.int 1, .ref 41]) (pm_q189_2 (Nat.le_of_ble_eq_true rfl)) rfl rfl ?_
                refine pm_R_op pm_M189 (pc' := 229) (st' := [.int 2, .int 1, .ref 41]) (pm_q189_2 (Nat.le_of_ble_eq_true rfl)) rfl rfl ?_
                refine pm_R_op pm_M189 (pc' := 230) (st' := [.int 3, .int 2, .int 1, .ref 41]) (pm_q189_2 (Nat.le_of_ble_eq_true rfl)) rfl rfl ?_
                refine pm_R_op pm_M189 (pc' := 232) (st' := [.int 50, .int 3, .int 2, .int 1, .ref 41]) (pm_q189_2 (Nat.le_of_ble_eq_true rfl)) rfl rfl ?_
                refine pm_R_op pm_M189 (pc' := 233) (st' := [.int 0, .int 50, .int 3, .int 2, .int 1, .ref 41]) (pm_q189_2 (Nat.le_of_ble_eq_true rfl)) rfl rfl ?_
                refine pm_R_cv pm_M189 (pc' := 236) (a := 41) (ra := [.int 0, .int 50, .int 3, .int 2, .int 1]) (rest := []) (ls' := [.ref 41, .int 1, .int 2, .int 3, .int 50, .int 0, pm_no, pm_no]) (pm_q189_2 (Nat.le_of_ble_eq_true rfl)) rfl (Or.inl rfl) pm_M185 T568.2.1 rfl (by decide) (Nat.lt_of_lt_of_le (by decide) T568.1) rfl rfl (Nat.le_of_ble_eq_true rfl) rfl rfl ?_
                have e587 := (F569.cell (by decide) (F510.cell (by decide) (F476.cell (by decide) (F418.cell (by decide) (F400.cell (by decide) (F392.cell (by decide) (F387.cell (by decide) (F382.cell (by decide) (F377.cell (by decide) (F357.cell (by decide) e3))))))))))
                have e588 := (F569.cell (by decide) e563)
                refine rf_c185_d (d := d + 3) T568 (⟨f2, e587, ct4, fun z => (bd5 (sf_aux73 _ _ _ _ ek363 ek483 ek576 z))⟩) (fun _ g eg => by rw [e588] at eg; cases eg; exact ⟨sf_eqL (Eq.trans (sf_upd_nec (k := Int32.toNatClampNeg 2) (j := Int32.toNatClampNeg 0) (by decide)) (Eq.trans (sf_upd_nec (k := Int32.toNatClampNeg 1) (j := Int32.toNatClampNeg 0) (by decide)) sf_upd_eq)) (sf_weak sf_k0 (by decide) (by decide)), sf_eqL (Eq.trans (sf_upd_nec (k := Int32.toNatClampNeg 2) (j := Int32.toNatClampNeg 1) (by decide)) sf_upd_eq) B467, sf_eqL sf_upd_eq (sf_weak B562 (by decide) (by decide))⟩) (fun m591 w592 h593 T594 F595 W596 X597 => ?_)
                have F598 := F572.trans F595 (by decide)
                have B599 : sf_B 0 600 (m591 10) := by rw [W596 10 (by decide)]; exact B573
                have ek600 : (m591 10).toInt = ((m506 10)).toInt := by rw [W596 10 (by decide)]; exact ek574
                have B601 : sf_B 0 4 (m591 17) := by rw [W596 17 (by decide)]; exact B575
                have ek602 : (m591 17).toInt = ((m477 17)).toInt := by rw [W596 17 (by decide)]; exact ek576
                have B603 : sf_B 0 1 (m591 22) := by rw [W596 22 (by decide)]; exact B577
                have ek604 : (m591 22).toInt = ((m477 22)).toInt := by rw [W596 22 (by decide)]; exact ek578
                have B605 : sf_B 0 99 (m591 21) := by rw [W596 21 (by decide)]; exact B579
                have ek606 : (m591 21).toInt = ((m506 21)).toInt := by rw [W596 21 (by decide)]; exact ek580
                have W607 : rf_W [10, 12, 13, 14, 16, 17, 18, 21, 22] m m591 := W581.trans W596 (by decide)
                show pm_R _ 189 236 [.ref 41, .long a0, pm_no, .int a1, pm_no] [] _ _
                obtain ⟨f608, e609, ct610, bd611⟩ := X597
                refine pm_R_op pm_M189 (pc' := 237) (st' := [.int 1]) (pm_q189_2 (Nat.le_of_ble_eq_true rfl)) rfl rfl ?_
                exact pm_R_ret pm_M189 (r := some (.int 1)) (pm_q189_2 (Nat.le_of_ble_eq_true rfl)) rfl (K1 m591 w592 h593 T594 F598 W607 (⟨f608, e609, ct610, fun z => (bd611 z)⟩) (sf_aux39 _ _ _ ek600 R560))
              · have B612 : sf_B 0 4 (m506 21) := sf_ltL (Int32.not_le.mp c566) B554 B562
                have B613 : sf_B 1 5 v561 := sf_ltR (Int32.not_le.mp c566) B554 B562
                refine pm_R_lo pm_M191 (pc' := 27) rfl rfl rfl ?_
                refine rf_R_get pm_M191 T509 (pc' := 30) (v := .ref 52) rfl rfl rfl rfl ?_
                refine pm_R_lo pm_M191 (pc' := 31) rfl rfl rfl ?_
                refine pm_R_iald pm_M191 (pc' := 32) (v := v561) rfl e563 (Nat.lt_of_lt_of_le (by decide) T509.1) rfl sf_upd_eq rfl ?_
                refine pm_R_br pm_M191 (pc' := 39) rfl rfl ?_
                refine rf_R_put pm_M191 T509 (pc' := 42) rfl rfl rfl (by decide) rfl rfl (sf_weak B613 (by decide) (by decide)) rfl rfl (fun h616 m619 em620 T617 F618 => ?_)
                have F621 := F553.trans F618 (by decide)
                have B622 : sf_B 0 600 (m619 10) := by rw [em620]; exact B557
                have ek623 : (m619 10).toInt = ((m506 10)).toInt := by rw [em620]; rfl
                have B624 : sf_B 0 4 (m619 17) := by rw [em620]; exact (sf_eqT X513 B482)
                have ek625 : (m619 17).toInt = ((m477 17)).toInt := by rw [em620]; exact X513
                have B626 : sf_B 0 1 (m619 22) := by rw [em620]; exact (sf_eqT X514 B484)
                have ek627 : (m619 22).toInt = ((m477 22)).toInt := by rw [em620]; exact X514
                have B628 : sf_B 1 5 (m619 21) := by rw [em620]; exact B613
                have ek629 : (m619 21).toInt = (v561).toInt := by rw [em620]; rfl
                have W630 : rf_W [10, 12, 13, 14, 16, 17, 18, 21, 22] m m619 := by rw [em620]; exact W556.put (by decide)
                refine pm_R_lo pm_M191 (pc' := 43) rfl rfl rfl ?_
                refine pm_R_ret pm_M191 (r := some (.int 1)) rfl rfl ?_
                show pm_R _ 189 202 [.ref 41, .long a0, pm_no, .int a1, pm_no] [.int 1] _ _
                refine pm_R_br pm_M189 (pc' := 205) (st' := []) (pm_q189_1 (Nat.le_of_ble_eq_true rfl)) rfl ?_
                refine pm_R_lo pm_M189 (pc' := 206) (pm_q189_1 (Nat.le_of_ble_eq_true rfl)) rfl rfl ?_
                refine pm_R_ldc2 pm_M189 (pc' := 209) (pm_q189_1 (Nat.le_of_ble_eq_true rfl)) rfl rfl ?_
                refine sf_R_lcmp pm_M189 (pc' := 210) (pm_q189_1 (Nat.le_of_ble_eq_true rfl)) rfl (fun z631 e632 => ?_)
                have B633 : sf_B (-2147483648) (-1) z631 := lf_cmpLt e632 B342 (⟨by decide, by decide⟩ : lf_B 1935767923 1935767923 1935767923) (by decide)
                refine pm_R_ifc pm_M189 (t := 226) (pc' := 213) (pm_q189_1 (Nat.le_of_ble_eq_true rfl)) rfl rfl (fun c634 => ?_) (fun c634 => absurd (Classical.not_not.mp c634) (sf_neq2 B633 sf_k0 (by decide)))
                have k635 := sf_lneC e632 c634
                refine pm_R_lo pm_M189 (pc' := 227) (pm_q189_2 (Nat.le_of_ble_eq_true rfl)) rfl rfl ?_
                refine pm_R_op pm_M189 (pc' := 228) (st' := [.int 1, .ref 41]) (pm_q189_2 (Nat.le_of_ble_eq_true rfl)) rfl rfl ?_
                refine pm_R_op pm_M189 (pc' := 229) (st' := [.int 2, .int 1, .ref 41]) (pm_q189_2 (Nat.le_of_ble_eq_true rfl)) rfl rfl ?_
                refine pm_R_op pm_M189 (pc' := 230) (st' := [.int 3, .int 2, .int 1, .ref 41]) (pm_q189_2 (Nat.le_of_ble_eq_true rfl)) rfl rfl ?_
                refine pm_R_op pm_M189 (pc' := 232) (st' := [.int 50, .int 3, .int 2, .int 1, .ref 41]) (pm_q189_2 (Nat.le_of_ble_eq_true rfl)) rfl rfl ?_
                refine pm_R_op pm_M189 (pc' := 233) (st' := [.int 0, .int 50, .int 3, .int 2, .int 1, .ref 41]) (pm_q189_2 (Nat.le_of_ble_eq_true rfl)) rfl rfl ?_
                refine pm_R_cv pm_M189 (pc' := 236) (a := 41) (ra := [.int 0, .int 50, .int 3, .int 2, .int 1]) (rest := []) (ls' := [.ref 41, .int 1, .int 2, .int 3, .int 50, .int 0, pm_no, pm_no]) (pm_q189_2 (Nat.le_of_ble_eq_true rfl)) rfl (Or.inl rfl) pm_M185 T617.2.1 rfl (by decide) (Nat.lt_of_lt_of_le (by decide) T617.1) rfl rfl (Nat.le_of_ble_eq_true rfl) rfl rfl ?_
                have e636 := (F618.cell (by decide) (F510.cell (by decide) (F476.cell (by decide) (F418.cell (by decide) (F400.cell (by decide) (F392.cell (by decide) (F387.cell (by decide) (F382.cell (by decide) (F377.cell (by decide) (F357.cell (by decide) e3))))))))))
                have e637 := (F618.cell (by decide) e563)
                refine rf_c185_d (d := d + 3) T617 (⟨f2, e636, ct4, fun z => (bd5 (sf_aux73 _ _ _ _ ek363 ek483 ek625 z))⟩) (fun _ g eg => by rw [e637] at eg; cases eg; exact ⟨sf_eqL (Eq.trans (sf_upd_nec (k := Int32.toNatClampNeg 2) (j := Int32.toNatClampNeg 0) (by decide)) (Eq.trans (sf_upd_nec (k := Int32.toNatClampNeg 1) (j := Int32.toNatClampNeg 0) (by decide)) sf_upd_eq)) (sf_weak sf_k0 (by decide) (by decide)), sf_eqL (Eq.trans (sf_upd_nec (k := Int32.toNatClampNeg 2) (j := Int32.toNatClampNeg 1) (by decide)) sf_upd_eq) B467, sf_eqL sf_upd_eq (sf_weak B613 (by decide) (by decide))⟩) (fun m640 w641 h642 T643 F644 W645 X646 => ?_)
                have F647 := F621.trans F644 (by decide)
                have B648 : sf_B 0 600 (m640 10) := by rw [W645 10 (by decide)]; exact B622
                have ek649 : (m640 10).toInt = ((m506 10)).toInt := by rw [W645 10 (by decide)]; exact ek623
                have B650 : sf_B 0 4 (m640 17) := by rw [W645 17 (by decide)]; exact B624
                have ek651 : (m640 17).toInt = ((m477 17)).toInt := by rw [W645 17 (by decide)]; exact ek625
                have B652 : sf_B 0 1 (m640 22) := by rw [W645 22 (by decide)]; exact B626
                have ek653 : (m640 22).toInt = ((m477 22)).toInt := by rw [W645 22 (by decide)]; exact ek627
                have B654 : sf_B 1 5 (m640 21) := by rw [W645 21 (by decide)]; exact B628
                have ek655 : (m640 21).toInt = (v561).toInt := by rw [W645 21 (by decide)]; exact ek629
                have W656 : rf_W [10, 12, 13, 14, 16, 17, 18, 21, 22] m m640 := W630.trans W645 (by decide)
                show pm_R _ 189 236 [.ref 41, .long a0, pm_no, .int a1, pm_no] [] _ _
                obtain ⟨f657, e658, ct659, bd660⟩ := X646
                refine pm_R_op pm_M189 (pc' := 237) (st' := [.int 1]) (pm_q189_2 (Nat.le_of_ble_eq_true rfl)) rfl rfl ?_
                exact pm_R_ret pm_M189 (r := some (.int 1)) (pm_q189_2 (Nat.le_of_ble_eq_true rfl)) rfl (K1 m640 w641 h642 T643 F647 W656 (⟨f657, e658, ct659, fun z => (bd660 z)⟩) (sf_aux39 _ _ _ ek649 R560))
            · have F661 := F479.trans F523 (by decide)
              have B662 : sf_B 0 99 (m519 21) := by rw [W524 21 (by decide)]; exact B486
              have ek663 : (m519 21).toInt = ((m414 21)).toInt := by rw [W524 21 (by decide)]; exact ek487
              have W664 : rf_W [10, 12, 13, 14, 16, 17, 18, 21, 22] m m519 := W488.trans W524 (by decide)
              have B665 : sf_B 0 600 (m519 10) := T522.2.2.1 10
              have B666 : sf_B 0 4 (m519 17) := T522.2.2.1 17
              have B667 : sf_B 0 1 (m519 22) := T522.2.2.1 22
              show pm_R _ 191 7 [.ref 41, .int 2, .int v466, pm_no] [.int 1] _ _
              have R668 : (m 10).toInt ≤ (m519 10).toInt := (sf_aux77 _ _ _ _ ek481 R465 X527)
              obtain ⟨v669, B670, e671⟩ := X525 _ e492
              refine pm_R_lo pm_M191 (pc' := 8) (ls' := [.ref 41, .int 2, .int v466, .int 1]) (st' := []) rfl rfl rfl ?_
              refine pm_R_lo pm_M191 (pc' := 9) rfl rfl rfl ?_
              refine pm_R_lo pm_M191 (pc' := 10) rfl rfl rfl ?_
              refine pm_R_br pm_M191 (pc' := 13) (st' := [.ref 41]) rfl rfl ?_
              refine pm_R_lo pm_M191 (pc' := 14) rfl rfl rfl ?_
              refine rf_R_get pm_M191 T522 (pc' := 17) (v := .ref 52) rfl rfl rfl rfl ?_
              refine pm_R_lo pm_M191 (pc' := 18) rfl rfl rfl ?_
              refine pm_R_iald pm_M191 (pc' := 19) (v := v669) rfl e671 (Nat.lt_of_lt_of_le (by decide) T522.1) rfl sf_upd_eq rfl ?_
              refine pm_R_lo pm_M191 (pc' := 20) rfl rfl rfl ?_
              refine rf_R_get pm_M191 T522 (pc' := 23) (v := .int (m519 21)) rfl rfl rfl rfl ?_
              refine pm_R_icmp pm_M191 (t := 35) (pc' := 26) rfl rfl rfl (fun c674 => ?_) (fun c674 => ?_)
              · skip
                refine pm_R_lo pm_M191 (pc' := 36) rfl rfl rfl ?_
                refine rf_R_get pm_M191 T522 (pc' := 39) (v := .int (m519 21)) rfl rfl rfl rfl ?_
                refine rf_R_put pm_M191 T522 (pc' := 42) rfl rfl rfl (by decide) rfl rfl (sf_weak B662 (by decide) (by decide)) rfl rfl (fun h675 m678 em679 T676 F677 => ?_)
                have F680 := F661.trans F677 (by decide)
                have B681 : sf_B 0 600 (m678 10) := by rw [em679]; exact B665
                have ek682 : (m678 10).toInt = ((m519 10)).toInt := by rw [em679]; rfl
                have B683 : sf_B 1 4 (m678 17) := by rw [em679]; exact B528
                have ek684 : (m678 17).toInt = ((m519 17)).toInt := by rw [em679]; rfl
                have B685 : sf_B 0 0 (m678 22) := by rw [em679]; exact B529
                have ek686 : (m678 22).toInt = ((m519 22)).toInt := by rw [em679]; rfl
                have B687 : sf_B 0 99 (m678 21) := by rw [em679]; exact B662
                have ek688 : (m678 21).toInt = ((m519 21)).toInt := by rw [em679]; rfl
                have W689 : rf_W [10, 12, 13, 14, 16, 17, 18, 21, 22] m m678 := by rw [em679]; exact W664.put (by decide)
                refine pm_R_lo pm_M191 (pc' := 43) rfl rfl rfl ?_
                refine pm_R_ret pm_M191 (r := some (.int 1)) rfl rfl ?_
                show pm_R _ 189 202 [.ref 41, .long a0, pm_no, .int a1, pm_no] [.int 1] _ _
                refine pm_R_br pm_M189 (pc' := 205) (st' := []) (pm_q189_1 (Nat.le_of_ble_eq_true rfl)) rfl ?_
                refine pm_R_lo pm_M189 (pc' := 206) (pm_q189_1 (Nat.le_of_ble_eq_true rfl)) rfl rfl ?_
                refine pm_R_ldc2 pm_M189 (pc' := 209) (pm_q189_1 (Nat.le_of_ble_eq_true rfl)) rfl rfl ?_
                refine sf_R_lcmp pm_M189 (pc' := 210) (pm_q189_1 (Nat.le_of_ble_eq_true rfl)) rfl (fun z690 e691 => ?_)
                have B692 : sf_B (-2147483648) (-1) z690 := lf_cmpLt e691 B342 (⟨by decide, by decide⟩ : lf_B 1935767923 1935767923 1935767923) (by decide)
                refine pm_R_ifc pm_M189 (t := 226) (pc' := 213) (pm_q189_1 (Nat.le_of_ble_eq_true rfl)) rfl rfl (fun c693 => ?_) (fun c693 => absurd (Classical.not_not.mp c693) (sf_neq2 B692 sf_k0 (by decide)))
                have k694 := sf_lneC e691 c693
                refine pm_R_lo pm_M189 (pc' := 227) (pm_q189_2 (Nat.le_of_ble_eq_true rfl)) rfl rfl ?_
                refine pm_R_op pm_M189 (pc' := 228) (st' := [.int 1, .ref 41]) (pm_q189_2 (Nat.le_of_ble_eq_true rfl)) rfl rfl ?_
                refine pm_R_op pm_M189 (pc' := 229) (st' := [.int 2, .int 1, .ref 41]) (pm_q189_2 (Nat.le_of_ble_eq_true rfl)) rfl rfl ?_
                refine pm_R_op pm_M189 (pc' := 230) (st' := [.int 3, .int 2, .int 1, .ref 41]) (pm_q189_2 (Nat.le_of_ble_eq_true rfl)) rfl rfl ?_
                refine pm_R_op pm_M189 (pc' := 232) (st' := [.int 50, .int 3, .int 2, .int 1, .ref 41]) (pm_q189_2 (Nat.le_of_ble_eq_true rfl)) rfl rfl ?_
                refine pm_R_op pm_M189 (pc' := 233) (st' := [.int 0, .int 50, .int 3, .int 2, .int 1, .ref 41]) (pm_q189_2 (Nat.le_of_ble_eq_true rfl)) rfl rfl ?_
                refine pm_R_cv pm_M189 (pc' := 236) (a := 41) (ra := [.int 0, .int 50, .int 3, .int 2, .int 1]) (rest := []) (ls' := [.ref 41, .int 1, .int 2, .int 3, .int 50, .int 0, pm_no, pm_no]) (pm_q189_2 (Nat.le_of_ble_eq_true rfl)) rfl (Or.inl rfl) pm_M185 T676.2.1 rfl (by decide) (Nat.lt_of_lt_of_le (by decide) T676.1) rfl rfl (Nat.le_of_ble_eq_true rfl) rfl rfl ?_
                have e695 := (F677.cell (by decide) (F523.cell (by decide) (F476.cell (by decide) (F418.cell (by decide) (F400.cell (by decide) (F392.cell (by decide) (F387.cell (by decide) (F382.cell (by decide) (F377.cell (by decide) (F357.cell (by decide) e3))))))))))
                refine rf_c185_d (d := d + 3) T676 (⟨f2, e695, ct4, fun z => (sf_pos B683 (by decide) z)⟩) (fun z => sf_pos B683 (by decide) z) (fun m698 w699 h700 T701 F702 W703 X704 => ?_)
                have F705 := F680.trans F702 (by decide)
                have B706 : sf_B 0 600 (m698 10) := by rw [W703 10 (by decide)]; exact B681
                have ek707 : (m698 10).toInt = ((m519 10)).toInt := by rw [W703 10 (by decide)]; exact ek682
                have B708 : sf_B 1 4 (m698 17) := by rw [W703 17 (by decide)]; exact B683
                have ek709 : (m698 17).toInt = ((m519 17)).toInt := by rw [W703 17 (by decide)]; exact ek684
                have B710 : sf_B 0 0 (m698 22) := by rw [W703 22 (by decide)]; exact B685
                have ek711 : (m698 22).toInt = ((m519 22)).toInt := by rw [W703 22 (by decide)]; exact ek686
                have B712 : sf_B 0 99 (m698 21) := by rw [W703 21 (by decide)]; exact B687
                have ek713 : (m698 21).toInt = ((m519 21)).toInt := by rw [W703 21 (by decide)]; exact ek688
                have W714 : rf_W [10, 12, 13, 14, 16, 17, 18, 21, 22] m m698 := W689.trans W703 (by decide)
                show pm_R _ 189 236 [.ref 41, .long a0, pm_no, .int a1, pm_no] [] _ _
                obtain ⟨f715, e716, ct717, bd718⟩ := X704
                refine pm_R_op pm_M189 (pc' := 237) (st' := [.int 1]) (pm_q189_2 (Nat.le_of_ble_eq_true rfl)) rfl rfl ?_
                exact pm_R_ret pm_M189 (r := some (.int 1)) (pm_q189_2 (Nat.le_of_ble_eq_true rfl)) rfl (K1 m698 w699 h700 T701 F705 W714 (⟨f715, e716, ct717, fun z => (sf_pos B708 (by decide) z)⟩) (sf_aux39 _ _ _ ek707 R668))
              · have B719 : sf_B 0 98 (m519 21) := sf_ltL (Int32.not_le.mp c674) B662 B670
                have B720 : sf_B 1 99 v669 := sf_ltR (Int32.not_le.mp c674) B662 B670
                refine pm_R_lo pm_M191 (pc' := 27) rfl rfl rfl ?_
                refine rf_R_get pm_M191 T522 (pc' := 30) (v := .ref 52) rfl rfl rfl rfl ?_
                refine pm_R_lo pm_M191 (pc' := 31) rfl rfl rfl ?_
                refine pm_R_iald pm_M191 (pc' := 32) (v := v669) rfl e671 (Nat.lt_of_lt_of_le (by decide) T522.1) rfl sf_upd_eq rfl ?_
                refine pm_R_br pm_M191 (pc' := 39) rfl rfl ?_
                refine rf_R_put pm_M191 T522 (pc' := 42) rfl rfl rfl (by decide) rfl rfl (sf_weak B720 (by decide) (by decide)) rfl rfl (fun h723 m726 em727 T724 F725 => ?_)
                have F728 := F661.trans F725 (by decide)
                have B729 : sf_B 0 600 (m726 10) := by rw [em727]; exact B665
                have ek730 : (m726 10).toInt = ((m519 10)).toInt := by rw [em727]; rfl
                have B731 : sf_B 1 4 (m726 17) := by rw [em727]; exact B528
                have ek732 : (m726 17).toInt = ((m519 17)).toInt := by rw [em727]; rfl
                have B733 : sf_B 0 0 (m726 22) := by rw [em727]; exact B529
                have ek734 : (m726 22).toInt = ((m519 22)).toInt := by rw [em727]; rfl
                have B735 : sf_B 1 99 (m726 21) := by rw [em727]; exact B720
                have ek736 : (m726 21).toInt = (v669).toInt := by rw [em727]; rfl
                have W737 : rf_W [10, 12, 13, 14, 16, 17, 18, 21, 22] m m726 := by rw [em727]; exact W664.put (by decide)
                refine pm_R_lo pm_M191 (pc' := 43) rfl rfl rfl ?_
                refine pm_R_ret pm_M191 (r := some (.int 1)) rfl rfl ?_
                show pm_R _ 189 202 [.ref 41, .long a0, pm_no, .int a1, pm_no] [.int 1] _ _
                refine pm_R_br pm_M189 (pc' := 205) (st' := []) (pm_q189_1 (Nat.le_of_ble_eq_true rfl)) rfl ?_
                refine pm_R_lo pm_M189 (pc' := 206) (pm_q189_1 (Nat.le_of_ble_eq_true rfl)) rfl rfl ?_
                refine pm_R_ldc2 pm_M189 (pc' := 209) (pm_q189_1 (Nat.le_of_ble_eq_true rfl)) rfl rfl ?_
                refine sf_R_lcmp pm_M189 (pc' := 210) (pm_q189_1 (Nat.le_of_ble_eq_true rfl)) rfl (fun z738 e739 => ?_)
                have B740 : sf_B (-2147483648) (-1) z738 := lf_cmpLt e739 B342 (⟨by decide, by decide⟩ : lf_B 1935767923 1935767923 1935767923) (by decide)
                refine pm_R_ifc pm_M189 (t := 226) (pc' := 213) (pm_q189_1 (Nat.le_of_ble_eq_true rfl)) rfl rfl (fun c741 => ?_) (fun c741 => absurd (Classical.not_not.mp c741) (sf_neq2 B740 sf_k0 (by decide)))
                have k742 := sf_lneC e739 c741
                refine pm_R_lo pm_M189 (pc' := 227) (pm_q189_2 (Nat.le_of_ble_eq_true rfl)) rfl rfl ?_
                refine pm_R_op pm_M189 (pc' := 228) (st' := [.int 1, .ref 41]) (pm_q189_2 (Nat.le_of_ble_eq_true rfl)) rfl rfl ?_
                refine pm_R_op pm_M189 (pc' := 229) (st' := [.int 2, .int 1, .ref 41]) (pm_q189_2 (Nat.le_of_ble_eq_true rfl)) rfl rfl ?_
                refine pm_R_op pm_M189 (pc' := 230) (st' := [.int 3, .int 2, .int 1, .ref 41]) (pm_q189_2 (Nat.le_of_ble_eq_true rfl)) rfl rfl ?_
                refine pm_R_op pm_M189 (pc' := 232) (st' := [.int 50, .int 3, .int 2, .int 1, .ref 41]) (pm_q189_2 (Nat.le_of_ble_eq_true rfl)) rfl rfl ?_
                refine pm_R_op pm_M189 (pc' := 233) (st' := [.int 0, .int 50, .int 3, .int 2, .int 1, .ref 41]) (pm_q189_2 (Nat.le_of_ble_eq_true rfl)) rfl rfl ?_
                refine pm_R_cv pm_M189 (pc' := 236) (a := 41) (ra := [.int 0, .int 50, .int 3, .int 2, .int 1]) (rest := []) (ls' := [.ref 41, .int 1, .int 2, .int 3, .int 50, .int 0, pm_no, pm_no]) (pm_q189_2 (Nat.le_of_ble_eq_true rfl)) rfl (Or.inl rfl) pm_M185 T724.2.1 rfl (by decide) (Nat.lt_of_lt_of_le (by decide) T724.1) rfl rfl (Nat.le_of_ble_eq_true rfl) rfl rfl ?_
                have e743 := (F725.cell (by decide) (F523.cell (by decide) (F476.cell (by decide) (F418.cell (by decide) (F400.cell (by decide) (F392.cell (by decide) (F387.cell (by decide) (F382.cell (by decide) (F377.cell (by decide) (F357.cell (by decide) e3))))))))))
                refine rf_c185_d (d := d + 3) T724 (⟨f2, e743, ct4, fun z => (sf_pos B731 (by decide) z)⟩) (fun z => sf_pos B731 (by decide) z) (fun m746 w747 h748 T749 F750 W751 X752 => ?_)
                have F753 := F728.trans F750 (by decide)
                have B754 : sf_B 0 600 (m746 10) := by rw [W751 10 (by decide)]; exact B729
                have ek755 : (m746 10).toInt = ((m519 10)).toInt := by rw [W751 10 (by decide)]; exact ek730
                have B756 : sf_B 1 4 (m746 17) := by rw [W751 17 (by decide)]; exact B731
                have ek757 : (m746 17).toInt = ((m519 17)).toInt := by rw [W751 17 (by decide)]; exact ek732
                have B758 : sf_B 0 0 (m746 22) := by rw [W751 22 (by decide)]; exact B733
                have ek759 : (m746 22).toInt = ((m519 22)).toInt := by rw [W751 22 (by decide)]; exact ek734
                have B760 : sf_B 1 99 (m746 21) := by rw [W751 21 (by decide)]; exact B735
                have ek761 : (m746 21).toInt = (v669).toInt := by rw [W751 21 (by decide)]; exact ek736
                have W762 : rf_W [10, 12, 13, 14, 16, 17, 18, 21, 22] m m746 := W737.trans W751 (by decide)
                show pm_R _ 189 236 [.ref 41, .long a0, pm_no, .int a1, pm_no] [] _ _
                obtain ⟨f763, e764, ct765, bd766⟩ := X752
                refine pm_R_op pm_M189 (pc' := 237) (st' := [.int 1]) (pm_q189_2 (Nat.le_of_ble_eq_true rfl)) rfl rfl ?_
                exact pm_R_ret pm_M189 (r := some (.int 1)) (pm_q189_2 (Nat.le_of_ble_eq_true rfl)) rfl (K1 m746 w747 h748 T749 F753 W762 (⟨f763, e764, ct765, fun z => (sf_pos B756 (by decide) z)⟩) (sf_aux39 _ _ _ ek755 R668))
          · have B767 : sf_B (-1) 4 (m414 21) := sf_ltL (Int32.not_le.mp c472) B471 B467
            refine pm_R_lo pm_M191 (pc' := 27) rfl rfl rfl ?_
            refine rf_R_get pm_M191 T417 (pc' := 30) (v := .ref 52) rfl rfl rfl rfl ?_
            refine pm_R_lo pm_M191 (pc' := 31) rfl rfl rfl ?_
            refine pm_R_iald pm_M191 (pc' := 32) (v := v466) rfl e468 (Nat.lt_of_lt_of_le (by decide) T417.1) rfl sf_upd_eq rfl ?_
            refine pm_R_br pm_M191 (pc' := 39) rfl rfl ?_
            refine rf_R_put pm_M191 T417 (pc' := 42) rfl rfl rfl (by decide) rfl rfl (sf_weak B467 (by decide) (by decide)) rfl rfl (fun h770 m773 em774 T771 F772 => ?_)
            have F775 := F460.trans F772 (by decide)
            have B776 : sf_B 0 600 (m773 10) := by rw [em774]; exact B462
            have ek777 : (m773 10).toInt = ((m414 10)).toInt := by rw [em774]; rfl
            have B778 : sf_B 0 4 (m773 17) := by rw [em774]; exact (sf_eqT X421 B362)
            have ek779 : (m773 17).toInt = ((m353 17)).toInt := by rw [em774]; exact X421
            have B780 : sf_B 0 1 (m773 22) := by rw [em774]; exact (sf_eqT X422 B366)
            have ek781 : (m773 22).toInt = ((m353 22)).toInt := by rw [em774]; exact X422
            have B782 : sf_B 0 5 (m773 21) := by rw [em774]; exact B467
            have ek783 : (m773 21).toInt = (v466).toInt := by rw [em774]; rfl
            have W784 : rf_W [10, 12, 13, 14, 16, 17, 18, 21, 22] m m773 := by rw [em774]; exact W461.put (by decide)
            refine pm_R_lo pm_M191 (pc' := 43) rfl rfl rfl ?_
            refine pm_R_ret pm_M191 (r := some (.int 1)) rfl rfl ?_
            show pm_R _ 189 178 [.ref 41, .long a0, pm_no, .int a1, pm_no] [.int 1] _ _
            refine pm_R_br pm_M189 (pc' := 183) (st' := []) (pm_q189_1 (Nat.le_of_ble_eq_true rfl)) rfl ?_
            refine pm_R_lo pm_M189 (pc' := 184) (pm_q189_1 (Nat.le_of_ble_eq_true rfl)) rfl rfl ?_
            refine pm_R_ldc2 pm_M189 (pc' := 187) (pm_q189_1 (Nat.le_of_ble_eq_true rfl)) rfl rfl ?_
            refine pm_R_op pm_M189 (pc' := 188) (st' := [.int z338]) (pm_q189_1 (Nat.le_of_ble_eq_true rfl)) (by show some (Value.int (lg_cmp a0 1819242347) :: _) = _; rw [← e339]) rfl ?_
            refine pm_R_ifc pm_M189 (t := 205) (pc' := 191) (pm_q189_1 (Nat.le_of_ble_eq_true rfl)) rfl rfl (fun c787 => absurd (sf_pt2 B341 sf_k0) c787) (fun c787 => ?_)
            refine pm_R_lo pm_M189 (pc' := 192) (pm_q189_1 (Nat.le_of_ble_eq_true rfl)) rfl rfl ?_
            refine pm_R_op pm_M189 (pc' := 193) (st' := [.int 2, .ref 41]) (pm_q189_1 (Nat.le_of_ble_eq_true rfl)) rfl rfl ?_
            refine pm_R_lo pm_M189 (pc' := 194) (pm_q189_1 (Nat.le_of_ble_eq_true rfl)) rfl rfl ?_
            refine rf_R_get pm_M189 T771 (pc' := 197) (v := .ref 52) (pm_q189_1 (Nat.le_of_ble_eq_true rfl)) rfl rfl rfl ?_
            refine pm_R_op pm_M189 (pc' := 198) (st' := [.int 1, .ref 52, .int 2, .ref 41]) (pm_q189_1 (Nat.le_of_ble_eq_true rfl)) rfl rfl ?_
            have e788 := (F772.cell (by decide) e468)
            refine pm_R_iald pm_M189 (pc' := 199) (v := v466) (pm_q189_1 (Nat.le_of_ble_eq_true rfl)) e788 (Nat.lt_of_lt_of_le (by decide) T771.1) rfl sf_upd_eq rfl ?_
            refine pm_R_cv pm_M189 (pc' := 202) (a := 41) (ra := [.int v466, .int 2]) (rest := []) (ls' := [.ref 41, .int 2, .int v466, pm_no]) (pm_q189_1 (Nat.le_of_ble_eq_true rfl)) rfl (Or.inl rfl) pm_M191 T771.2.1 rfl (by decide) (Nat.lt_of_lt_of_le (by decide) T771.1) rfl rfl (Nat.le_of_ble_eq_true rfl) rfl rfl ?_
            refine pm_R_lo pm_M191 (pc' := 1) rfl rfl rfl ?_
            refine pm_R_lo pm_M191 (pc' := 2) rfl rfl rfl ?_
            refine pm_R_op pm_M191 (pc' := 3) (st' := [.int 5, .int 2, .ref 41]) rfl rfl rfl ?_
            refine pm_R_lo pm_M191 (pc' := 4) rfl rfl rfl ?_
            refine pm_R_cv pm_M191 (pc' := 7) (a := 41) (ra := [.int v466, .int 5, .int 2]) (rest := []) (ls' := [.ref 41, .int 2, .int 5, .int v466]) rfl rfl (Or.inl rfl) pm_M183 T771.2.1 rfl (by decide) (Nat.lt_of_lt_of_le (by decide) T771.1) rfl rfl (Nat.le_of_ble_eq_true rfl) rfl rfl ?_
            refine rf_c183_2_5 (d := d + 0) T771  (fun m793 w794 h795 T796 F797 W798 X799 => ?_) (fun m802 w803 h804 T805 F806 W807 X808 X809 X810 X811 X812 => ?_) (fun m815 w816 h817 T818 F819 W820 X821 X822 X823 B824 B825 => ?_)
            · have F826 := F775.trans F797 (by decide)
              have B827 : sf_B 0 5 (m793 21) := by rw [W798 21 (by decide)]; exact B782
              have ek828 : (m793 21).toInt = (v466).toInt := by rw [W798 21 (by decide)]; exact ek783
              have W829 : rf_W [10, 12, 13, 14, 16, 17, 18, 21, 22] m m793 := W784.trans W798 (by decide)
              have B830 : sf_B 0 600 (m793 10) := T796.2.2.1 10
              have B831 : sf_B 0 4 (m793 17) := T796.2.2.1 17
              have B832 : sf_B 0 1 (m793 22) := T796.2.2.1 22
              show pm_R _ 191 7 [.ref 41, .int 2, .int v466, pm_no] [.int 0] _ _
              have R833 : (m 10).toInt ≤ (m793 10).toInt := (sf_aux77 _ _ _ _ ek777 R465 X799)
              refine pm_R_lo pm_M191 (pc' := 8) (ls' := [.ref 41, .int 2, .int v466, .int 0]) (st' := []) rfl rfl rfl ?_
              refine pm_R_lo pm_M191 (pc' := 9) rfl rfl rfl ?_
              refine pm_R_lo pm_M191 (pc' := 10) rfl rfl rfl ?_
              refine pm_R_br pm_M191 (pc' := 35) (st' := [.ref 41]) rfl rfl ?_
              refine pm_R_lo pm_M191 (pc' := 36) rfl rfl rfl ?_
              refine rf_R_get pm_M191 T796 (pc' := 39) (v := .int (m793 21)) rfl rfl rfl rfl ?_
              refine rf_R_put pm_M191 T796 (pc' := 42) rfl rfl rfl (by decide) rfl rfl (sf_weak B827 (by decide) (by decide)) rfl rfl (fun h834 m837 em838 T835 F836 => ?_)
              have F839 := F826.trans F836 (by decide)
              have B840 : sf_B 0 600 (m837 10) := by rw [em838]; exact B830
              have ek841 : (m837 10).toInt = ((m793 10)).toInt := by rw [em838]; rfl
              have B842 : sf_B 0 4 (m837 17) := by rw [em838]; exact B831
              have ek843 : (m837 17).toInt = ((m793 17)).toInt := by rw [em838]; rfl
              have B844 : sf_B 0 1 (m837 22) := by rw [em838]; exact B832
              have ek845 : (m837 22).toInt = ((m793 22)).toInt := by rw [em838]; rfl
              have B846 : sf_B 0 5 (m837 21) := by rw [em838]; exact B827
              have ek847 : (m837 21).toInt = ((m793 21)).toInt := by rw [em838]; rfl
              have W848 : rf_W [10, 12, 13, 14, 16, 17, 18, 21, 22] m m837 := by rw [em838]; exact W829.put (by decide)
              refine pm_R_lo pm_M191 (pc' := 43) rfl rfl rfl ?_
              refine pm_R_ret pm_M191 (r := some (.int 0)) rfl rfl ?_
              show pm_R _ 189 202 [.ref 41, .long a0, pm_no, .int a1, pm_no] [.int 0] _ _
              refine pm_R_br pm_M189 (pc' := 224) (st' := []) (pm_q189_1 (Nat.le_of_ble_eq_true rfl)) rfl ?_
              refine pm_R_op pm_M189 (pc' := 225) (st' := [.int 0]) (pm_q189_2 (Nat.le_of_ble_eq_true rfl)) rfl rfl ?_
              exact pm_R_ret pm_M189 (r := some (.int 0)) (pm_q189_2 (Nat.le_of_ble_eq_true rfl)) rfl (K0 m837 w794 h834 T835 F839 W848 (sf_aux39 _ _ _ ek841 R833))
            · have F849 := F775.trans F806 (by decide)
              have B850 : sf_B 0 5 (m802 21) := by rw [W807 21 (by decide)]; exact B782
              have ek851 : (m802 21).toInt = (v466).toInt := by rw [W807 21 (by decide)]; exact ek783
              have W852 : rf_W [10, 12, 13, 14, 16, 17, 18, 21, 22] m m802 := W784.trans W807 (by decide)
              have B853 : sf_B 0 600 (m802 10) := T805.2.2.1 10
              have B854 : sf_B 0 4 (m802 17) := T805.2.2.1 17
              have B855 : sf_B 0 1 (m802 22) := T805.2.2.1 22
              show pm_R _ 191 7 [.ref 41, .int 2, .int v466, pm_no] [.int 1] _ _
              have R856 : (m 10).toInt ≤ (m802 10).toInt := (sf_aux77 _ _ _ _ ek777 R465 X812)
              obtain ⟨v857, B858, e859⟩ := X808 _ e788
              refine pm_R_lo pm_M191 (pc' := 8) (ls' := [.ref 41, .int 2, .int v466, .int 1]) (st' := []) rfl rfl rfl ?_
              refine pm_R_lo pm_M191 (pc' := 9) rfl rfl rfl ?_
              refine pm_R_lo pm_M191 (pc' := 10) rfl rfl rfl ?_
              refine pm_R_br pm_M191 (pc' := 13) (st' := [.ref 41]) rfl rfl ?_
              refine pm_R_lo pm_M191 (pc' := 14) rfl rfl rfl ?_
              refine rf_R_get pm_M191 T805 (pc' := 17) (v := .ref 52) rfl rfl rfl rfl ?_
              refine pm_R_lo pm_M191 (pc' := 18) rfl rfl rfl ?_
              refine pm_R_iald pm_M191 (pc' := 19) (v := v857) rfl e859 (Nat.lt_of_lt_of_le (by decide) T805.1) rfl sf_upd_eq rfl ?_
              refine pm_R_lo pm_M191 (pc' := 20) rfl rfl rfl ?_
              refine rf_R_get pm_M191 T805 (pc' := 23) (v := .int (m802 21)) rfl rfl rfl rfl ?_
              refine pm_R_icmp pm_M191 (t := 35) (pc' := 26) rfl rfl rfl (fun c862 => ?_) (fun c862 => ?_)
              · skip
                refine pm_R_lo pm_M191 (pc' := 36) rfl rfl rfl ?_
                refine rf_R_get pm_M191 T805 (pc' := 39) (v := .int (m802 21)) rfl rfl rfl rfl ?_
                refine rf_R_put pm_M191 T805 (pc' := 42) rfl rfl rfl (by decide) rfl rfl (sf_weak B850 (by decide) (by decide)) rfl rfl (fun h863 m866 em867 T864 F865 => ?_)
                have F868 := F849.trans F865 (by decide)
                have B869 : sf_B 0 600 (m866 10) := by rw [em867]; exact B853
                have ek870 : (m866 10).toInt = ((m802 10)).toInt := by rw [em867]; rfl
                have B871 : sf_B 0 4 (m866 17) := by rw [em867]; exact (sf_eqT X809 B778)
                have ek872 : (m866 17).toInt = ((m773 17)).toInt := by rw [em867]; exact X809
                have B873 : sf_B 0 1 (m866 22) := by rw [em867]; exact (sf_eqT X810 B780)
                have ek874 : (m866 22).toInt = ((m773 22)).toInt := by rw [em867]; exact X810
                have B875 : sf_B 0 5 (m866 21) := by rw [em867]; exact B850
                have ek876 : (m866 21).toInt = ((m802 21)).toInt := by rw [em867]; rfl
                have W877 : rf_W [10, 12, 13, 14, 16, 17, 18, 21, 22] m m866 := by rw [em867]; exact W852.put (by decide)
                refine pm_R_lo pm_M191 (pc' := 43) rfl rfl rfl ?_
                refine pm_R_ret pm_M191 (r := some (.int 1)) rfl rfl ?_
                show pm_R _ 189 202 [.ref 41, .long a0, pm_no, .int a1, pm_no] [.int 1] _ _
                refine pm_R_br pm_M189 (pc' := 205) (st' := []) (pm_q189_1 (Nat.le_of_ble_eq_true rfl)) rfl ?_
                refine pm_R_lo pm_M189 (pc' := 206) (pm_q189_1 (Nat.le_of_ble_eq_true rfl)) rfl rfl ?_
                refine pm_R_ldc2 pm_M189 (pc' := 209) (pm_q189_1 (Nat.le_of_ble_eq_true rfl)) rfl rfl ?_
                refine sf_R_lcmp pm_M189 (pc' := 210) (pm_q189_1 (Nat.le_of_ble_eq_true rfl)) rfl (fun z878 e879 => ?_)
                have B880 : sf_B (-2147483648) (-1) z878 := lf_cmpLt e879 B342 (⟨by decide, by decide⟩ : lf_B 1935767923 1935767923 1935767923) (by decide)
                refine pm_R_ifc pm_M189 (t := 226) (pc' := 213) (pm_q189_1 (Nat.le_of_ble_eq_true rfl)) rfl rfl (fun c881 => ?_) (fun c881 => absurd (Classical.not_not.mp c881) (sf_neq2 B880 sf_k0 (by decide)))
                have k882 := sf_lneC e879 c881
                refine pm_R_lo pm_M189 (pc' := 227) (pm_q189_2 (Nat.le_of_ble_eq_true rfl)) rfl rfl ?_
                refine pm_R_op pm_M189 (pc' := 228) (st' := [.int 1, .ref 41]) (pm_q189_2 (Nat.le_of_ble_eq_true rfl)) rfl rfl ?_
                refine pm_R_op pm_M189 (pc' := 229) (st' := [.int 2, .int 1, .ref 41]) (pm_q189_2 (Nat.le_of_ble_eq_true rfl)) rfl rfl ?_
                refine pm_R_op pm_M189 (pc' := 230) (st' := [.int 3, .int 2, .int 1, .ref 41]) (pm_q189_2 (Nat.le_of_ble_eq_true rfl)) rfl rfl ?_
                refine pm_R_op pm_M189 (pc' := 232) (st' := [.int 50, .int 3, .int 2, .int 1, .ref 41]) (pm_q189_2 (Nat.le_of_ble_eq_true rfl)) rfl rfl ?_
                refine pm_R_op pm_M189 (pc' := 233) (st' := [.int 0, .int 50, .int 3, .int 2, .int 1, .ref 41]) (pm_q189_2 (Nat.le_of_ble_eq_true rfl)) rfl rfl ?_
                refine pm_R_cv pm_M189 (pc' := 236) (a := 41) (ra := [.int 0, .int 50, .int 3, .int 2, .int 1]) (rest := []) (ls' := [.ref 41, .int 1, .int 2, .int 3, .int 50, .int 0, pm_no, pm_no]) (pm_q189_2 (Nat.le_of_ble_eq_true rfl)) rfl (Or.inl rfl) pm_M185 T864.2.1 rfl (by decide) (Nat.lt_of_lt_of_le (by decide) T864.1) rfl rfl (Nat.le_of_ble_eq_true rfl) rfl rfl ?_
                have e883 := (F865.cell (by decide) (F806.cell (by decide) (F772.cell (by decide) (F418.cell (by decide) (F400.cell (by decide) (F392.cell (by decide) (F387.cell (by decide) (F382.cell (by decide) (F377.cell (by decide) (F357.cell (by decide) e3))))))))))
                have e884 := (F865.cell (by decide) e859)
                refine rf_c185_d (d := d + 3) T864 (⟨f2, e883, ct4, fun z => (bd5 (sf_aux73 _ _ _ _ ek363 ek779 ek872 z))⟩) (fun _ g eg => by rw [e884] at eg; cases eg; exact ⟨sf_eqL (Eq.trans (sf_upd_nec (k := Int32.toNatClampNeg 2) (j := Int32.toNatClampNeg 0) (by decide)) (Eq.trans (sf_upd_nec (k := Int32.toNatClampNeg 1) (j := Int32.toNatClampNeg 0) (by decide)) sf_upd_eq)) (sf_weak sf_k0 (by decide) (by decide)), sf_eqL (Eq.trans (sf_upd_nec (k := Int32.toNatClampNeg 2) (j := Int32.toNatClampNeg 1) (by decide)) sf_upd_eq) B467, sf_eqL sf_upd_eq (sf_weak B858 (by decide) (by decide))⟩) (fun m887 w888 h889 T890 F891 W892 X893 => ?_)
                have F894 := F868.trans F891 (by decide)
                have B895 : sf_B 0 600 (m887 10) := by rw [W892 10 (by decide)]; exact B869
                have ek896 : (m887 10).toInt = ((m802 10)).toInt := by rw [W892 10 (by decide)]; exact ek870
                have B897 : sf_B 0 4 (m887 17) := by rw [W892 17 (by decide)]; exact B871
                have ek898 : (m887 17).toInt = ((m773 17)).toInt := by rw [W892 17 (by decide)]; exact ek872
                have B899 : sf_B 0 1 (m887 22) := by rw [W892 22 (by decide)]; exact B873
                have ek900 : (m887 22).toInt = ((m773 22)).toInt := by rw [W892 22 (by decide)]; exact ek874
                have B901 : sf_B 0 5 (m887 21) := by rw [W892 21 (by decide)]; exact B875
                have ek902 : (m887 21).toInt = ((m802 21)).toInt := by rw [W892 21 (by decide)]; exact ek876
                have W903 : rf_W [10, 12, 13, 14, 16, 17, 18, 21, 22] m m887 := W877.trans W892 (by decide)
                show pm_R _ 189 236 [.ref 41, .long a0, pm_no, .int a1, pm_no] [] _ _
                obtain ⟨f904, e905, ct906, bd907⟩ := X893
                refine pm_R_op pm_M189 (pc' := 237) (st' := [.int 1]) (pm_q189_2 (Nat.le_of_ble_eq_true rfl)) rfl rfl ?_
                exact pm_R_ret pm_M189 (r := some (.int 1)) (pm_q189_2 (Nat.le_of_ble_eq_true rfl)) rfl (K1 m887 w888 h889 T890 F894 W903 (⟨f904, e905, ct906, fun z => (bd907 z)⟩) (sf_aux39 _ _ _ ek896 R856))
              · have B908 : sf_B 0 4 (m802 21) := sf_ltL (Int32.not_le.mp c862) B850 B858
                have B909 : sf_B 1 5 v857 := sf_ltR (Int32.not_le.mp c862) B850 B858
                refine pm_R_lo pm_M191 (pc' := 27) rfl rfl rfl ?_
                refine rf_R_get pm_M191 T805 (pc' := 30) (v := .ref 52) rfl rfl rfl rfl ?_
                refine pm_R_lo pm_M191 (pc' := 31) rfl rfl rfl ?_
                refine pm_R_iald pm_M191 (pc' := 32) (v := v857) rfl e859 (Nat.lt_of_lt_of_le (by decide) T805.1) rfl sf_upd_eq rfl ?_
                refine pm_R_br pm_M191 (pc' := 39) rfl rfl ?_
                refine rf_R_put pm_M191 T805 (pc' := 42) rfl rfl rfl (by decide) rfl rfl (sf_weak B909 (by decide) (by decide)) rfl rfl (fun h912 m915 em916 T913 F914 => ?_)
                have F917 := F849.trans F914 (by decide)
                have B918 : sf_B 0 600 (m915 10) := by rw [em916]; exact B853
                have ek919 : (m915 10).toInt = ((m802 10)).toInt := by rw [em916]; rfl
                have B920 : sf_B 0 4 (m915 17) := by rw [em916]; exact (sf_eqT X809 B778)
                have ek921 : (m915 17).toInt = ((m773 17)).toInt := by rw [em916]; exact X809
                have B922 : sf_B 0 1 (m915 22) := by rw [em916]; exact (sf_eqT X810 B780)
                have ek923 : (m915 22).toInt = ((m773 22)).toInt := by rw [em916]; exact X810
                have B924 : sf_B 1 5 (m915 21) := by rw [em916]; exact B909
                have ek925 : (m915 21).toInt = (v857).toInt := by rw [em916]; rfl
                have W926 : rf_W [10, 12, 13, 14, 16, 17, 18, 21, 22] m m915 := by rw [em916]; exact W852.put (by decide)
                refine pm_R_lo pm_M191 (pc' := 43) rfl rfl rfl ?_
                refine pm_R_ret pm_M191 (r := some (.int 1)) rfl rfl ?_
                show pm_R _ 189 202 [.ref 41, .long a0, pm_no, .int a1, pm_no] [.int 1] _ _
                refine pm_R_br pm_M189 (pc' := 205) (st' := []) (pm_q189_1 (Nat.le_of_ble_eq_true rfl)) rfl ?_
                refine pm_R_lo pm_M189 (pc' := 206) (pm_q189_1 (Nat.le_of_ble_eq_true rfl)) rfl rfl ?_
                refine pm_R_ldc2 pm_M189 (pc' := 209) (pm_q189_1 (Nat.le_of_ble_eq_true rfl)) rfl rfl ?_
                refine sf_R_lcmp pm_M189 (pc' := 210) (pm_q189_1 (Nat.le_of_ble_eq_true rfl)) rfl (fun z927 e928 => ?_)
                have B929 : sf_B (-2147483648) (-1) z927 := lf_cmpLt e928 B342 (⟨by decide, by decide⟩ : lf_B 1935767923 1935767923 1935767923) (by decide)
                refine pm_R_ifc pm_M189 (t := 226) (pc' := 213) (pm_q189_1 (Nat.le_of_ble_eq_true rfl)) rfl rfl (fun c930 => ?_) (fun c930 => absurd (Classical.not_not.mp c930) (sf_neq2 B929 sf_k0 (by decide)))
                have k931 := sf_lneC e928 c930
                refine pm_R_lo pm_M189 (pc' := 227) (pm_q189_2 (Nat.le_of_ble_eq_true rfl)) rfl rfl ?_
                refine pm_R_op pm_M189 (pc' := 228) (st' := [.int 1, .ref 41]) (pm_q189_2 (Nat.le_of_ble_eq_true rfl)) rfl rfl ?_
                refine pm_R_op pm_M189 (pc' := 229) (st' := [.int 2, .int 1, .ref 41]) (pm_q189_2 (Nat.le_of_ble_eq_true rfl)) rfl rfl ?_
                refine pm_R_op pm_M189 (pc' := 230) (st' := [.int 3, .int 2, .int 1, .ref 41]) (pm_q189_2 (Nat.le_of_ble_eq_true rfl)) rfl rfl ?_
                refine pm_R_op pm_M189 (pc' := 232) (st' := [.int 50, .int 3, .int 2, .int 1, .ref 41]) (pm_q189_2 (Nat.le_of_ble_eq_true rfl)) rfl rfl ?_
                refine pm_R_op pm_M189 (pc' := 233) (st' := [.int 0, .int 50, .int 3, .int 2, .int 1, .ref 41]) (pm_q189_2 (Nat.le_of_ble_eq_true rfl)) rfl rfl ?_
                refine pm_R_cv pm_M189 (pc' := 236) (a := 41) (ra := [.int 0, .int 50, .int 3, .int 2, .int 1]) (rest := []) (ls' := [.ref 41, .int 1, .int 2, .int 3, .int 50, .int 0, pm_no, pm_no]) (pm_q189_2 (Nat.le_of_ble_eq_true rfl)) rfl (Or.inl rfl) pm_M185 T913.2.1 rfl (by decide) (Nat.lt_of_lt_of_le (by decide) T913.1) rfl rfl (Nat.le_of_ble_eq_true rfl) rfl rfl ?_
                have e932 := (F914.cell (by decide) (F806.cell (by decide) (F772.cell (by decide) (F418.cell (by decide) (F400.cell (by decide) (F392.cell (by decide) (F387.cell (by decide) (F382.cell (by decide) (F377.cell (by decide) (F357.cell (by decide) e3))))))))))
                have e933 := (F914.cell (by decide) e859)
                refine rf_c185_d (d := d + 3) T913 (⟨f2, e932, ct4, fun z => (bd5 (sf_aux73 _ _ _ _ ek363 ek779 ek921 z))⟩) (fun _ g eg => by rw [e933] at eg; cases eg; exact ⟨sf_eqL (Eq.trans (sf_upd_nec (k := Int32.toNatClampNeg 2) (j := Int32.toNatClampNeg 0) (by decide)) (Eq.trans (sf_upd_nec (k := Int32.toNatClampNeg 1) (j := Int32.toNatClampNeg 0) (by decide)) sf_upd_eq)) (sf_weak sf_k0 (by decide) (by decide)), sf_eqL (Eq.trans (sf_upd_nec (k := Int32.toNatClampNeg 2) (j := Int32.toNatClampNeg 1) (by decide)) sf_upd_eq) B467, sf_eqL sf_upd_eq (sf_weak B909 (by decide) (by decide))⟩) (fun m936 w937 h938 T939 F940 W941 X942 => ?_)
                have F943 := F917.trans F940 (by decide)
                have B944 : sf_B 0 600 (m936 10) := by rw [W941 10 (by decide)]; exact B918
                have ek945 : (m936 10).toInt = ((m802 10)).toInt := by rw [W941 10 (by decide)]; exact ek919
                have B946 : sf_B 0 4 (m936 17) := by rw [W941 17 (by decide)]; exact B920
                have ek947 : (m936 17).toInt = ((m773 17)).toInt := by rw [W941 17 (by decide)]; exact ek921
                have B948 : sf_B 0 1 (m936 22) := by rw [W941 22 (by decide)]; exact B922
                have ek949 : (m936 22).toInt = ((m773 22)).toInt := by rw [W941 22 (by decide)]; exact ek923
                have B950 : sf_B 1 5 (m936 21) := by rw [W941 21 (by decide)]; exact B924
                have ek951 : (m936 21).toInt = (v857).toInt := by rw [W941 21 (by decide)]; exact ek925
                have W952 : rf_W [10, 12, 13, 14, 16, 17, 18, 21, 22] m m936 := W926.trans W941 (by decide)
                show pm_R _ 189 236 [.ref 41, .long a0, pm_no, .int a1, pm_no] [] _ _
                obtain ⟨f953, e954, ct955, bd956⟩ := X942
                refine pm_R_op pm_M189 (pc' := 237) (st' := [.int 1]) (pm_q189_2 (Nat.le_of_ble_eq_true rfl)) rfl rfl ?_
                exact pm_R_ret pm_M189 (r := some (.int 1)) (pm_q189_2 (Nat.le_of_ble_eq_true rfl)) rfl (K1 m936 w937 h938 T939 F943 W952 (⟨f953, e954, ct955, fun z => (bd956 z)⟩) (sf_aux39 _ _ _ ek945 R856))
            · have F957 := F775.trans F819 (by decide)
              have B958 : sf_B 0 5 (m815 21) := by rw [W820 21 (by decide)]; exact B782
              have ek959 : (m815 21).toInt = (v466).toInt := by rw [W820 21 (by decide)]; exact ek783
              have W960 : rf_W [10, 12, 13, 14, 16, 17, 18, 21, 22] m m815 := W784.trans W820 (by decide)
              have B961 : sf_B 0 600 (m815 10) := T818.2.2.1 10
              have B962 : sf_B 0 4 (m815 17) := T818.2.2.1 17
              have B963 : sf_B 0 1 (m815 22) := T818.2.2.1 22
              show pm_R _ 191 7 [.ref 41, .int 2, .int v466, pm_no] [.int 1] _ _
              have R964 : (m 10).toInt ≤ (m815 10).toInt := (sf_aux77 _ _ _ _ ek777 R465 X823)
              obtain ⟨v965, B966, e967⟩ := X821 _ e788
              refine pm_R_lo pm_M191 (pc' := 8) (ls' := [.ref 41, .int 2, .int v466, .int 1]) (st' := []) rfl rfl rfl ?_
              refine pm_R_lo pm_M191 (pc' := 9) rfl rfl rfl ?_
              refine pm_R_lo pm_M191 (pc' := 10) rfl rfl rfl ?_
              refine pm_R_br pm_M191 (pc' := 13) (st' := [.ref 41]) rfl rfl ?_
              refine pm_R_lo pm_M191 (pc' := 14) rfl rfl rfl ?_
              refine rf_R_get pm_M191 T818 (pc' := 17) (v := .ref 52) rfl rfl rfl rfl ?_
              refine pm_R_lo pm_M191 (pc' := 18) rfl rfl rfl ?_
              refine pm_R_iald pm_M191 (pc' := 19) (v := v965) rfl e967 (Nat.lt_of_lt_of_le (by decide) T818.1) rfl sf_upd_eq rfl ?_
              refine pm_R_lo pm_M191 (pc' := 20) rfl rfl rfl ?_
              refine rf_R_get pm_M191 T818 (pc' := 23) (v := .int (m815 21)) rfl rfl rfl rfl ?_
              refine pm_R_icmp pm_M191 (t := 35) (pc' := 26) rfl rfl rfl (fun c970 => ?_) (fun c970 => ?_)
              · have B971 : sf_B 0 5 v965 := sf_leL c970 B966 B958
                refine pm_R_lo pm_M191 (pc' := 36) rfl rfl rfl ?_
                refine rf_R_get pm_M191 T818 (pc' := 39) (v := .int (m815 21)) rfl rfl rfl rfl ?_
                refine rf_R_put pm_M191 T818 (pc' := 42) rfl rfl rfl (by decide) rfl rfl (sf_weak B958 (by decide) (by decide)) rfl rfl (fun h972 m975 em976 T973 F974 => ?_)
                have F977 := F957.trans F974 (by decide)
                have B978 : sf_B 0 600 (m975 10) := by rw [em976]; exact B961
                have ek979 : (m975 10).toInt = ((m815 10)).toInt := by rw [em976]; rfl
                have B980 : sf_B 1 4 (m975 17) := by rw [em976]; exact B824
                have ek981 : (m975 17).toInt = ((m815 17)).toInt := by rw [em976]; rfl
                have B982 : sf_B 0 0 (m975 22) := by rw [em976]; exact B825
                have ek983 : (m975 22).toInt = ((m815 22)).toInt := by rw [em976]; rfl
                have B984 : sf_B 0 5 (m975 21) := by rw [em976]; exact B958
                have ek985 : (m975 21).toInt = ((m815 21)).toInt := by rw [em976]; rfl
                have W986 : rf_W [10, 12, 13, 14, 16, 17, 18, 21, 22] m m975 := by rw [em976]; exact W960.put (by decide)
                refine pm_R_lo pm_M191 (pc' := 43) rfl rfl rfl ?_
                refine pm_R_ret pm_M191 (r := some (.int 1)) rfl rfl ?_
                show pm_R _ 189 202 [.ref 41, .long a0, pm_no, .int a1, pm_no] [.int 1] _ _
                refine pm_R_br pm_M189 (pc' := 205) (st' := []) (pm_q189_1 (Nat.le_of_ble_eq_true rfl)) rfl ?_
                refine pm_R_lo pm_M189 (pc' := 206) (pm_q189_1 (Nat.le_of_ble_eq_true rfl)) rfl rfl ?_
                refine pm_R_ldc2 pm_M189 (pc' := 209) (pm_q189_1 (Nat.le_of_ble_eq_true rfl)) rfl rfl ?_
                refine sf_R_lcmp pm_M189 (pc' := 210) (pm_q189_1 (Nat.le_of_ble_eq_true rfl)) rfl (fun z987 e988 => ?_)
                have B989 : sf_B (-2147483648) (-1) z987 := lf_cmpLt e988 B342 (⟨by decide, by decide⟩ : lf_B 1935767923 1935767923 1935767923) (by decide)
                refine pm_R_ifc pm_M189 (t := 226) (pc' := 213) (pm_q189_1 (Nat.le_of_ble_eq_true rfl)) rfl rfl (fun c990 => ?_) (fun c990 => absurd (Classical.not_not.mp c990) (sf_neq2 B989 sf_k0 (by decide)))
                have k991 := sf_lneC e988 c990
                refine pm_R_lo pm_M189 (pc' := 227) (pm_q189_2 (Nat.le_of_ble_eq_true rfl)) rfl rfl ?_
                refine pm_R_op pm_M189 (pc' := 228) (st' := [.int 1, .ref 41]) (pm_q189_2 (Nat.le_of_ble_eq_true rfl)) rfl rfl ?_
                refine pm_R_op pm_M189 (pc' := 229) (st' := [.int 2, .int 1, .ref 41]) (pm_q189_2 (Nat.le_of_ble_eq_true rfl)) rfl rfl ?_
                refine pm_R_op pm_M189 (pc' := 230) (st' := [.int 3, .int 2, .int 1, .ref 41]) (pm_q189_2 (Nat.le_of_ble_eq_true rfl)) rfl rfl ?_
                refine pm_R_op pm_M189 (pc' := 232) (st' := [.int 50, .int 3, .int 2, .int 1, .ref 41]) (pm_q189_2 (Nat.le_of_ble_eq_true rfl)) rfl rfl ?_
                refine pm_R_op pm_M189 (pc' := 233) (st' := [.int 0, .int 50, .int 3, .int 2, .int 1, .ref 41]) (pm_q189_2 (Nat.le_of_ble_eq_true rfl)) rfl rfl ?_
                refine pm_R_cv pm_M189 (pc' := 236) (a := 41) (ra := [.int 0, .int 50, .int 3, .int 2, .int 1]) (rest := []) (ls' := [.ref 41, .int 1, .int 2, .int 3, .int 50, .int 0, pm_no, pm_no]) (pm_q189_2 (Nat.le_of_ble_eq_true rfl)) rfl (Or.inl rfl) pm_M185 T973.2.1 rfl (by decide) (Nat.lt_of_lt_of_le (by decide) T973.1) rfl rfl (Nat.le_of_ble_eq_true rfl) rfl rfl ?_
                have e992 := (F974.cell (by decide) (F819.cell (by decide) (F772.cell (by decide) (F418.cell (by decide) (F400.cell (by decide) (F392.cell (by decide) (F387.cell (by decide) (F382.cell (by decide) (F377.cell (by decide) (F357.cell (by decide) e3))))))))))
                refine rf_c185_d (d := d + 3) T973 (⟨f2, e992, ct4, fun z => (sf_pos B980 (by decide) z)⟩) (fun z => sf_pos B980 (by decide) z) (fun m995 w996 h997 T998 F999 W1000 X1001 => ?_)
                have F1002 := F977.trans F999 (by decide)
                have B1003 : sf_B 0 600 (m995 10) := by rw [W1000 10 (by decide)]; exact B978
                have ek1004 : (m995 10).toInt = ((m815 10)).toInt := by rw [W1000 10 (by decide)]; exact ek979
                have B1005 : sf_B 1 4 (m995 17) := by rw [W1000 17 (by decide)]; exact B980
                have ek1006 : (m995 17).toInt = ((m815 17)).toInt := by rw [W1000 17 (by decide)]; exact ek981
                have B1007 : sf_B 0 0 (m995 22) := by rw [W1000 22 (by decide)]; exact B982
                have ek1008 : (m995 22).toInt = ((m815 22)).toInt := by rw [W1000 22 (by decide)]; exact ek983
                have B1009 : sf_B 0 5 (m995 21) := by rw [W1000 21 (by decide)]; exact B984
                have ek1010 : (m995 21).toInt = ((m815 21)).toInt := by rw [W1000 21 (by decide)]; exact ek985
                have W1011 : rf_W [10, 12, 13, 14, 16, 17, 18, 21, 22] m m995 := W986.trans W1000 (by decide)
                show pm_R _ 189 236 [.ref 41, .long a0, pm_no, .int a1, pm_no] [] _ _
                obtain ⟨f1012, e1013, ct1014, bd1015⟩ := X1001
                refine pm_R_op pm_M189 (pc' := 237) (st' := [.int 1]) (pm_q189_2 (Nat.le_of_ble_eq_true rfl)) rfl rfl ?_
                exact pm_R_ret pm_M189 (r := some (.int 1)) (pm_q189_2 (Nat.le_of_ble_eq_true rfl)) rfl (K1 m995 w996 h997 T998 F1002 W1011 (⟨f1012, e1013, ct1014, fun z => (sf_pos B1005 (by decide) z)⟩) (sf_aux39 _ _ _ ek1004 R964))
              · have B1016 : sf_B 1 99 v965 := sf_ltR (Int32.not_le.mp c970) B958 B966
                refine pm_R_lo pm_M191 (pc' := 27) rfl rfl rfl ?_
                refine rf_R_get pm_M191 T818 (pc' := 30) (v := .ref 52) rfl rfl rfl rfl ?_
                refine pm_R_lo pm_M191 (pc' := 31) rfl rfl rfl ?_
                refine pm_R_iald pm_M191 (pc' := 32) (v := v965) rfl e967 (Nat.lt_of_lt_of_le (by decide) T818.1) rfl sf_upd_eq rfl ?_
                refine pm_R_br pm_M191 (pc' := 39) rfl rfl ?_
                refine rf_R_put pm_M191 T818 (pc' := 42) rfl rfl rfl (by decide) rfl rfl (sf_weak B1016 (by decide) (by decide)) rfl rfl (fun h1019 m1022 em1023 T1020 F1021 => ?_)
                have F1024 := F957.trans F1021 (by decide)
                have B1025 : sf_B 0 600 (m1022 10) := by rw [em1023]; exact B961
                have ek1026 : (m1022 10).toInt = ((m815 10)).toInt := by rw [em1023]; rfl
                have B1027 : sf_B 1 4 (m1022 17) := by rw [em1023]; exact B824
                have ek1028 : (m1022 17).toInt = ((m815 17)).toInt := by rw [em1023]; rfl
                have B1029 : sf_B 0 0 (m1022 22) := by rw [em1023]; exact B825
                have ek1030 : (m1022 22).toInt = ((m815 22)).toInt := by rw [em1023]; rfl
                have B1031 : sf_B 1 99 (m1022 21) := by rw [em1023]; exact B1016
                have ek1032 : (m1022 21).toInt = (v965).toInt := by rw [em1023]; rfl
                have W1033 : rf_W [10, 12, 13, 14, 16, 17, 18, 21, 22] m m1022 := by rw [em1023]; exact W960.put (by decide)
                refine pm_R_lo pm_M191 (pc' := 43) rfl rfl rfl ?_
                refine pm_R_ret pm_M191 (r := some (.int 1)) rfl rfl ?_
                show pm_R _ 189 202 [.ref 41, .long a0, pm_no, .int a1, pm_no] [.int 1] _ _
                refine pm_R_br pm_M189 (pc' := 205) (st' := []) (pm_q189_1 (Nat.le_of_ble_eq_true rfl)) rfl ?_
                refine pm_R_lo pm_M189 (pc' := 206) (pm_q189_1 (Nat.le_of_ble_eq_true rfl)) rfl rfl ?_
                refine pm_R_ldc2 pm_M189 (pc' := 209) (pm_q189_1 (Nat.le_of_ble_eq_true rfl)) rfl rfl ?_
                refine sf_R_lcmp pm_M189 (pc' := 210) (pm_q189_1 (Nat.le_of_ble_eq_true rfl)) rfl (fun z1034 e1035 => ?_)
                have B1036 : sf_B (-2147483648) (-1) z1034 := lf_cmpLt e1035 B342 (⟨by decide, by decide⟩ : lf_B 1935767923 1935767923 1935767923) (by decide)
                refine pm_R_ifc pm_M189 (t := 226) (pc' := 213) (pm_q189_1 (Nat.le_of_ble_eq_true rfl)) rfl rfl (fun c1037 => ?_) (fun c1037 => absurd (Classical.not_not.mp c1037) (sf_neq2 B1036 sf_k0 (by decide)))
                have k1038 := sf_lneC e1035 c1037
                refine pm_R_lo pm_M189 (pc' := 227) (pm_q189_2 (Nat.le_of_ble_eq_true rfl)) rfl rfl ?_
                refine pm_R_op pm_M189 (pc' := 228) (st' := [.int 1, .ref 41]) (pm_q189_2 (Nat.le_of_ble_eq_true rfl)) rfl rfl ?_
                refine pm_R_op pm_M189 (pc' := 229) (st' := [.int 2, .int 1, .ref 41]) (pm_q189_2 (Nat.le_of_ble_eq_true rfl)) rfl rfl ?_
                refine pm_R_op pm_M189 (pc' := 230) (st' := [.int 3, .int 2, .int 1, .ref 41]) (pm_q189_2 (Nat.le_of_ble_eq_true rfl)) rfl rfl ?_
                refine pm_R_op pm_M189 (pc' := 232) (st' := [.int 50, .int 3, .int 2, .int 1, .ref 41]) (pm_q189_2 (Nat.le_of_ble_eq_true rfl)) rfl rfl ?_
                refine pm_R_op pm_M189 (pc' := 233) (st' := [.int 0, .int 50, .int 3, .int 2, .int 1, .ref 41]) (pm_q189_2 (Nat.le_of_ble_eq_true rfl)) rfl rfl ?_
                refine pm_R_cv pm_M189 (pc' := 236) (a := 41) (ra := [.int 0, .int 50, .int 3, .int 2, .int 1]) (rest := []) (ls' := [.ref 41, .int 1, .int 2, .int 3, .int 50, .int 0, pm_no, pm_no]) (pm_q189_2 (Nat.le_of_ble_eq_true rfl)) rfl (Or.inl rfl) pm_M185 T1020.2.1 rfl (by decide) (Nat.lt_of_lt_of_le (by decide) T1020.1) rfl rfl (Nat.le_of_ble_eq_true rfl) rfl rfl ?_
                have e1039 := (F1021.cell (by decide) (F819.cell (by decide) (F772.cell (by decide) (F418.cell (by decide) (F400.cell (by decide) (F392.cell (by decide) (F387.cell (by decide) (F382.cell (by decide) (F377.cell (by decide) (F357.cell (by decide) e3))))))))))
                refine rf_c185_d (d := d + 3) T1020 (⟨f2, e1039, ct4, fun z => (sf_pos B1027 (by decide) z)⟩) (fun z => sf_pos B1027 (by decide) z) (fun m1042 w1043 h1044 T1045 F1046 W1047 X1048 => ?_)
                have F1049 := F1024.trans F1046 (by decide)
                have B1050 : sf_B 0 600 (m1042 10) := by rw [W1047 10 (by decide)]; exact B1025
                have ek1051 : (m1042 10).toInt = ((m815 10)).toInt := by rw [W1047 10 (by decide)]; exact ek1026
                have B1052 : sf_B 1 4 (m1042 17) := by rw [W1047 17 (by decide)]; exact B1027
                have ek1053 : (m1042 17).toInt = ((m815 17)).toInt := by rw [W1047 17 (by decide)]; exact ek1028
                have B1054 : sf_B 0 0 (m1042 22) := by rw [W1047 22 (by decide)]; exact B1029
                have ek1055 : (m1042 22).toInt = ((m815 22)).toInt := by rw [W1047 22 (by decide)]; exact ek1030
                have B1056 : sf_B 1 99 (m1042 21) := by rw [W1047 21 (by decide)]; exact B1031
                have ek1057 : (m1042 21).toInt = (v965).toInt := by rw [W1047 21 (by decide)]; exact ek1032
                have W1058 : rf_W [10, 12, 13, 14, 16, 17, 18, 21, 22] m m1042 := W1033.trans W1047 (by decide)
                show pm_R _ 189 236 [.ref 41, .long a0, pm_no, .int a1, pm_no] [] _ _
                obtain ⟨f1059, e1060, ct1061, bd1062⟩ := X1048
                refine pm_R_op pm_M189 (pc' := 237) (st' := [.int 1]) (pm_q189_2 (Nat.le_of_ble_eq_true rfl)) rfl rfl ?_
                exact pm_R_ret pm_M189 (r := some (.int 1)) (pm_q189_2 (Nat.le_of_ble_eq_true rfl)) rfl (K1 m1042 w1043 h1044 T1045 F1049 W1058 (⟨f1059, e1060, ct1061, fun z => (sf_pos B1052 (by decide) z)⟩) (sf_aux39 _ _ _ ek1051 R964))
        · have F1063 := F402.trans F431 (by decide)
          have W1064 : rf_W [10, 12, 13, 14, 16, 17, 18, 21, 22] m m427 := W364.trans W432 (by decide)
          have B1065 : sf_B 0 600 (m427 10) := T430.2.2.1 10
          have B1066 : sf_B 0 4 (m427 17) := T430.2.2.1 17
          have B1067 : sf_B 0 1 (m427 22) := T430.2.2.1 22
          show pm_R _ 191 7 [.ref 41, .int 1, .int (-1), pm_no] [.int 1] _ _
          have R1068 : (m 10).toInt ≤ (m427 10).toInt := (sf_aux70 _ _ _ R367 X435)
          obtain ⟨v1069, B1070, e1071⟩ := X433 _ e401
          refine pm_R_lo pm_M191 (pc' := 8) (ls' := [.ref 41, .int 1, .int (-1), .int 1]) (st' := []) rfl rfl rfl ?_
          refine pm_R_lo pm_M191 (pc' := 9) rfl rfl rfl ?_
          refine pm_R_lo pm_M191 (pc' := 10) rfl rfl rfl ?_
          refine pm_R_br pm_M191 (pc' := 13) (st' := [.ref 41]) rfl rfl ?_
          refine pm_R_lo pm_M191 (pc' := 14) rfl rfl rfl ?_
          refine rf_R_get pm_M191 T430 (pc' := 17) (v := .ref 52) rfl rfl rfl rfl ?_
          refine pm_R_lo pm_M191 (pc' := 18) rfl rfl rfl ?_
          refine pm_R_iald pm_M191 (pc' := 19) (v := v1069) rfl e1071 (Nat.lt_of_lt_of_le (by decide) T430.1) rfl sf_upd_eq rfl ?_
          refine pm_R_lo pm_M191 (pc' := 20) rfl rfl rfl ?_
          have B1074 : sf_B (-1) 99 (m427 21) := T430.2.2.1 21
          refine rf_R_get pm_M191 T430 (pc' := 23) (v := .int (m427 21)) rfl rfl rfl rfl ?_
          refine pm_R_icmp pm_M191 (t := 35) (pc' := 26) rfl rfl rfl (fun c1075 => ?_) (fun c1075 => ?_)
          · have B1076 : sf_B 0 99 (m427 21) := sf_leR c1075 B1070 B1074
            refine pm_R_lo pm_M191 (pc' := 36) rfl rfl rfl ?_
            refine rf_R_get pm_M191 T430 (pc' := 39) (v := .int (m427 21)) rfl rfl rfl rfl ?_
            refine rf_R_put pm_M191 T430 (pc' := 42) rfl rfl rfl (by decide) rfl rfl (sf_weak B1076 (by decide) (by decide)) rfl rfl (fun h1077 m1080 em1081 T1078 F1079 => ?_)
            have F1082 := F1063.trans F1079 (by decide)
            have B1083 : sf_B 0 600 (m1080 10) := by rw [em1081]; exact B1065
            have ek1084 : (m1080 10).toInt = ((m427 10)).toInt := by rw [em1081]; rfl
            have B1085 : sf_B 1 4 (m1080 17) := by rw [em1081]; exact B436
            have ek1086 : (m1080 17).toInt = ((m427 17)).toInt := by rw [em1081]; rfl
            have B1087 : sf_B 0 0 (m1080 22) := by rw [em1081]; exact B437
            have ek1088 : (m1080 22).toInt = ((m427 22)).toInt := by rw [em1081]; rfl
            have B1089 : sf_B 0 99 (m1080 21) := by rw [em1081]; exact B1076
            have ek1090 : (m1080 21).toInt = ((m427 21)).toInt := by rw [em1081]; rfl
            have W1091 : rf_W [10, 12, 13, 14, 16, 17, 18, 21, 22] m m1080 := by rw [em1081]; exact W1064.put (by decide)
            refine pm_R_lo pm_M191 (pc' := 43) rfl rfl rfl ?_
            refine pm_R_ret pm_M191 (r := some (.int 1)) rfl rfl ?_
            show pm_R _ 189 178 [.ref 41, .long a0, pm_no, .int a1, pm_no] [.int 1] _ _
            refine pm_R_br pm_M189 (pc' := 183) (st' := []) (pm_q189_1 (Nat.le_of_ble_eq_true rfl)) rfl ?_
            refine pm_R_lo pm_M189 (pc' := 184) (pm_q189_1 (Nat.le_of_ble_eq_true rfl)) rfl rfl ?_
            refine pm_R_ldc2 pm_M189 (pc' := 187) (pm_q189_1 (Nat.le_of_ble_eq_true rfl)) rfl rfl ?_
            refine pm_R_op pm_M189 (pc' := 188) (st' := [.int z338]) (pm_q189_1 (Nat.le_of_ble_eq_true rfl)) (by show some (Value.int (lg_cmp a0 1819242347) :: _) = _; rw [← e339]) rfl ?_
            refine pm_R_ifc pm_M189 (t := 205) (pc' := 191) (pm_q189_1 (Nat.le_of_ble_eq_true rfl)) rfl rfl (fun c1094 => absurd (sf_pt2 B341 sf_k0) c1094) (fun c1094 => ?_)
            refine pm_R_lo pm_M189 (pc' := 192) (pm_q189_1 (Nat.le_of_ble_eq_true rfl)) rfl rfl ?_
            refine pm_R_op pm_M189 (pc' := 193) (st' := [.int 2, .ref 41]) (pm_q189_1 (Nat.le_of_ble_eq_true rfl)) rfl rfl ?_
            refine pm_R_lo pm_M189 (pc' := 194) (pm_q189_1 (Nat.le_of_ble_eq_true rfl)) rfl rfl ?_
            refine rf_R_get pm_M189 T1078 (pc' := 197) (v := .ref 52) (pm_q189_1 (Nat.le_of_ble_eq_true rfl)) rfl rfl rfl ?_
            refine pm_R_op pm_M189 (pc' := 198) (st' := [.int 1, .ref 52, .int 2, .ref 41]) (pm_q189_1 (Nat.le_of_ble_eq_true rfl)) rfl rfl ?_
            have e1095 := (F1079.cell (by decide) e1071)
            refine pm_R_iald pm_M189 (pc' := 199) (v := v1069) (pm_q189_1 (Nat.le_of_ble_eq_true rfl)) e1095 (Nat.lt_of_lt_of_le (by decide) T1078.1) rfl sf_upd_eq rfl ?_
            refine pm_R_cv pm_M189 (pc' := 202) (a := 41) (ra := [.int v1069, .int 2]) (rest := []) (ls' := [.ref 41, .int 2, .int v1069, pm_no]) (pm_q189_1 (Nat.le_of_ble_eq_true rfl)) rfl (Or.inl rfl) pm_M191 T1078.2.1 rfl (by decide) (Nat.lt_of_lt_of_le (by decide) T1078.1) rfl rfl (Nat.le_of_ble_eq_true rfl) rfl rfl ?_
            refine pm_R_lo pm_M191 (pc' := 1) rfl rfl rfl ?_
            refine pm_R_lo pm_M191 (pc' := 2) rfl rfl rfl ?_
            refine pm_R_op pm_M191 (pc' := 3) (st' := [.int 5, .int 2, .ref 41]) rfl rfl rfl ?_
            refine pm_R_lo pm_M191 (pc' := 4) rfl rfl rfl ?_
            refine pm_R_cv pm_M191 (pc' := 7) (a := 41) (ra := [.int v1069, .int 5, .int 2]) (rest := []) (ls' := [.ref 41, .int 2, .int 5, .int v1069]) rfl rfl (Or.inl rfl) pm_M183 T1078.2.1 rfl (by decide) (Nat.lt_of_lt_of_le (by decide) T1078.1) rfl rfl (Nat.le_of_ble_eq_true rfl) rfl rfl ?_
            refine rf_c183_2_5 (d := d + 0) T1078  (fun m1100 w1101 h1102 T1103 F1104 W1105 X1106 => ?_) (fun m1109 w1110 h1111 T1112 F1113 W1114 X1115 X1116 X1117 X1118 X1119 => ?_) (fun m1122 w1123 h1124 T1125 F1126 W1127 X1128 X1129 X1130 B1131 B1132 => ?_)
            · have F1133 := F1082.trans F1104 (by decide)
              have B1134 : sf_B 0 99 (m1100 21) := by rw [W1105 21 (by decide)]; exact B1089
              have ek1135 : (m1100 21).toInt = ((m427 21)).toInt := by rw [W1105 21 (by decide)]; exact ek1090
              have W1136 : rf_W [10, 12, 13, 14, 16, 17, 18, 21, 22] m m1100 := W1091.trans W1105 (by decide)
              have B1137 : sf_B 0 600 (m1100 10) := T1103.2.2.1 10
              have B1138 : sf_B 0 4 (m1100 17) := T1103.2.2.1 17
              have B1139 : sf_B 0 1 (m1100 22) := T1103.2.2.1 22
              show pm_R _ 191 7 [.ref 41, .int 2, .int v1069, pm_no] [.int 0] _ _
              have R1140 : (m 10).toInt ≤ (m1100 10).toInt := (sf_aux77 _ _ _ _ ek1084 R1068 X1106)
              refine pm_R_lo pm_M191 (pc' := 8) (ls' := [.ref 41, .int 2, .int v1069, .int 0]) (st' := []) rfl rfl rfl ?_
              refine pm_R_lo pm_M191 (pc' := 9) rfl rfl rfl ?_
              refine pm_R_lo pm_M191 (pc' := 10) rfl rfl rfl ?_
              refine pm_R_br pm_M191 (pc' := 35) (st' := [.ref 41]) rfl rfl ?_
              refine pm_R_lo pm_M191 (pc' := 36) rfl rfl rfl ?_
              refine rf_R_get pm_M191 T1103 (pc' := 39) (v := .int (m1100 21)) rfl rfl rfl rfl ?_
              refine rf_R_put pm_M191 T1103 (pc' := 42) rfl rfl rfl (by decide) rfl rfl (sf_weak B1134 (by decide) (by decide)) rfl rfl (fun h1141 m1144 em1145 T1142 F1143 => ?_)
              have F1146 := F1133.trans F1143 (by decide)
              have B1147 : sf_B 0 600 (m1144 10) := by rw [em1145]; exact B1137
              have ek1148 : (m1144 10).toInt = ((m1100 10)).toInt := by rw [em1145]; rfl
              have B1149 : sf_B 0 4 (m1144 17) := by rw [em1145]; exact B1138
              have ek1150 : (m1144 17).toInt = ((m1100 17)).toInt := by rw [em1145]; rfl
              have B1151 : sf_B 0 1 (m1144 22) := by rw [em1145]; exact B1139
              have ek1152 : (m1144 22).toInt = ((m1100 22)).toInt := by rw [em1145]; rfl
              have B1153 : sf_B 0 99 (m1144 21) := by rw [em1145]; exact B1134
              have ek1154 : (m1144 21).toInt = ((m1100 21)).toInt := by rw [em1145]; rfl
              have W1155 : rf_W [10, 12, 13, 14, 16, 17, 18, 21, 22] m m1144 := by rw [em1145]; exact W1136.put (by decide)
              refine pm_R_lo pm_M191 (pc' := 43) rfl rfl rfl ?_
              refine pm_R_ret pm_M191 (r := some (.int 0)) rfl rfl ?_
              show pm_R _ 189 202 [.ref 41, .long a0, pm_no, .int a1, pm_no] [.int 0] _ _
              refine pm_R_br pm_M189 (pc' := 224) (st' := []) (pm_q189_1 (Nat.le_of_ble_eq_true rfl)) rfl ?_
              refine pm_R_op pm_M189 (pc' := 225) (st' := [.int 0]) (pm_q189_2 (Nat.le_of_ble_eq_true rfl)) rfl rfl ?_
              exact pm_R_ret pm_M189 (r := some (.int 0)) (pm_q189_2 (Nat.le_of_ble_eq_true rfl)) rfl (K0 m1144 w1101 h1141 T1142 F1146 W1155 (sf_aux39 _ _ _ ek1148 R1140))
            · have F1156 := F1082.trans F1113 (by decide)
              have B1157 : sf_B 0 99 (m1109 21) := by rw [W1114 21 (by decide)]; exact B1089
              have ek1158 : (m1109 21).toInt = ((m427 21)).toInt := by rw [W1114 21 (by decide)]; exact ek1090
              have W1159 : rf_W [10, 12, 13, 14, 16, 17, 18, 21, 22] m m1109 := W1091.trans W1114 (by decide)
              have B1160 : sf_B 0 600 (m1109 10) := T1112.2.2.1 10
              have B1161 : sf_B 0 4 (m1109 17) := T1112.2.2.1 17
              have B1162 : sf_B 0 1 (m1109 22) := T1112.2.2.1 22
              show pm_R _ 191 7 [.ref 41, .int 2, .int v1069, pm_no] [.int 1] _ _
              have R1163 : (m 10).toInt ≤ (m1109 10).toInt := (sf_aux77 _ _ _ _ ek1084 R1068 X1119)
              obtain ⟨v1164, B1165, e1166⟩ := X1115 _ e1095
              refine pm_R_lo pm_M191 (pc' := 8) (ls' := [.ref 41, .int 2, .int v1069, .int 1]) (st' := []) rfl rfl rfl ?_
              refine pm_R_lo pm_M191 (pc' := 9) rfl rfl rfl ?_
              refine pm_R_lo pm_M191 (pc' := 10) rfl rfl rfl ?_
              refine pm_R_br pm_M191 (pc' := 13) (st' := [.ref 41]) rfl rfl ?_
              refine pm_R_lo pm_M191 (pc' := 14) rfl rfl rfl ?_
              refine rf_R_get pm_M191 T1112 (pc' := 17) (v := .ref 52) rfl rfl rfl rfl ?_
              refine pm_R_lo pm_M191 (pc' := 18) rfl rfl rfl ?_
              refine pm_R_iald pm_M191 (pc' := 19) (v := v1164) rfl e1166 (Nat.lt_of_lt_of_le (by decide) T1112.1) rfl sf_upd_eq rfl ?_
              refine pm_R_lo pm_M191 (pc' := 20) rfl rfl rfl ?_
              refine rf_R_get pm_M191 T1112 (pc' := 23) (v := .int (m1109 21)) rfl rfl rfl rfl ?_
              refine pm_R_icmp pm_M191 (t := 35) (pc' := 26) rfl rfl rfl (fun c1169 => ?_) (fun c1169 => ?_)
              · skip
                refine pm_R_lo pm_M191 (pc' := 36) rfl rfl rfl ?_
                refine rf_R_get pm_M191 T1112 (pc' := 39) (v := .int (m1109 21)) rfl rfl rfl rfl ?_
                refine rf_R_put pm_M191 T1112 (pc' := 42) rfl rfl rfl (by decide) rfl rfl (sf_weak B1157 (by decide) (by decide)) rfl rfl (fun h1170 m1173 em1174 T1171 F1172 => ?_)
                have F1175 := F1156.trans F1172 (by decide)
                have B1176 : sf_B 0 600 (m1173 10) := by rw [em1174]; exact B1160
                have ek1177 : (m1173 10).toInt = ((m1109 10)).toInt := by rw [em1174]; rfl
                have B1178 : sf_B 1 4 (m1173 17) := by rw [em1174]; exact (sf_eqT X1116 B1085)
                have ek1179 : (m1173 17).toInt = ((m1080 17)).toInt := by rw [em1174]; exact X1116
                have B1180 : sf_B 0 0 (m1173 22) := by rw [em1174]; exact (sf_eqT X1117 B1087)
                have ek1181 : (m1173 22).toInt = ((m1080 22)).toInt := by rw [em1174]; exact X1117
                have B1182 : sf_B 0 99 (m1173 21) := by rw [em1174]; exact B1157
                have ek1183 : (m1173 21).toInt = ((m1109 21)).toInt := by rw [em1174]; rfl
                have W1184 : rf_W [10, 12, 13, 14, 16, 17, 18, 21, 22] m m1173 := by rw [em1174]; exact W1159.put (by decide)
                refine pm_R_lo pm_M191 (pc' := 43) rfl rfl rfl ?_
                refine pm_R_ret pm_M191 (r := some (.int 1)) rfl rfl ?_
                show pm_R _ 189 202 [.ref 41, .long a0, pm_no, .int a1, pm_no] [.int 1] _ _
                refine pm_R_br pm_M189 (pc' := 205) (st' := []) (pm_q189_1 (Nat.le_of_ble_eq_true rfl)) rfl ?_
                refine pm_R_lo pm_M189 (pc' := 206) (pm_q189_1 (Nat.le_of_ble_eq_true rfl)) rfl rfl ?_
                refine pm_R_ldc2 pm_M189 (pc' := 209) (pm_q189_1 (Nat.le_of_ble_eq_true rfl)) rfl rfl ?_
                refine sf_R_lcmp pm_M189 (pc' := 210) (pm_q189_1 (Nat.le_of_ble_eq_true rfl)) rfl (fun z1185 e1186 => ?_)
                have B1187 : sf_B (-2147483648) (-1) z1185 := lf_cmpLt e1186 B342 (⟨by decide, by decide⟩ : lf_B 1935767923 1935767923 1935767923) (by decide)
                refine pm_R_ifc pm_M189 (t := 226) (pc' := 213) (pm_q189_1 (Nat.le_of_ble_eq_true rfl)) rfl rfl (fun c1188 => ?_) (fun c1188 => absurd (Classical.not_not.mp c1188) (sf_neq2 B1187 sf_k0 (by decide)))
                have k1189 := sf_lneC e1186 c1188
                refine pm_R_lo pm_M189 (pc' := 227) (pm_q189_2 (Nat.le_of_ble_eq_true rfl)) rfl rfl ?_
                refine pm_R_op pm_M189 (pc' := 228) (st' := [.int 1, .ref 41]) (pm_q189_2 (Nat.le_of_ble_eq_true rfl)) rfl rfl ?_
                refine pm_R_op pm_M189 (pc' := 229) (st' := [.int 2, .int 1, .ref 41]) (pm_q189_2 (Nat.le_of_ble_eq_true rfl)) rfl rfl ?_
                refine pm_R_op pm_M189 (pc' := 230) (st' := [.int 3, .int 2, .int 1, .ref 41]) (pm_q189_2 (Nat.le_of_ble_eq_true rfl)) rfl rfl ?_
                refine pm_R_op pm_M189 (pc' := 232) (st' := [.int 50, .int 3, .int 2, .int 1, .ref 41]) (pm_q189_2 (Nat.le_of_ble_eq_true rfl)) rfl rfl ?_
                refine pm_R_op pm_M189 (pc' := 233) (st' := [.int 0, .int 50, .int 3, .int 2, .int 1, .ref 41]) (pm_q189_2 (Nat.le_of_ble_eq_true rfl)) rfl rfl ?_
                refine pm_R_cv pm_M189 (pc' := 236) (a := 41) (ra := [.int 0, .int 50, .int 3, .int 2, .int 1]) (rest := []) (ls' := [.ref 41, .int 1, .int 2, .int 3, .int 50, .int 0, pm_no, pm_no]) (pm_q189_2 (Nat.le_of_ble_eq_true rfl)) rfl (Or.inl rfl) pm_M185 T1171.2.1 rfl (by decide) (Nat.lt_of_lt_of_le (by decide) T1171.1) rfl rfl (Nat.le_of_ble_eq_true rfl) rfl rfl ?_
                have e1190 := (F1172.cell (by decide) (F1113.cell (by decide) (F1079.cell (by decide) (F431.cell (by decide) (F400.cell (by decide) (F392.cell (by decide) (F387.cell (by decide) (F382.cell (by decide) (F377.cell (by decide) (F357.cell (by decide) e3))))))))))
                refine rf_c185_d (d := d + 3) T1171 (⟨f2, e1190, ct4, fun z => (sf_pos B1178 (by decide) z)⟩) (fun z => sf_pos B1178 (by decide) z) (fun m1193 w1194 h1195 T1196 F1197 W1198 X1199 => ?_)
                have F1200 := F1175.trans F1197 (by decide)
                have B1201 : sf_B 0 600 (m1193 10) := by rw [W1198 10 (by decide)]; exact B1176
                have ek1202 : (m1193 10).toInt = ((m1109 10)).toInt := by rw [W1198 10 (by decide)]; exact ek1177
                have B1203 : sf_B 1 4 (m1193 17) := by rw [W1198 17 (by decide)]; exact B1178
                have ek1204 : (m1193 17).toInt = ((m1080 17)).toInt := by rw [W1198 17 (by decide)]; exact ek1179
                have B1205 : sf_B 0 0 (m1193 22) := by rw [W1198 22 (by decide)]; exact B1180
                have ek1206 : (m1193 22).toInt = ((m1080 22)).toInt := by rw [W1198 22 (by decide)]; exact ek1181
                have B1207 : sf_B 0 99 (m1193 21) := by rw [W1198 21 (by decide)]; exact B1182
                have ek1208 : (m1193 21).toInt = ((m1109 21)).toInt := by rw [W1198 21 (by decide)]; exact ek1183
                have W1209 : rf_W [10, 12, 13, 14, 16, 17, 18, 21, 22] m m1193 := W1184.trans W1198 (by decide)
                show pm_R _ 189 236 [.ref 41, .long a0, pm_no, .int a1, pm_no] [] _ _
                obtain ⟨f1210, e1211, ct1212, bd1213⟩ := X1199
                refine pm_R_op pm_M189 (pc' := 237) (st' := [.int 1]) (pm_q189_2 (Nat.le_of_ble_eq_true rfl)) rfl rfl ?_
                exact pm_R_ret pm_M189 (r := some (.int 1)) (pm_q189_2 (Nat.le_of_ble_eq_true rfl)) rfl (K1 m1193 w1194 h1195 T1196 F1200 W1209 (⟨f1210, e1211, ct1212, fun z => (sf_pos B1203 (by decide) z)⟩) (sf_aux39 _ _ _ ek1202 R1163))
              · have B1214 : sf_B 0 4 (m1109 21) := sf_ltL (Int32.not_le.mp c1169) B1157 B1165
                have B1215 : sf_B 1 5 v1164 := sf_ltR (Int32.not_le.mp c1169) B1157 B1165
                refine pm_R_lo pm_M191 (pc' := 27) rfl rfl rfl ?_
                refine rf_R_get pm_M191 T1112 (pc' := 30) (v := .ref 52) rfl rfl rfl rfl ?_
                refine pm_R_lo pm_M191 (pc' := 31) rfl rfl rfl ?_
                refine pm_R_iald pm_M191 (pc' := 32) (v := v1164) rfl e1166 (Nat.lt_of_lt_of_le (by decide) T1112.1) rfl sf_upd_eq rfl ?_
                refine pm_R_br pm_M191 (pc' := 39) rfl rfl ?_
                refine rf_R_put pm_M191 T1112 (pc' := 42) rfl rfl rfl (by decide) rfl rfl (sf_weak B1215 (by decide) (by decide)) rfl rfl (fun h1218 m1221 em1222 T1219 F1220 => ?_)
                have F1223 := F1156.trans F1220 (by decide)
                have B1224 : sf_B 0 600 (m1221 10) := by rw [em1222]; exact B1160
                have ek1225 : (m1221 10).toInt = ((m1109 10)).toInt := by rw [em1222]; rfl
                have B1226 : sf_B 1 4 (m1221 17) := by rw [em1222]; exact (sf_eqT X1116 B1085)
                have ek1227 : (m1221 17).toInt = ((m1080 17)).toInt := by rw [em1222]; exact X1116
                have B1228 : sf_B 0 0 (m1221 22) := by rw [em1222]; exact (sf_eqT X1117 B1087)
                have ek1229 : (m1221 22).toInt = ((m1080 22)).toInt := by rw [em1222]; exact X1117
                have B1230 : sf_B 1 5 (m1221 21) := by rw [em1222]; exact B1215
                have ek1231 : (m1221 21).toInt = (v1164).toInt := by rw [em1222]; rfl
                have W1232 : rf_W [10, 12, 13, 14, 16, 17, 18, 21, 22] m m1221 := by rw [em1222]; exact W1159.put (by decide)
                refine pm_R_lo pm_M191 (pc' := 43) rfl rfl rfl ?_
                refine pm_R_ret pm_M191 (r := some (.int 1)) rfl rfl ?_
                show pm_R _ 189 202 [.ref 41, .long a0, pm_no, .int a1, pm_no] [.int 1] _ _
                refine pm_R_br pm_M189 (pc' := 205) (st' := []) (pm_q189_1 (Nat.le_of_ble_eq_true rfl)) rfl ?_
                refine pm_R_lo pm_M189 (pc' := 206) (pm_q189_1 (Nat.le_of_ble_eq_true rfl)) rfl rfl ?_
                refine pm_R_ldc2 pm_M189 (pc' := 209) (pm_q189_1 (Nat.le_of_ble_eq_true rfl)) rfl rfl ?_
                refine sf_R_lcmp pm_M189 (pc' := 210) (pm_q189_1 (Nat.le_of_ble_eq_true rfl)) rfl (fun z1233 e1234 => ?_)
                have B1235 : sf_B (-2147483648) (-1) z1233 := lf_cmpLt e1234 B342 (⟨by decide, by decide⟩ : lf_B 1935767923 1935767923 1935767923) (by decide)
                refine pm_R_ifc pm_M189 (t := 226) (pc' := 213) (pm_q189_1 (Nat.le_of_ble_eq_true rfl)) rfl rfl (fun c1236 => ?_) (fun c1236 => absurd (Classical.not_not.mp c1236) (sf_neq2 B1235 sf_k0 (by decide)))
                have k1237 := sf_lneC e1234 c1236
                refine pm_R_lo pm_M189 (pc' := 227) (pm_q189_2 (Nat.le_of_ble_eq_true rfl)) rfl rfl ?_
                refine pm_R_op pm_M189 (pc' := 228) (st' := [.int 1, .ref 41]) (pm_q189_2 (Nat.le_of_ble_eq_true rfl)) rfl rfl ?_
                refine pm_R_op pm_M189 (pc' := 229) (st' := [.int 2, .int 1, .ref 41]) (pm_q189_2 (Nat.le_of_ble_eq_true rfl)) rfl rfl ?_
                refine pm_R_op pm_M189 (pc' := 230) (st' := [.int 3, .int 2, .int 1, .ref 41]) (pm_q189_2 (Nat.le_of_ble_eq_true rfl)) rfl rfl ?_
                refine pm_R_op pm_M189 (pc' := 232) (st' := [.int 50, .int 3, .int 2, .int 1, .ref 41]) (pm_q189_2 (Nat.le_of_ble_eq_true rfl)) rfl rfl ?_
                refine pm_R_op pm_M189 (pc' := 233) (st' := [.int 0, .int 50, .int 3, .int 2, .int 1, .ref 41]) (pm_q189_2 (Nat.le_of_ble_eq_true rfl)) rfl rfl ?_
                refine pm_R_cv pm_M189 (pc' := 236) (a := 41) (ra := [.int 0, .int 50, .int 3, .int 2, .int 1]) (rest := []) (ls' := [.ref 41, .int 1, .int 2, .int 3, .int 50, .int 0, pm_no, pm_no]) (pm_q189_2 (Nat.le_of_ble_eq_true rfl)) rfl (Or.inl rfl) pm_M185 T1219.2.1 rfl (by decide) (Nat.lt_of_lt_of_le (by decide) T1219.1) rfl rfl (Nat.le_of_ble_eq_true rfl) rfl rfl ?_
                have e1238 := (F1220.cell (by decide) (F1113.cell (by decide) (F1079.cell (by decide) (F431.cell (by decide) (F400.cell (by decide) (F392.cell (by decide) (F387.cell (by decide) (F382.cell (by decide) (F377.cell (by decide) (F357.cell (by decide) e3))))))))))
                refine rf_c185_d (d := d + 3) T1219 (⟨f2, e1238, ct4, fun z => (sf_pos B1226 (by decide) z)⟩) (fun z => sf_pos B1226 (by decide) z) (fun m1241 w1242 h1243 T1244 F1245 W1246 X1247 => ?_)
                have F1248 := F1223.trans F1245 (by decide)
                have B1249 : sf_B 0 600 (m1241 10) := by rw [W1246 10 (by decide)]; exact B1224
                have ek1250 : (m1241 10).toInt = ((m1109 10)).toInt := by rw [W1246 10 (by decide)]; exact ek1225
                have B1251 : sf_B 1 4 (m1241 17) := by rw [W1246 17 (by decide)]; exact B1226
                have ek1252 : (m1241 17).toInt = ((m1080 17)).toInt := by rw [W1246 17 (by decide)]; exact ek1227
                have B1253 : sf_B 0 0 (m1241 22) := by rw [W1246 22 (by decide)]; exact B1228
                have ek1254 : (m1241 22).toInt = ((m1080 22)).toInt := by rw [W1246 22 (by decide)]; exact ek1229
                have B1255 : sf_B 1 5 (m1241 21) := by rw [W1246 21 (by decide)]; exact B1230
                have ek1256 : (m1241 21).toInt = (v1164).toInt := by rw [W1246 21 (by decide)]; exact ek1231
                have W1257 : rf_W [10, 12, 13, 14, 16, 17, 18, 21, 22] m m1241 := W1232.trans W1246 (by decide)
                show pm_R _ 189 236 [.ref 41, .long a0, pm_no, .int a1, pm_no] [] _ _
                obtain ⟨f1258, e1259, ct1260, bd1261⟩ := X1247
                refine pm_R_op pm_M189 (pc' := 237) (st' := [.int 1]) (pm_q189_2 (Nat.le_of_ble_eq_true rfl)) rfl rfl ?_
                exact pm_R_ret pm_M189 (r := some (.int 1)) (pm_q189_2 (Nat.le_of_ble_eq_true rfl)) rfl (K1 m1241 w1242 h1243 T1244 F1248 W1257 (⟨f1258, e1259, ct1260, fun z => (sf_pos B1251 (by decide) z)⟩) (sf_aux39 _ _ _ ek1250 R1163))
            · have F1262 := F1082.trans F1126 (by decide)
              have B1263 : sf_B 0 99 (m1122 21) := by rw [W1127 21 (by decide)]; exact B1089
              have ek1264 : (m1122 21).toInt = ((m427 21)).toInt := by rw [W1127 21 (by decide)]; exact ek1090
              have W1265 : rf_W [10, 12, 13, 14, 16, 17, 18, 21, 22] m m1122 := W1091.trans W1127 (by decide)
              have B1266 : sf_B 0 600 (m1122 10) := T1125.2.2.1 10
              have B1267 : sf_B 0 4 (m1122 17) := T1125.2.2.1 17
              have B1268 : sf_B 0 1 (m1122 22) := T1125.2.2.1 22
              show pm_R _ 191 7 [.ref 41, .int 2, .int v1069, pm_no] [.int 1] _ _
              have R1269 : (m 10).toInt ≤ (m1122 10).toInt := (sf_aux77 _ _ _ _ ek1084 R1068 X1130)
              obtain ⟨v1270, B1271, e1272⟩ := X1128 _ e1095
              refine pm_R_lo pm_M191 (pc' := 8) (ls' := [.ref 41, .int 2, .int v1069, .int 1]) (st' := []) rfl rfl rfl ?_
              refine pm_R_lo pm_M191 (pc' := 9) rfl rfl rfl ?_
              refine pm_R_lo pm_M191 (pc' := 10) rfl rfl rfl ?_
              refine pm_R_br pm_M191 (pc' := 13) (st' := [.ref 41]) rfl rfl ?_
              refine pm_R_lo pm_M191 (pc' := 14) rfl rfl rfl ?_
              refine rf_R_get pm_M191 T1125 (pc' := 17) (v := .ref 52) rfl rfl rfl rfl ?_
              refine pm_R_lo pm_M191 (pc' := 18) rfl rfl rfl ?_
              refine pm_R_iald pm_M191 (pc' := 19) (v := v1270) rfl e1272 (Nat.lt_of_lt_of_le (by decide) T1125.1) rfl sf_upd_eq rfl ?_
              refine pm_R_lo pm_M191 (pc' := 20) rfl rfl rfl ?_
              refine rf_R_get pm_M191 T1125 (pc' := 23) (v := .int (m1122 21)) rfl rfl rfl rfl ?_
              refine pm_R_icmp pm_M191 (t := 35) (pc' := 26) rfl rfl rfl (fun c1275 => ?_) (fun c1275 => ?_)
              · skip
                refine pm_R_lo pm_M191 (pc' := 36) rfl rfl rfl ?_
                refine rf_R_get pm_M191 T1125 (pc' := 39) (v := .int (m1122 21)) rfl rfl rfl rfl ?_
                refine rf_R_put pm_M191 T1125 (pc' := 42) rfl rfl rfl (by decide) rfl rfl (sf_weak B1263 (by decide) (by decide)) rfl rfl (fun h1276 m1279 em1280 T1277 F1278 => ?_)
                have F1281 := F1262.trans F1278 (by decide)
                have B1282 : sf_B 0 600 (m1279 10) := by rw [em1280]; exact B1266
                have ek1283 : (m1279 10).toInt = ((m1122 10)).toInt := by rw [em1280]; rfl
                have B1284 : sf_B 1 4 (m1279 17) := by rw [em1280]; exact B1131
                have ek1285 : (m1279 17).toInt = ((m1122 17)).toInt := by rw [em1280]; rfl
                have B1286 : sf_B 0 0 (m1279 22) := by rw [em1280]; exact B1132
                have ek1287 : (m1279 22).toInt = ((m1122 22)).toInt := by rw [em1280]; rfl
                have B1288 : sf_B 0 99 (m1279 21) := by rw [em1280]; exact B1263
                have ek1289 : (m1279 21).toInt = ((m1122 21)).toInt := by rw [em1280]; rfl
                have W1290 : rf_W [10, 12, 13, 14, 16, 17, 18, 21, 22] m m1279 := by rw [em1280]; exact W1265.put (by decide)
                refine pm_R_lo pm_M191 (pc' := 43) rfl rfl rfl ?_
                refine pm_R_ret pm_M191 (r := some (.int 1)) rfl rfl ?_
                show pm_R _ 189 202 [.ref 41, .long a0, pm_no, .int a1, pm_no] [.int 1] _ _
                refine pm_R_br pm_M189 (pc' := 205) (st' := []) (pm_q189_1 (Nat.le_of_ble_eq_true rfl)) rfl ?_
                refine pm_R_lo pm_M189 (pc' := 206) (pm_q189_1 (Nat.le_of_ble_eq_true rfl)) rfl rfl ?_
                refine pm_R_ldc2 pm_M189 (pc' := 209) (pm_q189_1 (Nat.le_of_ble_eq_true rfl)) rfl rfl ?_
                refine sf_R_lcmp pm_M189 (pc' := 210) (pm_q189_1 (Nat.le_of_ble_eq_true rfl)) rfl (fun z1291 e1292 => ?_)
                have B1293 : sf_B (-2147483648) (-1) z1291 := lf_cmpLt e1292 B342 (⟨by decide, by decide⟩ : lf_B 1935767923 1935767923 1935767923) (by decide)
                refine pm_R_ifc pm_M189 (t := 226) (pc' := 213) (pm_q189_1 (Nat.le_of_ble_eq_true rfl)) rfl rfl (fun c1294 => ?_) (fun c1294 => absurd (Classical.not_not.mp c1294) (sf_neq2 B1293 sf_k0 (by decide)))
                have k1295 := sf_lneC e1292 c1294
                refine pm_R_lo pm_M189 (pc' := 227) (pm_q189_2 (Nat.le_of_ble_eq_true rfl)) rfl rfl ?_
                refine pm_R_op pm_M189 (pc' := 228) (st' := [.int 1, .ref 41]) (pm_q189_2 (Nat.le_of_ble_eq_true rfl)) rfl rfl ?_
                refine pm_R_op pm_M189 (pc' := 229) (st' := [.int 2, .int 1, .ref 41]) (pm_q189_2 (Nat.le_of_ble_eq_true rfl)) rfl rfl ?_
                refine pm_R_op pm_M189 (pc' := 230) (st' := [.int 3, .int 2, .int 1, .ref 41]) (pm_q189_2 (Nat.le_of_ble_eq_true rfl)) rfl rfl ?_
                refine pm_R_op pm_M189 (pc' := 232) (st' := [.int 50, .int 3, .int 2, .int 1, .ref 41]) (pm_q189_2 (Nat.le_of_ble_eq_true rfl)) rfl rfl ?_
                refine pm_R_op pm_M189 (pc' := 233) (st' := [.int 0, .int 50, .int 3, .int 2, .int 1, .ref 41]) (pm_q189_2 (Nat.le_of_ble_eq_true rfl)) rfl rfl ?_
                refine pm_R_cv pm_M189 (pc' := 236) (a := 41) (ra := [.int 0, .int 50, .int 3, .int 2, .int 1]) (rest := []) (ls' := [.ref 41, .int 1, .int 2, .int 3, .int 50, .int 0, pm_no, pm_no]) (pm_q189_2 (Nat.le_of_ble_eq_true rfl)) rfl (Or.inl rfl) pm_M185 T1277.2.1 rfl (by decide) (Nat.lt_of_lt_of_le (by decide) T1277.1) rfl rfl (Nat.le_of_ble_eq_true rfl) rfl rfl ?_
                have e1296 := (F1278.cell (by decide) (F1126.cell (by decide) (F1079.cell (by decide) (F431.cell (by decide) (F400.cell (by decide) (F392.cell (by decide) (F387.cell (by decide) (F382.cell (by decide) (F377.cell (by decide) (F357.cell (by decide) e3))))))))))
                refine rf_c185_d (d := d + 3) T1277 (⟨f2, e1296, ct4, fun z => (sf_pos B1284 (by decide) z)⟩) (fun z => sf_pos B1284 (by decide) z) (fun m1299 w1300 h1301 T1302 F1303 W1304 X1305 => ?_)
                have F1306 := F1281.trans F1303 (by decide)
                have B1307 : sf_B 0 600 (m1299 10) := by rw [W1304 10 (by decide)]; exact B1282
                have ek1308 : (m1299 10).toInt = ((m1122 10)).toInt := by rw [W1304 10 (by decide)]; exact ek1283
                have B1309 : sf_B 1 4 (m1299 17) := by rw [W1304 17 (by decide)]; exact B1284
                have ek1310 : (m1299 17).toInt = ((m1122 17)).toInt := by rw [W1304 17 (by decide)]; exact ek1285
                have B1311 : sf_B 0 0 (m1299 22) := by rw [W1304 22 (by decide)]; exact B1286
                have ek1312 : (m1299 22).toInt = ((m1122 22)).toInt := by rw [W1304 22 (by decide)]; exact ek1287
                have B1313 : sf_B 0 99 (m1299 21) := by rw [W1304 21 (by decide)]; exact B1288
                have ek1314 : (m1299 21).toInt = ((m1122 21)).toInt := by rw [W1304 21 (by decide)]; exact ek1289
                have W1315 : rf_W [10, 12, 13, 14, 16, 17, 18, 21, 22] m m1299 := W1290.trans W1304 (by decide)
                show pm_R _ 189 236 [.ref 41, .long a0, pm_no, .int a1, pm_no] [] _ _
                obtain ⟨f1316, e1317, ct1318, bd1319⟩ := X1305
                refine pm_R_op pm_M189 (pc' := 237) (st' := [.int 1]) (pm_q189_2 (Nat.le_of_ble_eq_true rfl)) rfl rfl ?_
                exact pm_R_ret pm_M189 (r := some (.int 1)) (pm_q189_2 (Nat.le_of_ble_eq_true rfl)) rfl (K1 m1299 w1300 h1301 T1302 F1306 W1315 (⟨f1316, e1317, ct1318, fun z => (sf_pos B1309 (by decide) z)⟩) (sf_aux39 _ _ _ ek1308 R1269))
              · have B1320 : sf_B 0 98 (m1122 21) := sf_ltL (Int32.not_le.mp c1275) B1263 B1271
                have B1321 : sf_B 1 99 v1270 := sf_ltR (Int32.not_le.mp c1275) B1263 B1271
                refine pm_R_lo pm_M191 (pc' := 27) rfl rfl rfl ?_
                refine rf_R_get pm_M191 T1125 (pc' := 30) (v := .ref 52) rfl rfl rfl rfl ?_
                refine pm_R_lo pm_M191 (pc' := 31) rfl rfl rfl ?_
                refine pm_R_iald pm_M191 (pc' := 32) (v := v1270) rfl e1272 (Nat.lt_of_lt_of_le (by decide) T1125.1) rfl sf_upd_eq rfl ?_
                refine pm_R_br pm_M191 (pc' := 39) rfl rfl ?_
                refine rf_R_put pm_M191 T1125 (pc' := 42) rfl rfl rfl (by decide) rfl rfl (sf_weak B1321 (by decide) (by decide)) rfl rfl (fun h1324 m1327 em1328 T1325 F1326 => ?_)
                have F1329 := F1262.trans F1326 (by decide)
                have B1330 : sf_B 0 600 (m1327 10) := by rw [em1328]; exact B1266
                have ek1331 : (m1327 10).toInt = ((m1122 10)).toInt := by rw [em1328]; rfl
                have B1332 : sf_B 1 4 (m1327 17) := by rw [em1328]; exact B1131
                have ek1333 : (m1327 17).toInt = ((m1122 17)).toInt := by rw [em1328]; rfl
                have B1334 : sf_B 0 0 (m1327 22) := by rw [em1328]; exact B1132
                have ek1335 : (m1327 22).toInt = ((m1122 22)).toInt := by rw [em1328]; rfl
                have B1336 : sf_B 1 99 (m1327 21) := by rw [em1328]; exact B1321
                have ek1337 : (m1327 21).toInt = (v1270).toInt := by rw [em1328]; rfl
                have W1338 : rf_W [10, 12, 13, 14, 16, 17, 18, 21, 22] m m1327 := by rw [em1328]; exact W1265.put (by decide)
                refine pm_R_lo pm_M191 (pc' := 43) rfl rfl rfl ?_
                refine pm_R_ret pm_M191 (r := some (.int 1)) rfl rfl ?_
                show pm_R _ 189 202 [.ref 41, .long a0, pm_no, .int a1, pm_no] [.int 1] _ _
                refine pm_R_br pm_M189 (pc' := 205) (st' := []) (pm_q189_1 (Nat.le_of_ble_eq_true rfl)) rfl ?_
                refine pm_R_lo pm_M189 (pc' := 206) (pm_q189_1 (Nat.le_of_ble_eq_true rfl)) rfl rfl ?_
                refine pm_R_ldc2 pm_M189 (pc' := 209) (pm_q189_1 (Nat.le_of_ble_eq_true rfl)) rfl rfl ?_
                refine sf_R_lcmp pm_M189 (pc' := 210) (pm_q189_1 (Nat.le_of_ble_eq_true rfl)) rfl (fun z1339 e1340 => ?_)
                have B1341 : sf_B (-2147483648) (-1) z1339 := lf_cmpLt e1340 B342 (⟨by decide, by decide⟩ : lf_B 1935767923 1935767923 1935767923) (by decide)
                refine pm_R_ifc pm_M189 (t := 226) (pc' := 213) (pm_q189_1 (Nat.le_of_ble_eq_true rfl)) rfl rfl (fun c1342 => ?_) (fun c1342 => absurd (Classical.not_not.mp c1342) (sf_neq2 B1341 sf_k0 (by decide)))
                have k1343 := sf_lneC e1340 c1342
                refine pm_R_lo pm_M189 (pc' := 227) (pm_q189_2 (Nat.le_of_ble_eq_true rfl)) rfl rfl ?_
                refine pm_R_op pm_M189 (pc' := 228) (st' := [.int 1, .ref 41]) (pm_q189_2 (Nat.le_of_ble_eq_true rfl)) rfl rfl ?_
                refine pm_R_op pm_M189 (pc' := 229) (st' := [.int 2, .int 1, .ref 41]) (pm_q189_2 (Nat.le_of_ble_eq_true rfl)) rfl rfl ?_
                refine pm_R_op pm_M189 (pc' := 230) (st' := [.int 3, .int 2, .int 1, .ref 41]) (pm_q189_2 (Nat.le_of_ble_eq_true rfl)) rfl rfl ?_
                refine pm_R_op pm_M189 (pc' := 232) (st' := [.int 50, .int 3, .int 2, .int 1, .ref 41]) (pm_q189_2 (Nat.le_of_ble_eq_true rfl)) rfl rfl ?_
                refine pm_R_op pm_M189 (pc' := 233) (st' := [.int 0, .int 50, .int 3, .int 2, .int 1, .ref 41]) (pm_q189_2 (Nat.le_of_ble_eq_true rfl)) rfl rfl ?_
                refine pm_R_cv pm_M189 (pc' := 236) (a := 41) (ra := [.int 0, .int 50, .int 3, .int 2, .int 1]) (rest := []) (ls' := [.ref 41, .int 1, .int 2, .int 3, .int 50, .int 0, pm_no, pm_no]) (pm_q189_2 (Nat.le_of_ble_eq_true rfl)) rfl (Or.inl rfl) pm_M185 T1325.2.1 rfl (by decide) (Nat.lt_of_lt_of_le (by decide) T1325.1) rfl rfl (Nat.le_of_ble_eq_true rfl) rfl rfl ?_
                have e1344 := (F1326.cell (by decide) (F1126.cell (by decide) (F1079.cell (by decide) (F431.cell (by decide) (F400.cell (by decide) (F392.cell (by decide) (F387.cell (by decide) (F382.cell (by decide) (F377.cell (by decide) (F357.cell (by decide) e3))))))))))
                refine rf_c185_d (d := d + 3) T1325 (⟨f2, e1344, ct4, fun z => (sf_pos B1332 (by decide) z)⟩) (fun z => sf_pos B1332 (by decide) z) (fun m1347 w1348 h1349 T1350 F1351 W1352 X1353 => ?_)
                have F1354 := F1329.trans F1351 (by decide)
                have B1355 : sf_B 0 600 (m1347 10) := by rw [W1352 10 (by decide)]; exact B1330
                have ek1356 : (m1347 10).toInt = ((m1122 10)).toInt := by rw [W1352 10 (by decide)]; exact ek1331
                have B1357 : sf_B 1 4 (m1347 17) := by rw [W1352 17 (by decide)]; exact B1332
                have ek1358 : (m1347 17).toInt = ((m1122 17)).toInt := by rw [W1352 17 (by decide)]; exact ek1333
                have B1359 : sf_B 0 0 (m1347 22) := by rw [W1352 22 (by decide)]; exact B1334
                have ek1360 : (m1347 22).toInt = ((m1122 22)).toInt := by rw [W1352 22 (by decide)]; exact ek1335
                have B1361 : sf_B 1 99 (m1347 21) := by rw [W1352 21 (by decide)]; exact B1336
                have ek1362 : (m1347 21).toInt = (v1270).toInt := by rw [W1352 21 (by decide)]; exact ek1337
                have W1363 : rf_W [10, 12, 13, 14, 16, 17, 18, 21, 22] m m1347 := W1338.trans W1352 (by decide)
                show pm_R _ 189 236 [.ref 41, .long a0, pm_no, .int a1, pm_no] [] _ _
                obtain ⟨f1364, e1365, ct1366, bd1367⟩ := X1353
                refine pm_R_op pm_M189 (pc' := 237) (st' := [.int 1]) (pm_q189_2 (Nat.le_of_ble_eq_true rfl)) rfl rfl ?_
                exact pm_R_ret pm_M189 (r := some (.int 1)) (pm_q189_2 (Nat.le_of_ble_eq_true rfl)) rfl (K1 m1347 w1348 h1349 T1350 F1354 W1363 (⟨f1364, e1365, ct1366, fun z => (sf_pos B1357 (by decide) z)⟩) (sf_aux39 _ _ _ ek1356 R1269))
          · have B1368 : sf_B (-1) 98 (m427 21) := sf_ltL (Int32.not_le.mp c1075) B1074 B1070
            refine pm_R_lo pm_M191 (pc' := 27) rfl rfl rfl ?_
            refine rf_R_get pm_M191 T430 (pc' := 30) (v := .ref 52) rfl rfl rfl rfl ?_
            refine pm_R_lo pm_M191 (pc' := 31) rfl rfl rfl ?_
            refine pm_R_iald pm_M191 (pc' := 32) (v := v1069) rfl e1071 (Nat.lt_of_lt_of_le (by decide) T430.1) rfl sf_upd_eq rfl ?_
            refine pm_R_br pm_M191 (pc' := 39) rfl rfl ?_
            refine rf_R_put pm_M191 T430 (pc' := 42) rfl rfl rfl (by decide) rfl rfl (sf_weak B1070 (by decide) (by decide)) rfl rfl (fun h1371 m1374 em1375 T1372 F1373 => ?_)
            have F1376 := F1063.trans F1373 (by decide)
            have B1377 : sf_B 0 600 (m1374 10) := by rw [em1375]; exact B1065
            have ek1378 : (m1374 10).toInt = ((m427 10)).toInt := by rw [em1375]; rfl
            have B1379 : sf_B 1 4 (m1374 17) := by rw [em1375]; exact B436
            have ek1380 : (m1374 17).toInt = ((m427 17)).toInt := by rw [em1375]; rfl
            have B1381 : sf_B 0 0 (m1374 22) := by rw [em1375]; exact B437
            have ek1382 : (m1374 22).toInt = ((m427 22)).toInt := by rw [em1375]; rfl
            have B1383 : sf_B 0 99 (m1374 21) := by rw [em1375]; exact B1070
            have ek1384 : (m1374 21).toInt = (v1069).toInt := by rw [em1375]; rfl
            have W1385 : rf_W [10, 12, 13, 14, 16, 17, 18, 21, 22] m m1374 := by rw [em1375]; exact W1064.put (by decide)
            refine pm_R_lo pm_M191 (pc' := 43) rfl rfl rfl ?_
            refine pm_R_ret pm_M191 (r := some (.int 1)) rfl rfl ?_
            show pm_R _ 189 178 [.ref 41, .long a0, pm_no, .int a1, pm_no] [.int 1] _ _
            refine pm_R_br pm_M189 (pc' := 183) (st' := []) (pm_q189_1 (Nat.le_of_ble_eq_true rfl)) rfl ?_
            refine pm_R_lo pm_M189 (pc' := 184) (pm_q189_1 (Nat.le_of_ble_eq_true rfl)) rfl rfl ?_
            refine pm_R_ldc2 pm_M189 (pc' := 187) (pm_q189_1 (Nat.le_of_ble_eq_true rfl)) rfl rfl ?_
            refine pm_R_op pm_M189 (pc' := 188) (st' := [.int z338]) (pm_q189_1 (Nat.le_of_ble_eq_true rfl)) (by show some (Value.int (lg_cmp a0 1819242347) :: _) = _; rw [← e339]) rfl ?_
            refine pm_R_ifc pm_M189 (t := 205) (pc' := 191) (pm_q189_1 (Nat.le_of_ble_eq_true rfl)) rfl rfl (fun c1388 => absurd (sf_pt2 B341 sf_k0) c1388) (fun c1388 => ?_)
            refine pm_R_lo pm_M189 (pc' := 192) (pm_q189_1 (Nat.le_of_ble_eq_true rfl)) rfl rfl ?_
            refine pm_R_op pm_M189 (pc' := 193) (st' := [.int 2, .ref 41]) (pm_q189_1 (Nat.le_of_ble_eq_true rfl)) rfl rfl ?_
            refine pm_R_lo pm_M189 (pc' := 194) (pm_q189_1 (Nat.le_of_ble_eq_true rfl)) rfl rfl ?_
            refine rf_R_get pm_M189 T1372 (pc' := 197) (v := .ref 52) (pm_q189_1 (Nat.le_of_ble_eq_true rfl)) rfl rfl rfl ?_
            refine pm_R_op pm_M189 (pc' := 198) (st' := [.int 1, .ref 52, .int 2, .ref 41]) (pm_q189_1 (Nat.le_of_ble_eq_true rfl)) rfl rfl ?_
            have e1389 := (F1373.cell (by decide) e1071)
            refine pm_R_iald pm_M189 (pc' := 199) (v := v1069) (pm_q189_1 (Nat.le_of_ble_eq_true rfl)) e1389 (Nat.lt_of_lt_of_le (by decide) T1372.1) rfl sf_upd_eq rfl ?_
            refine pm_R_cv pm_M189 (pc' := 202) (a := 41) (ra := [.int v1069, .int 2]) (rest := []) (ls' := [.ref 41, .int 2, .int v1069, pm_no]) (pm_q189_1 (Nat.le_of_ble_eq_true rfl)) rfl (Or.inl rfl) pm_M191 T1372.2.1 rfl (by decide) (Nat.lt_of_lt_of_le (by decide) T1372.1) rfl rfl (Nat.le_of_ble_eq_true rfl) rfl rfl ?_
            refine pm_R_lo pm_M191 (pc' := 1) rfl rfl rfl ?_
            refine pm_R_lo pm_M191 (pc' := 2) rfl rfl rfl ?_
            refine pm_R_op pm_M191 (pc' := 3) (st' := [.int 5, .int 2, .ref 41]) rfl rfl rfl ?_
            refine pm_R_lo pm_M191 (pc' := 4) rfl rfl rfl ?_
            refine pm_R_cv pm_M191 (pc' := 7) (a := 41) (ra := [.int v1069, .int 5, .int 2]) (rest := []) (ls' := [.ref 41, .int 2, .int 5, .int v1069]) rfl rfl (Or.inl rfl) pm_M183 T1372.2.1 rfl (by decide) (Nat.lt_of_lt_of_le (by decide) T1372.1) rfl rfl (Nat.le_of_ble_eq_true rfl) rfl rfl ?_
            refine rf_c183_2_5 (d := d + 0) T1372  (fun m1394 w1395 h1396 T1397 F1398 W1399 X1400 => ?_) (fun m1403 w1404 h1405 T1406 F1407 W1408 X1409 X1410 X1411 X1412 X1413 => ?_) (fun m1416 w1417 h1418 T1419 F1420 W1421 X1422 X1423 X1424 B1425 B1426 => ?_)
            · have F1427 := F1376.trans F1398 (by decide)
              have B1428 : sf_B 0 99 (m1394 21) := by rw [W1399 21 (by decide)]; exact B1383
              have ek1429 : (m1394 21).toInt = (v1069).toInt := by rw [W1399 21 (by decide)]; exact ek1384
              have W1430 : rf_W [10, 12, 13, 14, 16, 17, 18, 21, 22] m m1394 := W1385.trans W1399 (by decide)
              have B1431 : sf_B 0 600 (m1394 10) := T1397.2.2.1 10
              have B1432 : sf_B 0 4 (m1394 17) := T1397.2.2.1 17
              have B1433 : sf_B 0 1 (m1394 22) := T1397.2.2.1 22
              show pm_R _ 191 7 [.ref 41, .int 2, .int v1069, pm_no] [.int 0] _ _
              have R1434 : (m 10).toInt ≤ (m1394 10).toInt := (sf_aux77 _ _ _ _ ek1378 R1068 X1400)
              refine pm_R_lo pm_M191 (pc' := 8) (ls' := [.ref 41, .int 2, .int v1069, .int 0]) (st' := []) rfl rfl rfl ?_
              refine pm_R_lo pm_M191 (pc' := 9) rfl rfl rfl ?_
              refine pm_R_lo pm_M191 (pc' := 10) rfl rfl rfl ?_
              refine pm_R_br pm_M191 (pc' := 35) (st' := [.ref 41]) rfl rfl ?_
              refine pm_R_lo pm_M191 (pc' := 36) rfl rfl rfl ?_
              refine rf_R_get pm_M191 T1397 (pc' := 39) (v := .int (m1394 21)) rfl rfl rfl rfl ?_
              refine rf_R_put pm_M191 T1397 (pc' := 42) rfl rfl rfl (by decide) rfl rfl (sf_weak B1428 (by decide) (by decide)) rfl rfl (fun h1435 m1438 em1439 T1436 F1437 => ?_)
              have F1440 := F1427.trans F1437 (by decide)
              have B1441 : sf_B 0 600 (m1438 10) := by rw [em1439]; exact B1431
              have ek1442 : (m1438 10).toInt = ((m1394 10)).toInt := by rw [em1439]; rfl
              have B1443 : sf_B 0 4 (m1438 17) := by rw [em1439]; exact B1432
              have ek1444 : (m1438 17).toInt = ((m1394 17)).toInt := by rw [em1439]; rfl
              have B1445 : sf_B 0 1 (m1438 22) := by rw [em1439]; exact B1433
              have ek1446 : (m1438 22).toInt = ((m1394 22)).toInt := by rw [em1439]; rfl
              have B1447 : sf_B 0 99 (m1438 21) := by rw [em1439]; exact B1428
              have ek1448 : (m1438 21).toInt = ((m1394 21)).toInt := by rw [em1439]; rfl
              have W1449 : rf_W [10, 12, 13, 14, 16, 17, 18, 21, 22] m m1438 := by rw [em1439]; exact W1430.put (by decide)
              refine pm_R_lo pm_M191 (pc' := 43) rfl rfl rfl ?_
              refine pm_R_ret pm_M191 (r := some (.int 0)) rfl rfl ?_
              show pm_R _ 189 202 [.ref 41, .long a0, pm_no, .int a1, pm_no] [.int 0] _ _
              refine pm_R_br pm_M189 (pc' := 224) (st' := []) (pm_q189_1 (Nat.le_of_ble_eq_true rfl)) rfl ?_
              refine pm_R_op pm_M189 (pc' := 225) (st' := [.int 0]) (pm_q189_2 (Nat.le_of_ble_eq_true rfl)) rfl rfl ?_
              exact pm_R_ret pm_M189 (r := some (.int 0)) (pm_q189_2 (Nat.le_of_ble_eq_true rfl)) rfl (K0 m1438 w1395 h1435 T1436 F1440 W1449 (sf_aux39 _ _ _ ek1442 R1434))
            · have F1450 := F1376.trans F1407 (by decide)
              have B1451 : sf_B 0 99 (m1403 21) := by rw [W1408 21 (by decide)]; exact B1383
              have ek1452 : (m1403 21).toInt = (v1069).toInt := by rw [W1408 21 (by decide)]; exact ek1384
              have W1453 : rf_W [10, 12, 13, 14, 16, 17, 18, 21, 22] m m1403 := W1385.trans W1408 (by decide)
              have B1454 : sf_B 0 600 (m1403 10) := T1406.2.2.1 10
              have B1455 : sf_B 0 4 (m1403 17) := T1406.2.2.1 17
              have B1456 : sf_B 0 1 (m1403 22) := T1406.2.2.1 22
              show pm_R _ 191 7 [.ref 41, .int 2, .int v1069, pm_no] [.int 1] _ _
              have R1457 : (m 10).toInt ≤ (m1403 10).toInt := (sf_aux77 _ _ _ _ ek1378 R1068 X1413)
              obtain ⟨v1458, B1459, e1460⟩ := X1409 _ e1389
              refine pm_R_lo pm_M191 (pc' := 8) (ls' := [.ref 41, .int 2, .int v1069, .int 1]) (st' := []) rfl rfl rfl ?_
              refine pm_R_lo pm_M191 (pc' := 9) rfl rfl rfl ?_
              refine pm_R_lo pm_M191 (pc' := 10) rfl rfl rfl ?_
              refine pm_R_br pm_M191 (pc' := 13) (st' := [.ref 41]) rfl rfl ?_
              refine pm_R_lo pm_M191 (pc' := 14) rfl rfl rfl ?_
              refine rf_R_get pm_M191 T1406 (pc' := 17) (v := .ref 52) rfl rfl rfl rfl ?_
              refine pm_R_lo pm_M191 (pc' := 18) rfl rfl rfl ?_
              refine pm_R_iald pm_M191 (pc' := 19) (v := v1458) rfl e1460 (Nat.lt_of_lt_of_le (by decide) T1406.1) rfl sf_upd_eq rfl ?_
              refine pm_R_lo pm_M191 (pc' := 20) rfl rfl rfl ?_
              refine rf_R_get pm_M191 T1406 (pc' := 23) (v := .int (m1403 21)) rfl rfl rfl rfl ?_
              refine pm_R_icmp pm_M191 (t := 35) (pc' := 26) rfl rfl rfl (fun c1463 => ?_) (fun c1463 => ?_)
              · skip
                refine pm_R_lo pm_M191 (pc' := 36) rfl rfl rfl ?_
                refine rf_R_get pm_M191 T1406 (pc' := 39) (v := .int (m1403 21)) rfl rfl rfl rfl ?_
                refine rf_R_put pm_M191 T1406 (pc' := 42) rfl rfl rfl (by decide) rfl rfl (sf_weak B1451 (by decide) (by decide)) rfl rfl (fun h1464 m1467 em1468 T1465 F1466 => ?_)
                have F1469 := F1450.trans F1466 (by decide)
                have B1470 : sf_B 0 600 (m1467 10) := by rw [em1468]; exact B1454
                have ek1471 : (m1467 10).toInt = ((m1403 10)).toInt := by rw [em1468]; rfl
                have B1472 : sf_B 1 4 (m1467 17) := by rw [em1468]; exact (sf_eqT X1410 B1379)
                have ek1473 : (m1467 17).toInt = ((m1374 17)).toInt := by rw [em1468]; exact X1410
                have B1474 : sf_B 0 0 (m1467 22) := by rw [em1468]; exact (sf_eqT X1411 B1381)
                have ek1475 : (m1467 22).toInt = ((m1374 22)).toInt := by rw [em1468]; exact X1411
                have B1476 : sf_B 0 99 (m1467 21) := by rw [em1468]; exact B1451
                have ek1477 : (m1467 21).toInt = ((m1403 21)).toInt := by rw [em1468]; rfl
                have W1478 : rf_W [10, 12, 13, 14, 16, 17, 18, 21, 22] m m1467 := by rw [em1468]; exact W1453.put (by decide)
                refine pm_R_lo pm_M191 (pc' := 43) rfl rfl rfl ?_
                refine pm_R_ret pm_M191 (r := some (.int 1)) rfl rfl ?_
                show pm_R _ 189 202 [.ref 41, .long a0, pm_no, .int a1, pm_no] [.int 1] _ _
                refine pm_R_br pm_M189 (pc' := 205) (st' := []) (pm_q189_1 (Nat.le_of_ble_eq_true rfl)) rfl ?_
                refine pm_R_lo pm_M189 (pc' := 206) (pm_q189_1 (Nat.le_of_ble_eq_true rfl)) rfl rfl ?_
                refine pm_R_ldc2 pm_M189 (pc' := 209) (pm_q189_1 (Nat.le_of_ble_eq_true rfl)) rfl rfl ?_
                refine sf_R_lcmp pm_M189 (pc' := 210) (pm_q189_1 (Nat.le_of_ble_eq_true rfl)) rfl (fun z1479 e1480 => ?_)
                have B1481 : sf_B (-2147483648) (-1) z1479 := lf_cmpLt e1480 B342 (⟨by decide, by decide⟩ : lf_B 1935767923 1935767923 1935767923) (by decide)
                refine pm_R_ifc pm_M189 (t := 226) (pc' := 213) (pm_q189_1 (Nat.le_of_ble_eq_true rfl)) rfl rfl (fun c1482 => ?_) (fun c1482 => absurd (Classical.not_not.mp c1482) (sf_neq2 B1481 sf_k0 (by decide)))
                have k1483 := sf_lneC e1480 c1482
                refine pm_R_lo pm_M189 (pc' := 227) (pm_q189_2 (Nat.le_of_ble_eq_true rfl)) rfl rfl ?_
                refine pm_R_op pm_M189 (pc' := 228) (st' := [.int 1, .ref 41]) (pm_q189_2 (Nat.le_of_ble_eq_true rfl)) rfl rfl ?_
                refine pm_R_op pm_M189 (pc' := 229) (st' := [.int 2, .int 1, .ref 41]) (pm_q189_2 (Nat.le_of_ble_eq_true rfl)) rfl rfl ?_
                refine pm_R_op pm_M189 (pc' := 230) (st' := [.int 3, .int 2, .int 1, .ref 41]) (pm_q189_2 (Nat.le_of_ble_eq_true rfl)) rfl rfl ?_
                refine pm_R_op pm_M189 (pc' := 232) (st' := [.int 50, .int 3, .int 2, .int 1, .ref 41]) (pm_q189_2 (Nat.le_of_ble_eq_true rfl)) rfl rfl ?_
                refine pm_R_op pm_M189 (pc' := 233) (st' := [.int 0, .int 50, .int 3, .int 2, .int 1, .ref 41]) (pm_q189_2 (Nat.le_of_ble_eq_true rfl)) rfl rfl ?_
                refine pm_R_cv pm_M189 (pc' := 236) (a := 41) (ra := [.int 0, .int 50, .int 3, .int 2, .int 1]) (rest := []) (ls' := [.ref 41, .int 1, .int 2, .int 3, .int 50, .int 0, pm_no, pm_no]) (pm_q189_2 (Nat.le_of_ble_eq_true rfl)) rfl (Or.inl rfl) pm_M185 T1465.2.1 rfl (by decide) (Nat.lt_of_lt_of_le (by decide) T1465.1) rfl rfl (Nat.le_of_ble_eq_true rfl) rfl rfl ?_
                have e1484 := (F1466.cell (by decide) (F1407.cell (by decide) (F1373.cell (by decide) (F431.cell (by decide) (F400.cell (by decide) (F392.cell (by decide) (F387.cell (by decide) (F382.cell (by decide) (F377.cell (by decide) (F357.cell (by decide) e3))))))))))
                refine rf_c185_d (d := d + 3) T1465 (⟨f2, e1484, ct4, fun z => (sf_pos B1472 (by decide) z)⟩) (fun z => sf_pos B1472 (by decide) z) (fun m1487 w1488 h1489 T1490 F1491 W1492 X1493 => ?_)
                have F1494 := F1469.trans F1491 (by decide)
                have B1495 : sf_B 0 600 (m1487 10) := by rw [W1492 10 (by decide)]; exact B1470
                have ek1496 : (m1487 10).toInt = ((m1403 10)).toInt := by rw [W1492 10 (by decide)]; exact ek1471
                have B1497 : sf_B 1 4 (m1487 17) := by rw [W1492 17 (by decide)]; exact B1472
                have ek1498 : (m1487 17).toInt = ((m1374 17)).toInt := by rw [W1492 17 (by decide)]; exact ek1473
                have B1499 : sf_B 0 0 (m1487 22) := by rw [W1492 22 (by decide)]; exact B1474
                have ek1500 : (m1487 22).toInt = ((m1374 22)).toInt := by rw [W1492 22 (by decide)]; exact ek1475
                have B1501 : sf_B 0 99 (m1487 21) := by rw [W1492 21 (by decide)]; exact B1476
                have ek1502 : (m1487 21).toInt = ((m1403 21)).toInt := by rw [W1492 21 (by decide)]; exact ek1477
                have W1503 : rf_W [10, 12, 13, 14, 16, 17, 18, 21, 22] m m1487 := W1478.trans W1492 (by decide)
                show pm_R _ 189 236 [.ref 41, .long a0, pm_no, .int a1, pm_no] [] _ _
                obtain ⟨f1504, e1505, ct1506, bd1507⟩ := X1493
                refine pm_R_op pm_M189 (pc' := 237) (st' := [.int 1]) (pm_q189_2 (Nat.le_of_ble_eq_true rfl)) rfl rfl ?_
                exact pm_R_ret pm_M189 (r := some (.int 1)) (pm_q189_2 (Nat.le_of_ble_eq_true rfl)) rfl (K1 m1487 w1488 h1489 T1490 F1494 W1503 (⟨f1504, e1505, ct1506, fun z => (sf_pos B1497 (by decide) z)⟩) (sf_aux39 _ _ _ ek1496 R1457))
              · have B1508 : sf_B 0 4 (m1403 21) := sf_ltL (Int32.not_le.mp c1463) B1451 B1459
                have B1509 : sf_B 1 5 v1458 := sf_ltR (Int32.not_le.mp c1463) B1451 B1459
                refine pm_R_lo pm_M191 (pc' := 27) rfl rfl rfl ?_
                refine rf_R_get pm_M191 T1406 (pc' := 30) (v := .ref 52) rfl rfl rfl rfl ?_
                refine pm_R_lo pm_M191 (pc' := 31) rfl rfl rfl ?_
                refine pm_R_iald pm_M191 (pc' := 32) (v := v1458) rfl e1460 (Nat.lt_of_lt_of_le (by decide) T1406.1) rfl sf_upd_eq rfl ?_
                refine pm_R_br pm_M191 (pc' := 39) rfl rfl ?_
                refine rf_R_put pm_M191 T1406 (pc' := 42) rfl rfl rfl (by decide) rfl rfl (sf_weak B1509 (by decide) (by decide)) rfl rfl (fun h1512 m1515 em1516 T1513 F1514 => ?_)
                have F1517 := F1450.trans F1514 (by decide)
                have B1518 : sf_B 0 600 (m1515 10) := by rw [em1516]; exact B1454
                have ek1519 : (m1515 10).toInt = ((m1403 10)).toInt := by rw [em1516]; rfl
                have B1520 : sf_B 1 4 (m1515 17) := by rw [em1516]; exact (sf_eqT X1410 B1379)
                have ek1521 : (m1515 17).toInt = ((m1374 17)).toInt := by rw [em1516]; exact X1410
                have B1522 : sf_B 0 0 (m1515 22) := by rw [em1516]; exact (sf_eqT X1411 B1381)
                have ek1523 : (m1515 22).toInt = ((m1374 22)).toInt := by rw [em1516]; exact X1411
                have B1524 : sf_B 1 5 (m1515 21) := by rw [em1516]; exact B1509
                have ek1525 : (m1515 21).toInt = (v1458).toInt := by rw [em1516]; rfl
                have W1526 : rf_W [10, 12, 13, 14, 16, 17, 18, 21, 22] m m1515 := by rw [em1516]; exact W1453.put (by decide)
                refine pm_R_lo pm_M191 (pc' := 43) rfl rfl rfl ?_
                refine pm_R_ret pm_M191 (r := some (.int 1)) rfl rfl ?_
                show pm_R _ 189 202 [.ref 41, .long a0, pm_no, .int a1, pm_no] [.int 1] _ _
                refine pm_R_br pm_M189 (pc' := 205) (st' := []) (pm_q189_1 (Nat.le_of_ble_eq_true rfl)) rfl ?_
                refine pm_R_lo pm_M189 (pc' := 206) (pm_q189_1 (Nat.le_of_ble_eq_true rfl)) rfl rfl ?_
                refine pm_R_ldc2 pm_M189 (pc' := 209) (pm_q189_1 (Nat.le_of_ble_eq_true rfl)) rfl rfl ?_
                refine sf_R_lcmp pm_M189 (pc' := 210) (pm_q189_1 (Nat.le_of_ble_eq_true rfl)) rfl (fun z1527 e1528 => ?_)
                have B1529 : sf_B (-2147483648) (-1) z1527 := lf_cmpLt e1528 B342 (⟨by decide, by decide⟩ : lf_B 1935767923 1935767923 1935767923) (by decide)
                refine pm_R_ifc pm_M189 (t := 226) (pc' := 213) (pm_q189_1 (Nat.le_of_ble_eq_true rfl)) rfl rfl (fun c1530 => ?_) (fun c1530 => absurd (Classical.not_not.mp c1530) (sf_neq2 B1529 sf_k0 (by decide)))
                have k1531 := sf_lneC e1528 c1530
                refine pm_R_lo pm_M189 (pc' := 227) (pm_q189_2 (Nat.le_of_ble_eq_true rfl)) rfl rfl ?_
                refine pm_R_op pm_M189 (pc' := 228) (st' := [.int 1, .ref 41]) (pm_q189_2 (Nat.le_of_ble_eq_true rfl)) rfl rfl ?_
                refine pm_R_op pm_M189 (pc' := 229) (st' := [.int 2, .int 1, .ref 41]) (pm_q189_2 (Nat.le_of_ble_eq_true rfl)) rfl rfl ?_
                refine pm_R_op pm_M189 (pc' := 230) (st' := [.int 3, .int 2, .int 1, .ref 41]) (pm_q189_2 (Nat.le_of_ble_eq_true rfl)) rfl rfl ?_
                refine pm_R_op pm_M189 (pc' := 232) (st' := [.int 50, .int 3, .int 2, .int 1, .ref 41]) (pm_q189_2 (Nat.le_of_ble_eq_true rfl)) rfl rfl ?_
                refine pm_R_op pm_M189 (pc' := 233) (st' := [.int 0, .int 50, .int 3, .int 2, .int 1, .ref 41]) (pm_q189_2 (Nat.le_of_ble_eq_true rfl)) rfl rfl ?_
                refine pm_R_cv pm_M189 (pc' := 236) (a := 41) (ra := [.int 0, .int 50, .int 3, .int 2, .int 1]) (rest := []) (ls' := [.ref 41, .int 1, .int 2, .int 3, .int 50, .int 0, pm_no, pm_no]) (pm_q189_2 (Nat.le_of_ble_eq_true rfl)) rfl (Or.inl rfl) pm_M185 T1513.2.1 rfl (by decide) (Nat.lt_of_lt_of_le (by decide) T1513.1) rfl rfl (Nat.le_of_ble_eq_true rfl) rfl rfl ?_
                have e1532 := (F1514.cell (by decide) (F1407.cell (by decide) (F1373.cell (by decide) (F431.cell (by decide) (F400.cell (by decide) (F392.cell (by decide) (F387.cell (by decide) (F382.cell (by decide) (F377.cell (by decide) (F357.cell (by decide) e3))))))))))
                refine rf_c185_d (d := d + 3) T1513 (⟨f2, e1532, ct4, fun z => (sf_pos B1520 (by decide) z)⟩) (fun z => sf_pos B1520 (by decide) z) (fun m1535 w1536 h1537 T1538 F1539 W1540 X1541 => ?_)
                have F1542 := F1517.trans F1539 (by decide)
                have B1543 : sf_B 0 600 (m1535 10) := by rw [W1540 10 (by decide)]; exact B1518
                have ek1544 : (m1535 10).toInt = ((m1403 10)).toInt := by rw [W1540 10 (by decide)]; exact ek1519
                have B1545 : sf_B 1 4 (m1535 17) := by rw [W1540 17 (by decide)]; exact B1520
                have ek1546 : (m1535 17).toInt = ((m1374 17)).toInt := by rw [W1540 17 (by decide)]; exact ek1521
                have B1547 : sf_B 0 0 (m1535 22) := by rw [W1540 22 (by decide)]; exact B1522
                have ek1548 : (m1535 22).toInt = ((m1374 22)).toInt := by rw [W1540 22 (by decide)]; exact ek1523
                have B1549 : sf_B 1 5 (m1535 21) := by rw [W1540 21 (by decide)]; exact B1524
                have ek1550 : (m1535 21).toInt = (v1458).toInt := by rw [W1540 21 (by decide)]; exact ek1525
                have W1551 : rf_W [10, 12, 13, 14, 16, 17, 18, 21, 22] m m1535 := W1526.trans W1540 (by decide)
                show pm_R _ 189 236 [.ref 41, .long a0, pm_no, .int a1, pm_no] [] _ _
                obtain ⟨f1552, e1553, ct1554, bd1555⟩ := X1541
                refine pm_R_op pm_M189 (pc' := 237) (st' := [.int 1]) (pm_q189_2 (Nat.le_of_ble_eq_true rfl)) rfl rfl ?_
                exact pm_R_ret pm_M189 (r := some (.int 1)) (pm_q189_2 (Nat.le_of_ble_eq_true rfl)) rfl (K1 m1535 w1536 h1537 T1538 F1542 W1551 (⟨f1552, e1553, ct1554, fun z => (sf_pos B1545 (by decide) z)⟩) (sf_aux39 _ _ _ ek1544 R1457))
            · have F1556 := F1376.trans F1420 (by decide)
              have B1557 : sf_B 0 99 (m1416 21) := by rw [W1421 21 (by decide)]; exact B1383
              have ek1558 : (m1416 21).toInt = (v1069).toInt := by rw [W1421 21 (by decide)]; exact ek1384
              have W1559 : rf_W [10, 12, 13, 14, 16, 17, 18, 21, 22] m m1416 := W1385.trans W1421 (by decide)
              have B1560 : sf_B 0 600 (m1416 10) := T1419.2.2.1 10
              have B1561 : sf_B 0 4 (m1416 17) := T1419.2.2.1 17
              have B1562 : sf_B 0 1 (m1416 22) := T1419.2.2.1 22
              show pm_R _ 191 7 [.ref 41, .int 2, .int v1069, pm_no] [.int 1] _ _
              have R1563 : (m 10).toInt ≤ (m1416 10).toInt := (sf_aux77 _ _ _ _ ek1378 R1068 X1424)
              obtain ⟨v1564, B1565, e1566⟩ := X1422 _ e1389
              refine pm_R_lo pm_M191 (pc' := 8) (ls' := [.ref 41, .int 2, .int v1069, .int 1]) (st' := []) rfl rfl rfl ?_
              refine pm_R_lo pm_M191 (pc' := 9) rfl rfl rfl ?_
              refine pm_R_lo pm_M191 (pc' := 10) rfl rfl rfl ?_
              refine pm_R_br pm_M191 (pc' := 13) (st' := [.ref 41]) rfl rfl ?_
              refine pm_R_lo pm_M191 (pc' := 14) rfl rfl rfl ?_
              refine rf_R_get pm_M191 T1419 (pc' := 17) (v := .ref 52) rfl rfl rfl rfl ?_
              refine pm_R_lo pm_M191 (pc' := 18) rfl rfl rfl ?_
              refine pm_R_iald pm_M191 (pc' := 19) (v := v1564) rfl e1566 (Nat.lt_of_lt_of_le (by decide) T1419.1) rfl sf_upd_eq rfl ?_
              refine pm_R_lo pm_M191 (pc' := 20) rfl rfl rfl ?_
              refine rf_R_get pm_M191 T1419 (pc' := 23) (v := .int (m1416 21)) rfl rfl rfl rfl ?_
              refine pm_R_icmp pm_M191 (t := 35) (pc' := 26) rfl rfl rfl (fun c1569 => ?_) (fun c1569 => ?_)
              · skip
                refine pm_R_lo pm_M191 (pc' := 36) rfl rfl rfl ?_
                refine rf_R_get pm_M191 T1419 (pc' := 39) (v := .int (m1416 21)) rfl rfl rfl rfl ?_
                refine rf_R_put pm_M191 T1419 (pc' := 42) rfl rfl rfl (by decide) rfl rfl (sf_weak B1557 (by decide) (by decide)) rfl rfl (fun h1570 m1573 em1574 T1571 F1572 => ?_)
                have F1575 := F1556.trans F1572 (by decide)
                have B1576 : sf_B 0 600 (m1573 10) := by rw [em1574]; exact B1560
                have ek1577 : (m1573 10).toInt = ((m1416 10)).toInt := by rw [em1574]; rfl
                have B1578 : sf_B 1 4 (m1573 17) := by rw [em1574]; exact B1425
                have ek1579 : (m1573 17).toInt = ((m1416 17)).toInt := by rw [em1574]; rfl
                have B1580 : sf_B 0 0 (m1573 22) := by rw [em1574]; exact B1426
                have ek1581 : (m1573 22).toInt = ((m1416 22)).toInt := by rw [em1574]; rfl
                have B1582 : sf_B 0 99 (m1573 21) := by rw [em1574]; exact B1557
                have ek1583 : (m1573 21).toInt = ((m1416 21)).toInt := by rw [em1574]; rfl
                have W1584 : rf_W [10, 12, 13, 14, 16, 17, 18, 21, 22] m m1573 := by rw [em1574]; exact W1559.put (by decide)
                refine pm_R_lo pm_M191 (pc' := 43) rfl rfl rfl ?_
                refine pm_R_ret pm_M191 (r := some (.int 1)) rfl rfl ?_
                show pm_R _ 189 202 [.ref 41, .long a0, pm_no, .int a1, pm_no] [.int 1] _ _
                refine pm_R_br pm_M189 (pc' := 205) (st' := []) (pm_q189_1 (Nat.le_of_ble_eq_true rfl)) rfl ?_
                refine pm_R_lo pm_M189 (pc' := 206) (pm_q189_1 (Nat.le_of_ble_eq_true rfl)) rfl rfl ?_
                refine pm_R_ldc2 pm_M189 (pc' := 209) (pm_q189_1 (Nat.le_of_ble_eq_true rfl)) rfl rfl ?_
                refine sf_R_lcmp pm_M189 (pc' := 210) (pm_q189_1 (Nat.le_of_ble_eq_true rfl)) rfl (fun z1585 e1586 => ?_)
                have B1587 : sf_B (-2147483648) (-1) z1585 := lf_cmpLt e1586 B342 (⟨by decide, by decide⟩ : lf_B 1935767923 1935767923 1935767923) (by decide)
                refine pm_R_ifc pm_M189 (t := 226) (pc' := 213) (pm_q189_1 (Nat.le_of_ble_eq_true rfl)) rfl rfl (fun c1588 => ?_) (fun c1588 => absurd (Classical.not_not.mp c1588) (sf_neq2 B1587 sf_k0 (by decide)))
                have k1589 := sf_lneC e1586 c1588
                refine pm_R_lo pm_M189 (pc' := 227) (pm_q189_2 (Nat.le_of_ble_eq_true rfl)) rfl rfl ?_
                refine pm_R_op pm_M189 (pc' := 228) (st' := [.int 1, .ref 41]) (pm_q189_2 (Nat.le_of_ble_eq_true rfl)) rfl rfl ?_
                refine pm_R_op pm_M189 (pc' := 229) (st' := [.int 2, .int 1, .ref 41]) (pm_q189_2 (Nat.le_of_ble_eq_true rfl)) rfl rfl ?_
                refine pm_R_op pm_M189 (pc' := 230) (st' := [.int 3, .int 2, .int 1, .ref 41]) (pm_q189_2 (Nat.le_of_ble_eq_true rfl)) rfl rfl ?_
                refine pm_R_op pm_M189 (pc' := 232) (st' := [.int 50, .int 3, .int 2, .int 1, .ref 41]) (pm_q189_2 (Nat.le_of_ble_eq_true rfl)) rfl rfl ?_
                refine pm_R_op pm_M189 (pc' := 233) (st' := [.int 0, .int 50, .int 3, .int 2, .int 1, .ref 41]) (pm_q189_2 (Nat.le_of_ble_eq_true rfl)) rfl rfl ?_
                refine pm_R_cv pm_M189 (pc' := 236) (a := 41) (ra := [.int 0, .int 50, .int 3, .int 2, .int 1]) (rest := []) (ls' := [.ref 41, .int 1, .int 2, .int 3, .int 50, .int 0, pm_no, pm_no]) (pm_q189_2 (Nat.le_of_ble_eq_true rfl)) rfl (Or.inl rfl) pm_M185 T1571.2.1 rfl (by decide) (Nat.lt_of_lt_of_le (by decide) T1571.1) rfl rfl (Nat.le_of_ble_eq_true rfl) rfl rfl ?_
                have e1590 := (F1572.cell (by decide) (F1420.cell (by decide) (F1373.cell (by decide) (F431.cell (by decide) (F400.cell (by decide) (F392.cell (by decide) (F387.cell (by decide) (F382.cell (by decide) (F377.cell (by decide) (F357.cell (by decide) e3))))))))))
                refine rf_c185_d (d := d + 3) T1571 (⟨f2, e1590, ct4, fun z => (sf_pos B1578 (by decide) z)⟩) (fun z => sf_pos B1578 (by decide) z) (fun m1593 w1594 h1595 T1596 F1597 W1598 X1599 => ?_)
                have F1600 := F1575.trans F1597 (by decide)
                have B1601 : sf_B 0 600 (m1593 10) := by rw [W1598 10 (by decide)]; exact B1576
                have ek1602 : (m1593 10).toInt = ((m1416 10)).toInt := by rw [W1598 10 (by decide)]; exact ek1577
                have B1603 : sf_B 1 4 (m1593 17) := by rw [W1598 17 (by decide)]; exact B1578
                have ek1604 : (m1593 17).toInt = ((m1416 17)).toInt := by rw [W1598 17 (by decide)]; exact ek1579
                have B1605 : sf_B 0 0 (m1593 22) := by rw [W1598 22 (by decide)]; exact B1580
                have ek1606 : (m1593 22).toInt = ((m1416 22)).toInt := by rw [W1598 22 (by decide)]; exact ek1581
                have B1607 : sf_B 0 99 (m1593 21) := by rw [W1598 21 (by decide)]; exact B1582
                have ek1608 : (m1593 21).toInt = ((m1416 21)).toInt := by rw [W1598 21 (by decide)]; exact ek1583
                have W1609 : rf_W [10, 12, 13, 14, 16, 17, 18, 21, 22] m m1593 := W1584.trans W1598 (by decide)
                show pm_R _ 189 236 [.ref 41, .long a0, pm_no, .int a1, pm_no] [] _ _
                obtain ⟨f1610, e1611, ct1612, bd1613⟩ := X1599
                refine pm_R_op pm_M189 (pc' := 237) (st' := [.int 1]) (pm_q189_2 (Nat.le_of_ble_eq_true rfl)) rfl rfl ?_
                exact pm_R_ret pm_M189 (r := some (.int 1)) (pm_q189_2 (Nat.le_of_ble_eq_true rfl)) rfl (K1 m1593 w1594 h1595 T1596 F1600 W1609 (⟨f1610, e1611, ct1612, fun z => (sf_pos B1603 (by decide) z)⟩) (sf_aux39 _ _ _ ek1602 R1563))
              · have B1614 : sf_B 0 98 (m1416 21) := sf_ltL (Int32.not_le.mp c1569) B1557 B1565
                have B1615 : sf_B 1 99 v1564 := sf_ltR (Int32.not_le.mp c1569) B1557 B1565
                refine pm_R_lo pm_M191 (pc' := 27) rfl rfl rfl ?_
                refine rf_R_get pm_M191 T1419 (pc' := 30) (v := .ref 52) rfl rfl rfl rfl ?_
                refine pm_R_lo pm_M191 (pc' := 31) rfl rfl rfl ?_
                refine pm_R_iald pm_M191 (pc' := 32) (v := v1564) rfl e1566 (Nat.lt_of_lt_of_le (by decide) T1419.1) rfl sf_upd_eq rfl ?_
                refine pm_R_br pm_M191 (pc' := 39) rfl rfl ?_
                refine rf_R_put pm_M191 T1419 (pc' := 42) rfl rfl rfl (by decide) rfl rfl (sf_weak B1615 (by decide) (by decide)) rfl rfl (fun h1618 m1621 em1622 T1619 F1620 => ?_)
                have F1623 := F1556.trans F1620 (by decide)
                have B1624 : sf_B 0 600 (m1621 10) := by rw [em1622]; exact B1560
                have ek1625 : (m1621 10).toInt = ((m1416 10)).toInt := by rw [em1622]; rfl
                have B1626 : sf_B 1 4 (m1621 17) := by rw [em1622]; exact B1425
                have ek1627 : (m1621 17).toInt = ((m1416 17)).toInt := by rw [em1622]; rfl
                have B1628 : sf_B 0 0 (m1621 22) := by rw [em1622]; exact B1426
                have ek1629 : (m1621 22).toInt = ((m1416 22)).toInt := by rw [em1622]; rfl
                have B1630 : sf_B 1 99 (m1621 21) := by rw [em1622]; exact B1615
                have ek1631 : (m1621 21).toInt = (v1564).toInt := by rw [em1622]; rfl
                have W1632 : rf_W [10, 12, 13, 14, 16, 17, 18, 21, 22] m m1621 := by rw [em1622]; exact W1559.put (by decide)
                refine pm_R_lo pm_M191 (pc' := 43) rfl rfl rfl ?_
                refine pm_R_ret pm_M191 (r := some (.int 1)) rfl rfl ?_
                show pm_R _ 189 202 [.ref 41, .long a0, pm_no, .int a1, pm_no] [.int 1] _ _
                refine pm_R_br pm_M189 (pc' := 205) (st' := []) (pm_q189_1 (Nat.le_of_ble_eq_true rfl)) rfl ?_
                refine pm_R_lo pm_M189 (pc' := 206) (pm_q189_1 (Nat.le_of_ble_eq_true rfl)) rfl rfl ?_
                refine pm_R_ldc2 pm_M189 (pc' := 209) (pm_q189_1 (Nat.le_of_ble_eq_true rfl)) rfl rfl ?_
                refine sf_R_lcmp pm_M189 (pc' := 210) (pm_q189_1 (Nat.le_of_ble_eq_true rfl)) rfl (fun z1633 e1634 => ?_)
                have B1635 : sf_B (-2147483648) (-1) z1633 := lf_cmpLt e1634 B342 (⟨by decide, by decide⟩ : lf_B 1935767923 1935767923 1935767923) (by decide)
                refine pm_R_ifc pm_M189 (t := 226) (pc' := 213) (pm_q189_1 (Nat.le_of_ble_eq_true rfl)) rfl rfl (fun c1636 => ?_) (fun c1636 => absurd (Classical.not_not.mp c1636) (sf_neq2 B1635 sf_k0 (by decide)))
                have k1637 := sf_lneC e1634 c1636
                refine pm_R_lo pm_M189 (pc' := 227) (pm_q189_2 (Nat.le_of_ble_eq_true rfl)) rfl rfl ?_
                refine pm_R_op pm_M189 (pc' := 228) (st' := [.int 1, .ref 41]) (pm_q189_2 (Nat.le_of_ble_eq_true rfl)) rfl rfl ?_
                refine pm_R_op pm_M189 (pc' := 229) (st' := [.int 2, .int 1, .ref 41]) (pm_q189_2 (Nat.le_of_ble_eq_true rfl)) rfl rfl ?_
                refine pm_R_op pm_M189 (pc' := 230) (st' := [.int 3, .int 2, .int 1, .ref 41]) (pm_q189_2 (Nat.le_of_ble_eq_true rfl)) rfl rfl ?_
                refine pm_R_op pm_M189 (pc' := 232) (st' := [.int 50, .int 3, .int 2, .int 1, .ref 41]) (pm_q189_2 (Nat.le_of_ble_eq_true rfl)) rfl rfl ?_
                refine pm_R_op pm_M189 (pc' := 233) (st' := [.int 0, .int 50, .int 3, .int 2, .int 1, .ref 41]) (pm_q189_2 (Nat.le_of_ble_eq_true rfl)) rfl rfl ?_
                refine pm_R_cv pm_M189 (pc' := 236) (a := 41) (ra := [.int 0, .int 50, .int 3, .int 2, .int 1]) (rest := []) (ls' := [.ref 41, .int 1, .int 2, .int 3, .int 50, .int 0, pm_no, pm_no]) (pm_q189_2 (Nat.le_of_ble_eq_true rfl)) rfl (Or.inl rfl) pm_M185 T1619.2.1 rfl (by decide) (Nat.lt_of_lt_of_le (by decide) T1619.1) rfl rfl (Nat.le_of_ble_eq_true rfl) rfl rfl ?_
                have e1638 := (F1620.cell (by decide) (F1420.cell (by decide) (F1373.cell (by decide) (F431.cell (by decide) (F400.cell (by decide) (F392.cell (by decide) (F387.cell (by decide) (F382.cell (by decide) (F377.cell (by decide) (F357.cell (by decide) e3))))))))))
                refine rf_c185_d (d := d + 3) T1619 (⟨f2, e1638, ct4, fun z => (sf_pos B1626 (by decide) z)⟩) (fun z => sf_pos B1626 (by decide) z) (fun m1641 w1642 h1643 T1644 F1645 W1646 X1647 => ?_)
                have F1648 := F1623.trans F1645 (by decide)
                have B1649 : sf_B 0 600 (m1641 10) := by rw [W1646 10 (by decide)]; exact B1624
                have ek1650 : (m1641 10).toInt = ((m1416 10)).toInt := by rw [W1646 10 (by decide)]; exact ek1625
                have B1651 : sf_B 1 4 (m1641 17) := by rw [W1646 17 (by decide)]; exact B1626
                have ek1652 : (m1641 17).toInt = ((m1416 17)).toInt := by rw [W1646 17 (by decide)]; exact ek1627
                have B1653 : sf_B 0 0 (m1641 22) := by rw [W1646 22 (by decide)]; exact B1628
                have ek1654 : (m1641 22).toInt = ((m1416 22)).toInt := by rw [W1646 22 (by decide)]; exact ek1629
                have B1655 : sf_B 1 99 (m1641 21) := by rw [W1646 21 (by decide)]; exact B1630
                have ek1656 : (m1641 21).toInt = (v1564).toInt := by rw [W1646 21 (by decide)]; exact ek1631
                have W1657 : rf_W [10, 12, 13, 14, 16, 17, 18, 21, 22] m m1641 := W1632.trans W1646 (by decide)
                show pm_R _ 189 236 [.ref 41, .long a0, pm_no, .int a1, pm_no] [] _ _
                obtain ⟨f1658, e1659, ct1660, bd1661⟩ := X1647
                refine pm_R_op pm_M189 (pc' := 237) (st' := [.int 1]) (pm_q189_2 (Nat.le_of_ble_eq_true rfl)) rfl rfl ?_
                exact pm_R_ret pm_M189 (r := some (.int 1)) (pm_q189_2 (Nat.le_of_ble_eq_true rfl)) rfl (K1 m1641 w1642 h1643 T1644 F1648 W1657 (⟨f1658, e1659, ct1660, fun z => (sf_pos B1651 (by decide) z)⟩) (sf_aux39 _ _ _ ek1650 R1563))
      · have B1662 : sf_B 50 50 (f2 1) := sf_eqL (Classical.not_not.mp c349) sf_k50
        refine pm_R_lo pm_M189 (pc' := 57) rfl rfl rfl ?_
        refine pm_R_op pm_M189 (pc' := 58) (st' := [.int 3, .ref 41]) rfl rfl rfl ?_
        refine pm_R_lo pm_M189 (pc' := 59) rfl rfl rfl ?_
        refine pm_R_cv pm_M189 (pc' := 62) (a := 41) (ra := [.int a1, .int 3]) (rest := []) (ls' := [.ref 41, .int 3, .int a1]) rfl rfl (Or.inl rfl) pm_M182 T.2.1 rfl (by decide) (Nat.lt_of_lt_of_le (by decide) T.1) rfl rfl (Nat.le_of_ble_eq_true rfl) rfl rfl ?_
        refine rf_c182 (d := d + 3) T (sf_weak sf_k3 (by decide) (by decide)) Ba1 (fun m1665 w1666 h1667 T1668 F1669 W1670 B1671 => ?_)
        have F1672 := (rf_G.refl [41, 51, 52] h).trans F1669 (by decide)
        have B1673 : sf_B 0 600 (m1665 10) := by rw [W1670 10 (by decide)]; exact B1
        have ek1674 : (m1665 10).toInt = ((m 10)).toInt := by rw [W1670 10 (by decide)]
        have W1675 : rf_W [10, 12, 13, 14, 16, 17, 18, 21, 22] m m1665 := (rf_W.refl [10, 12, 13, 14, 16, 17, 18, 21, 22] m).trans W1670 (by decide)
        have B1676 : sf_B 0 4 (m1665 17) := T1668.2.2.1 17
        have B1677 : sf_B 0 1 (m1665 22) := T1668.2.2.1 22
        show pm_R _ 189 62 [.ref 41, .long a0, pm_no, .int a1, pm_no] [] _ _
        refine pm_R_lo pm_M189 (pc' := 63) rfl rfl rfl ?_
        refine pm_R_cv pm_M189 (pc' := 66) (a := 41) (ra := []) (rest := []) (ls' := [.ref 41, pm_no, pm_no]) rfl rfl (Or.inl rfl) pm_M179 T1668.2.1 rfl (by decide) (Nat.lt_of_lt_of_le (by decide) T1668.1) rfl rfl (Nat.le_of_ble_eq_true rfl) rfl rfl ?_
        refine rf_c179 (d := d + 2) T1668  (fun m1680 w1681 h1682 T1683 F1684 W1685 X1686 X1687 => ?_)
        have F1688 := F1672.trans F1684 (by decide)
        have B1689 : sf_B 1 4 (m1680 17) := by rw [W1685 17 (by decide)]; exact B1671
        have ek1690 : (m1680 17).toInt = ((m1665 17)).toInt := by rw [W1685 17 (by decide)]
        have B1691 : sf_B 0 1 (m1680 22) := by rw [W1685 22 (by decide)]; exact B1677
        have ek1692 : (m1680 22).toInt = ((m1665 22)).toInt := by rw [W1685 22 (by decide)]
        have W1693 : rf_W [10, 12, 13, 14, 16, 17, 18, 21, 22] m m1680 := W1675.trans W1685 (by decide)
        have B1694 : sf_B 0 600 (m1680 10) := T1683.2.2.1 10
        show pm_R _ 189 66 [.ref 41, .long a0, pm_no, .int a1, pm_no] [] _ _
        have R1695 : (m 10).toInt ≤ (m1680 10).toInt := (sf_aux53 _ _ _ ek1674 X1686)
        refine pm_R_lo pm_M189 (pc' := 67) rfl rfl rfl ?_
        refine pm_R_ldc2 pm_M189 (pc' := 70) rfl rfl rfl ?_
        refine pm_R_op pm_M189 (pc' := 71) (st' := [.int z7]) rfl (by show some (Value.int (lg_cmp a0 495622124659) :: _) = _; rw [← e8]) rfl ?_
        refine pm_R_ifc pm_M189 (t := 137) (pc' := 74) rfl rfl rfl (fun c1698 => ?_) (fun c1698 => absurd (Classical.not_not.mp c1698) c9)
        have k1699 := sf_lneC e8 c1698
        refine pm_R_lo pm_M189 (pc' := 138) (pm_q189_1 (Nat.le_of_ble_eq_true rfl)) rfl rfl ?_
        refine pm_R_cv pm_M189 (pc' := 141) (a := 41) (ra := []) (rest := []) (ls' := [.ref 41, pm_no]) (pm_q189_1 (Nat.le_of_ble_eq_true rfl)) rfl (Or.inl rfl) pm_M190 T1683.2.1 rfl (by decide) (Nat.lt_of_lt_of_le (by decide) T1683.1) rfl rfl (Nat.le_of_ble_eq_true rfl) rfl rfl ?_
        refine pm_R_op pm_M190 (pc' := 1) (st' := [.int 0]) rfl rfl rfl ?_
        refine pm_R_lo pm_M190 (pc' := 2) (ls' := [.ref 41, .int 0]) (st' := []) rfl rfl rfl ?_
        refine pm_R_lo pm_M190 (pc' := 3) rfl rfl rfl ?_
        refine pm_R_op pm_M190 (pc' := 4) (st' := [.int 4, .int 0]) rfl rfl rfl ?_
        refine pm_R_br pm_M190 (pc' := 7) (st' := []) rfl rfl ?_
        refine pm_R_lo pm_M190 (pc' := 8) rfl rfl rfl ?_
        refine rf_R_get pm_M190 T1683 (pc' := 11) (v := .ref 52) rfl rfl rfl rfl ?_
        refine pm_R_lo pm_M190 (pc' := 12) rfl rfl rfl ?_
        refine pm_R_op pm_M190 (pc' := 13) (st' := [.int (-1), .int 0, .ref 52]) rfl rfl rfl ?_
        obtain ⟨f1700, e1701, b1702⟩ := T1683.2.2.2.1 52 (by decide) (by decide)
        refine rf_R_ist pm_M190 T1683 (pc' := 14) rfl e1701 (by decide) (by decide) rfl ⟨_, rfl, sf_upd b1702 (sf_weak sf_kn1 (by decide) (by decide)) _⟩ rfl (fun h1703 T1704 F1705 e1706 => ?_)
        have F1707 := F1688.trans F1705 (by decide)
        refine pm_R_lo pm_M190 (pc' := 17) (ls' := [.ref 41, .int 1]) (st' := []) rfl rfl rfl ?_
        refine pm_R_br pm_M190 (pc' := 2) rfl rfl ?_
        refine pm_R_lo pm_M190 (pc' := 3) rfl rfl rfl ?_
        refine pm_R_op pm_M190 (pc' := 4) (st' := [.int 4, .int 1]) rfl rfl rfl ?_
        refine pm_R_br pm_M190 (pc' := 7) (st' := []) rfl rfl ?_
        refine pm_R_lo pm_M190 (pc' := 8) rfl rfl rfl ?_
        refine rf_R_get pm_M190 T1704 (pc' := 11) (v := .ref 52) rfl rfl rfl rfl ?_
        refine pm_R_lo pm_M190 (pc' := 12) rfl rfl rfl ?_
        refine pm_R_op pm_M190 (pc' := 13) (st' := [.int (-1), .int 1, .ref 52]) rfl rfl rfl ?_
        refine rf_R_ist pm_M190 T1704 (pc' := 14) rfl e1706 (by decide) (by decide) rfl ⟨_, rfl, sf_upd (sf_upd b1702 (sf_weak sf_kn1 (by decide) (by decide)) _) (sf_weak sf_kn1 (by decide) (by decide)) _⟩ rfl (fun h1708 T1709 F1710 e1711 => ?_)
        have F1712 := F1707.trans F1710 (by decide)
        refine pm_R_lo pm_M190 (pc' := 17) (ls' := [.ref 41, .int 2]) (st' := []) rfl rfl rfl ?_
        refine pm_R_br pm_M190 (pc' := 2) rfl rfl ?_
        refine pm_R_lo pm_M190 (pc' := 3) rfl rfl rfl ?_
        refine pm_R_op pm_M190 (pc' := 4) (st' := [.int 4, .int 2]) rfl rfl rfl ?_
        refine pm_R_br pm_M190 (pc' := 7) (st' := []) rfl rfl ?_
        refine pm_R_lo pm_M190 (pc' := 8) rfl rfl rfl ?_
        refine rf_R_get pm_M190 T1709 (pc' := 11) (v := .ref 52) rfl rfl rfl rfl ?_
        refine pm_R_lo pm_M190 (pc' := 12) rfl rfl rfl ?_
        refine pm_R_op pm_M190 (pc' := 13) (st' := [.int (-1), .int 2, .ref 52]) rfl rfl rfl ?_
        refine rf_R_ist pm_M190 T1709 (pc' := 14) rfl e1711 (by decide) (by decide) rfl ⟨_, rfl, sf_upd (sf_upd (sf_upd b1702 (sf_weak sf_kn1 (by decide) (by decide)) _) (sf_weak sf_kn1 (by decide) (by decide)) _) (sf_weak sf_kn1 (by decide) (by decide)) _⟩ rfl (fun h1713 T1714 F1715 e1716 => ?_)
        have F1717 := F1712.trans F1715 (by decide)
        refine pm_R_lo pm_M190 (pc' := 17) (ls' := [.ref 41, .int 3]) (st' := []) rfl rfl rfl ?_
        refine pm_R_br pm_M190 (pc' := 2) rfl rfl ?_
        refine pm_R_lo pm_M190 (pc' := 3) rfl rfl rfl ?_
        refine pm_R_op pm_M190 (pc' := 4) (st' := [.int 4, .int 3]) rfl rfl rfl ?_
        refine pm_R_br pm_M190 (pc' := 7) (st' := []) rfl rfl ?_
        refine pm_R_lo pm_M190 (pc' := 8) rfl rfl rfl ?_
        refine rf_R_get pm_M190 T1714 (pc' := 11) (v := .ref 52) rfl rfl rfl rfl ?_
        refine pm_R_lo pm_M190 (pc' := 12) rfl rfl rfl ?_
        refine pm_R_op pm_M190 (pc' := 13) (st' := [.int (-1), .int 3, .ref 52]) rfl rfl rfl ?_
        refine rf_R_ist pm_M190 T1714 (pc' := 14) rfl e1716 (by decide) (by decide) rfl ⟨_, rfl, sf_upd (sf_upd (sf_upd (sf_upd b1702 (sf_weak sf_kn1 (by decide) (by decide)) _) (sf_weak sf_kn1 (by decide) (by decide)) _) (sf_weak sf_kn1 (by decide) (by decide)) _) (sf_weak sf_kn1 (by decide) (by decide)) _⟩ rfl (fun h1718 T1719 F1720 e1721 => ?_)
        have F1722 := F1717.trans F1720 (by decide)
        refine pm_R_lo pm_M190 (pc' := 17) (ls' := [.ref 41, .int 4]) (st' := []) rfl rfl rfl ?_
        refine pm_R_br pm_M190 (pc' := 2) rfl rfl ?_
        refine pm_R_lo pm_M190 (pc' := 3) rfl rfl rfl ?_
        refine pm_R_op pm_M190 (pc' := 4) (st' := [.int 4, .int 4]) rfl rfl rfl ?_
        refine pm_R_br pm_M190 (pc' := 20) (st' := []) rfl rfl ?_
        refine pm_R_ret pm_M190 (r := none) rfl rfl ?_
        show pm_R _ 189 141 [.ref 41, .long a0, pm_no, .int a1, pm_no] [] _ _
        refine pm_R_lo pm_M189 (pc' := 142) (pm_q189_1 (Nat.le_of_ble_eq_true rfl)) rfl rfl ?_
        refine rf_R_get pm_M189 T1719 (pc' := 145) (v := .ref 52) (pm_q189_1 (Nat.le_of_ble_eq_true rfl)) rfl rfl rfl ?_
        refine pm_R_op pm_M189 (pc' := 146) (st' := [.int 0, .ref 52]) (pm_q189_1 (Nat.le_of_ble_eq_true rfl)) rfl rfl ?_
        refine pm_R_lo pm_M189 (pc' := 147) (pm_q189_1 (Nat.le_of_ble_eq_true rfl)) rfl rfl ?_
        refine pm_R_ldc2 pm_M189 (pc' := 150) (pm_q189_1 (Nat.le_of_ble_eq_true rfl)) rfl rfl ?_
        refine pm_R_op pm_M189 (pc' := 151) (st' := [.int z338, .int 0, .ref 52]) (pm_q189_1 (Nat.le_of_ble_eq_true rfl)) (by show some (Value.int (lg_cmp a0 1819242347) :: _) = _; rw [← e339]) rfl ?_
        refine pm_R_ifc pm_M189 (t := 158) (pc' := 154) (pm_q189_1 (Nat.le_of_ble_eq_true rfl)) rfl rfl (fun c1725 => absurd (sf_pt2 B341 sf_k0) c1725) (fun c1725 => ?_)
        refine pm_R_op pm_M189 (pc' := 155) (st' := [.int 0, .int 0, .ref 52]) (pm_q189_1 (Nat.le_of_ble_eq_true rfl)) rfl rfl ?_
        refine pm_R_br pm_M189 (pc' := 171) (pm_q189_1 (Nat.le_of_ble_eq_true rfl)) rfl ?_
        refine rf_R_ist pm_M189 T1719 (pc' := 172) (pm_q189_1 (Nat.le_of_ble_eq_true rfl)) e1721 (by decide) (by decide) rfl ⟨_, rfl, sf_upd (sf_upd (sf_upd (sf_upd (sf_upd b1702 (sf_weak sf_kn1 (by decide) (by decide)) _) (sf_weak sf_kn1 (by decide) (by decide)) _) (sf_weak sf_kn1 (by decide) (by decide)) _) (sf_weak sf_kn1 (by decide) (by decide)) _) (sf_weak sf_k0 (by decide) (by decide)) _⟩ rfl (fun h1726 T1727 F1728 e1729 => ?_)
        have F1730 := F1722.trans F1728 (by decide)
        refine pm_R_lo pm_M189 (pc' := 173) (pm_q189_1 (Nat.le_of_ble_eq_true rfl)) rfl rfl ?_
        refine pm_R_op pm_M189 (pc' := 174) (st' := [.int 1, .ref 41]) (pm_q189_1 (Nat.le_of_ble_eq_true rfl)) rfl rfl ?_
        refine pm_R_op pm_M189 (pc' := 175) (st' := [.int (-1), .int 1, .ref 41]) (pm_q189_1 (Nat.le_of_ble_eq_true rfl)) rfl rfl ?_
        refine pm_R_cv pm_M189 (pc' := 178) (a := 41) (ra := [.int (-1), .int 1]) (rest := []) (ls' := [.ref 41, .int 1, .int (-1), pm_no]) (pm_q189_1 (Nat.le_of_ble_eq_true rfl)) rfl (Or.inl rfl) pm_M191 T1727.2.1 rfl (by decide) (Nat.lt_of_lt_of_le (by decide) T1727.1) rfl rfl (Nat.le_of_ble_eq_true rfl) rfl rfl ?_
        refine pm_R_lo pm_M191 (pc' := 1) rfl rfl rfl ?_
        refine pm_R_lo pm_M191 (pc' := 2) rfl rfl rfl ?_
        refine pm_R_op pm_M191 (pc' := 3) (st' := [.int 5, .int 1, .ref 41]) rfl rfl rfl ?_
        refine pm_R_lo pm_M191 (pc' := 4) rfl rfl rfl ?_
        refine pm_R_cv pm_M191 (pc' := 7) (a := 41) (ra := [.int (-1), .int 5, .int 1]) (rest := []) (ls' := [.ref 41, .int 1, .int 5, .int (-1)]) rfl rfl (Or.inl rfl) pm_M183 T1727.2.1 rfl (by decide) (Nat.lt_of_lt_of_le (by decide) T1727.1) rfl rfl (Nat.le_of_ble_eq_true rfl) rfl rfl ?_
        refine rf_c183_1_5 (d := d + 0) T1727  (fun m1733 w1734 h1735 T1736 F1737 W1738 X1739 => ?_) (fun m1742 w1743 h1744 T1745 F1746 W1747 X1748 X1749 X1750 X1751 X1752 => ?_) (fun m1755 w1756 h1757 T1758 F1759 W1760 X1761 X1762 X1763 B1764 B1765 => ?_)
        · have F1766 := F1730.trans F1737 (by decide)
          have W1767 : rf_W [10, 12, 13, 14, 16, 17, 18, 21, 22] m m1733 := W1693.trans W1738 (by decide)
          have B1768 : sf_B 0 600 (m1733 10) := T1736.2.2.1 10
          have B1769 : sf_B 0 4 (m1733 17) := T1736.2.2.1 17
          have B1770 : sf_B 0 1 (m1733 22) := T1736.2.2.1 22
          show pm_R _ 191 7 [.ref 41, .int 1, .int (-1), pm_no] [.int 0] _ _
          have R1771 : (m 10).toInt ≤ (m1733 10).toInt := (sf_aux70 _ _ _ R1695 X1739)
          refine pm_R_lo pm_M191 (pc' := 8) (ls' := [.ref 41, .int 1, .int (-1), .int 0]) (st' := []) rfl rfl rfl ?_
          refine pm_R_lo pm_M191 (pc' := 9) rfl rfl rfl ?_
          refine pm_R_lo pm_M191 (pc' := 10) rfl rfl rfl ?_
          refine pm_R_br pm_M191 (pc' := 35) (st' := [.ref 41]) rfl rfl ?_
          refine pm_R_lo pm_M191 (pc' := 36) rfl rfl rfl ?_
          have B1772 : sf_B (-1) 99 (m1733 21) := T1736.2.2.1 21
          refine rf_R_get pm_M191 T1736 (pc' := 39) (v := .int (m1733 21)) rfl rfl rfl rfl ?_
          refine rf_R_put pm_M191 T1736 (pc' := 42) rfl rfl rfl (by decide) rfl rfl B1772 rfl rfl (fun h1773 m1776 em1777 T1774 F1775 => ?_)
          have F1778 := F1766.trans F1775 (by decide)
          have B1779 : sf_B 0 600 (m1776 10) := by rw [em1777]; exact B1768
          have ek1780 : (m1776 10).toInt = ((m1733 10)).toInt := by rw [em1777]; rfl
          have B1781 : sf_B 0 4 (m1776 17) := by rw [em1777]; exact B1769
          have ek1782 : (m1776 17).toInt = ((m1733 17)).toInt := by rw [em1777]; rfl
          have B1783 : sf_B 0 1 (m1776 22) := by rw [em1777]; exact B1770
          have ek1784 : (m1776 22).toInt = ((m1733 22)).toInt := by rw [em1777]; rfl
          have B1785 : sf_B (-1) 99 (m1776 21) := by rw [em1777]; exact B1772
          have ek1786 : (m1776 21).toInt = ((m1733 21)).toInt := by rw [em1777]; rfl
          have W1787 : rf_W [10, 12, 13, 14, 16, 17, 18, 21, 22] m m1776 := by rw [em1777]; exact W1767.put (by decide)
          refine pm_R_lo pm_M191 (pc' := 43) rfl rfl rfl ?_
          refine pm_R_ret pm_M191 (r := some (.int 0)) rfl rfl ?_
          show pm_R _ 189 178 [.ref 41, .long a0, pm_no, .int a1, pm_no] [.int 0] _ _
          refine pm_R_br pm_M189 (pc' := 181) (st' := []) (pm_q189_1 (Nat.le_of_ble_eq_true rfl)) rfl ?_
          refine pm_R_op pm_M189 (pc' := 182) (st' := [.int 0]) (pm_q189_1 (Nat.le_of_ble_eq_true rfl)) rfl rfl ?_
          exact pm_R_ret pm_M189 (r := some (.int 0)) (pm_q189_1 (Nat.le_of_ble_eq_true rfl)) rfl (K0 m1776 w1734 h1773 T1774 F1778 W1787 (sf_aux39 _ _ _ ek1780 R1771))
        · have F1788 := F1730.trans F1746 (by decide)
          have W1789 : rf_W [10, 12, 13, 14, 16, 17, 18, 21, 22] m m1742 := W1693.trans W1747 (by decide)
          have B1790 : sf_B 0 600 (m1742 10) := T1745.2.2.1 10
          have B1791 : sf_B 0 4 (m1742 17) := T1745.2.2.1 17
          have B1792 : sf_B 0 1 (m1742 22) := T1745.2.2.1 22
          show pm_R _ 191 7 [.ref 41, .int 1, .int (-1), pm_no] [.int 1] _ _
          have R1793 : (m 10).toInt ≤ (m1742 10).toInt := (sf_aux70 _ _ _ R1695 X1752)
          obtain ⟨v1794, B1795, e1796⟩ := X1748 _ e1729
          refine pm_R_lo pm_M191 (pc' := 8) (ls' := [.ref 41, .int 1, .int (-1), .int 1]) (st' := []) rfl rfl rfl ?_
          refine pm_R_lo pm_M191 (pc' := 9) rfl rfl rfl ?_
          refine pm_R_lo pm_M191 (pc' := 10) rfl rfl rfl ?_
          refine pm_R_br pm_M191 (pc' := 13) (st' := [.ref 41]) rfl rfl ?_
          refine pm_R_lo pm_M191 (pc' := 14) rfl rfl rfl ?_
          refine rf_R_get pm_M191 T1745 (pc' := 17) (v := .ref 52) rfl rfl rfl rfl ?_
          refine pm_R_lo pm_M191 (pc' := 18) rfl rfl rfl ?_
          refine pm_R_iald pm_M191 (pc' := 19) (v := v1794) rfl e1796 (Nat.lt_of_lt_of_le (by decide) T1745.1) rfl sf_upd_eq rfl ?_
          refine pm_R_lo pm_M191 (pc' := 20) rfl rfl rfl ?_
          have B1799 : sf_B (-1) 99 (m1742 21) := T1745.2.2.1 21
          refine rf_R_get pm_M191 T1745 (pc' := 23) (v := .int (m1742 21)) rfl rfl rfl rfl ?_
          refine pm_R_icmp pm_M191 (t := 35) (pc' := 26) rfl rfl rfl (fun c1800 => ?_) (fun c1800 => ?_)
          · have B1801 : sf_B 0 99 (m1742 21) := sf_leR c1800 B1795 B1799
            refine pm_R_lo pm_M191 (pc' := 36) rfl rfl rfl ?_
            refine rf_R_get pm_M191 T1745 (pc' := 39) (v := .int (m1742 21)) rfl rfl rfl rfl ?_
            refine rf_R_put pm_M191 T1745 (pc' := 42) rfl rfl rfl (by decide) rfl rfl (sf_weak B1801 (by decide) (by decide)) rfl rfl (fun h1802 m1805 em1806 T1803 F1804 => ?_)
            have F1807 := F1788.trans F1804 (by decide)
            have B1808 : sf_B 0 600 (m1805 10) := by rw [em1806]; exact B1790
            have ek1809 : (m1805 10).toInt = ((m1742 10)).toInt := by rw [em1806]; rfl
            have B1810 : sf_B 1 4 (m1805 17) := by rw [em1806]; exact (sf_eqT X1749 B1689)
            have ek1811 : (m1805 17).toInt = ((m1680 17)).toInt := by rw [em1806]; exact X1749
            have B1812 : sf_B 0 1 (m1805 22) := by rw [em1806]; exact (sf_eqT X1750 B1691)
            have ek1813 : (m1805 22).toInt = ((m1680 22)).toInt := by rw [em1806]; exact X1750
            have B1814 : sf_B 0 99 (m1805 21) := by rw [em1806]; exact B1801
            have ek1815 : (m1805 21).toInt = ((m1742 21)).toInt := by rw [em1806]; rfl
            have W1816 : rf_W [10, 12, 13, 14, 16, 17, 18, 21, 22] m m1805 := by rw [em1806]; exact W1789.put (by decide)
            refine pm_R_lo pm_M191 (pc' := 43) rfl rfl rfl ?_
            refine pm_R_ret pm_M191 (r := some (.int 1)) rfl rfl ?_
            show pm_R _ 189 178 [.ref 41, .long a0, pm_no, .int a1, pm_no] [.int 1] _ _
            refine pm_R_br pm_M189 (pc' := 183) (st' := []) (pm_q189_1 (Nat.le_of_ble_eq_true rfl)) rfl ?_
            refine pm_R_lo pm_M189 (pc' := 184) (pm_q189_1 (Nat.le_of_ble_eq_true rfl)) rfl rfl ?_
            refine pm_R_ldc2 pm_M189 (pc' := 187) (pm_q189_1 (Nat.le_of_ble_eq_true rfl)) rfl rfl ?_
            refine pm_R_op pm_M189 (pc' := 188) (st' := [.int z338]) (pm_q189_1 (Nat.le_of_ble_eq_true rfl)) (by show some (Value.int (lg_cmp a0 1819242347) :: _) = _; rw [← e339]) rfl ?_
            refine pm_R_ifc pm_M189 (t := 205) (pc' := 191) (pm_q189_1 (Nat.le_of_ble_eq_true rfl)) rfl rfl (fun c1819 => absurd (sf_pt2 B341 sf_k0) c1819) (fun c1819 => ?_)
            refine pm_R_lo pm_M189 (pc' := 192) (pm_q189_1 (Nat.le_of_ble_eq_true rfl)) rfl rfl ?_
            refine pm_R_op pm_M189 (pc' := 193) (st' := [.int 2, .ref 41]) (pm_q189_1 (Nat.le_of_ble_eq_true rfl)) rfl rfl ?_
            refine pm_R_lo pm_M189 (pc' := 194) (pm_q189_1 (Nat.le_of_ble_eq_true rfl)) rfl rfl ?_
            refine rf_R_get pm_M189 T1803 (pc' := 197) (v := .ref 52) (pm_q189_1 (Nat.le_of_ble_eq_true rfl)) rfl rfl rfl ?_
            refine pm_R_op pm_M189 (pc' := 198) (st' := [.int 1, .ref 52, .int 2, .ref 41]) (pm_q189_1 (Nat.le_of_ble_eq_true rfl)) rfl rfl ?_
            have e1820 := (F1804.cell (by decide) e1796)
            refine pm_R_iald pm_M189 (pc' := 199) (v := v1794) (pm_q189_1 (Nat.le_of_ble_eq_true rfl)) e1820 (Nat.lt_of_lt_of_le (by decide) T1803.1) rfl sf_upd_eq rfl ?_
            refine pm_R_cv pm_M189 (pc' := 202) (a := 41) (ra := [.int v1794, .int 2]) (rest := []) (ls' := [.ref 41, .int 2, .int v1794, pm_no]) (pm_q189_1 (Nat.le_of_ble_eq_true rfl)) rfl (Or.inl rfl) pm_M191 T1803.2.1 rfl (by decide) (Nat.lt_of_lt_of_le (by decide) T1803.1) rfl rfl (Nat.le_of_ble_eq_true rfl) rfl rfl ?_
            refine pm_R_lo pm_M191 (pc' := 1) rfl rfl rfl ?_
            refine pm_R_lo pm_M191 (pc' := 2) rfl rfl rfl ?_
            refine pm_R_op pm_M191 (pc' := 3) (st' := [.int 5, .int 2, .ref 41]) rfl rfl rfl ?_
            refine pm_R_lo pm_M191 (pc' := 4) rfl rfl rfl ?_
            refine pm_R_cv pm_M191 (pc' := 7) (a := 41) (ra := [.int v1794, .int 5, .int 2]) (rest := []) (ls' := [.ref 41, .int 2, .int 5, .int v1794]) rfl rfl (Or.inl rfl) pm_M183 T1803.2.1 rfl (by decide) (Nat.lt_of_lt_of_le (by decide) T1803.1) rfl rfl (Nat.le_of_ble_eq_true rfl) rfl rfl ?_
            refine rf_c183_2_5 (d := d + 0) T1803  (fun m1825 w1826 h1827 T1828 F1829 W1830 X1831 => ?_) (fun m1834 w1835 h1836 T1837 F1838 W1839 X1840 X1841 X1842 X1843 X1844 => ?_) (fun m1847 w1848 h1849 T1850 F1851 W1852 X1853 X1854 X1855 B1856 B1857 => ?_)
            · have F1858 := F1807.trans F1829 (by decide)
              have B1859 : sf_B 0 99 (m1825 21) := by rw [W1830 21 (by decide)]; exact B1814
              have ek1860 : (m1825 21).toInt = ((m1742 21)).toInt := by rw [W1830 21 (by decide)]; exact ek1815
              have W1861 : rf_W [10, 12, 13, 14, 16, 17, 18, 21, 22] m m1825 := W1816.trans W1830 (by decide)
              have B1862 : sf_B 0 600 (m1825 10) := T1828.2.2.1 10
              have B1863 : sf_B 0 4 (m1825 17) := T1828.2.2.1 17
              have B1864 : sf_B 0 1 (m1825 22) := T1828.2.2.1 22
              show pm_R _ 191 7 [.ref 41, .int 2, .int v1794, pm_no] [.int 0] _ _
              have R1865 : (m 10).toInt ≤ (m1825 10).toInt := (sf_aux77 _ _ _ _ ek1809 R1793 X1831)
              refine pm_R_lo pm_M191 (pc' := 8) (ls' := [.ref 41, .int 2, .int v1794, .int 0]) (st' := []) rfl rfl rfl ?_
              refine pm_R_lo pm_M191 (pc' := 9) rfl rfl rfl ?_
              refine pm_R_lo pm_M191 (pc' := 10) rfl rfl rfl ?_
              refine pm_R_br pm_M191 (pc' := 35) (st' := [.ref 41]) rfl rfl ?_
              refine pm_R_lo pm_M191 (pc' := 36) rfl rfl rfl ?_
              refine rf_R_get pm_M191 T1828 (pc' := 39) (v := .int (m1825 21)) rfl rfl rfl rfl ?_
              refine rf_R_put pm_M191 T1828 (pc' := 42) rfl rfl rfl (by decide) rfl rfl (sf_weak B1859 (by decide) (by decide)) rfl rfl (fun h1866 m1869 em1870 T1867 F1868 => ?_)
              have F1871 := F1858.trans F1868 (by decide)
              have B1872 : sf_B 0 600 (m1869 10) := by rw [em1870]; exact B1862
              have ek1873 : (m1869 10).toInt = ((m1825 10)).toInt := by rw [em1870]; rfl
              have B1874 : sf_B 0 4 (m1869 17) := by rw [em1870]; exact B1863
              have ek1875 : (m1869 17).toInt = ((m1825 17)).toInt := by rw [em1870]; rfl
              have B1876 : sf_B 0 1 (m1869 22) := by rw [em1870]; exact B1864
              have ek1877 : (m1869 22).toInt = ((m1825 22)).toInt := by rw [em1870]; rfl
              have B1878 : sf_B 0 99 (m1869 21) := by rw [em1870]; exact B1859
              have ek1879 : (m1869 21).toInt = ((m1825 21)).toInt := by rw [em1870]; rfl
              have W1880 : rf_W [10, 12, 13, 14, 16, 17, 18, 21, 22] m m1869 := by rw [em1870]; exact W1861.put (by decide)
              refine pm_R_lo pm_M191 (pc' := 43) rfl rfl rfl ?_
              refine pm_R_ret pm_M191 (r := some (.int 0)) rfl rfl ?_
              show pm_R _ 189 202 [.ref 41, .long a0, pm_no, .int a1, pm_no] [.int 0] _ _
              refine pm_R_br pm_M189 (pc' := 224) (st' := []) (pm_q189_1 (Nat.le_of_ble_eq_true rfl)) rfl ?_
              refine pm_R_op pm_M189 (pc' := 225) (st' := [.int 0]) (pm_q189_2 (Nat.le_of_ble_eq_true rfl)) rfl rfl ?_
              exact pm_R_ret pm_M189 (r := some (.int 0)) (pm_q189_2 (Nat.le_of_ble_eq_true rfl)) rfl (K0 m1869 w1826 h1866 T1867 F1871 W1880 (sf_aux39 _ _ _ ek1873 R1865))
            · have F1881 := F1807.trans F1838 (by decide)
              have B1882 : sf_B 0 99 (m1834 21) := by rw [W1839 21 (by decide)]; exact B1814
              have ek1883 : (m1834 21).toInt = ((m1742 21)).toInt := by rw [W1839 21 (by decide)]; exact ek1815
              have W1884 : rf_W [10, 12, 13, 14, 16, 17, 18, 21, 22] m m1834 := W1816.trans W1839 (by decide)
              have B1885 : sf_B 0 600 (m1834 10) := T1837.2.2.1 10
              have B1886 : sf_B 0 4 (m1834 17) := T1837.2.2.1 17
              have B1887 : sf_B 0 1 (m1834 22) := T1837.2.2.1 22
              show pm_R _ 191 7 [.ref 41, .int 2, .int v1794, pm_no] [.int 1] _ _
              have R1888 : (m 10).toInt ≤ (m1834 10).toInt := (sf_aux77 _ _ _ _ ek1809 R1793 X1844)
              obtain ⟨v1889, B1890, e1891⟩ := X1840 _ e1820
              refine pm_R_lo pm_M191 (pc' := 8) (ls' := [.ref 41, .int 2, .int v1794, .int 1]) (st' := []) rfl rfl rfl ?_
              refine pm_R_lo pm_M191 (pc' := 9) rfl rfl rfl ?_
              refine pm_R_lo pm_M191 (pc' := 10) rfl rfl rfl ?_
              refine pm_R_br pm_M191 (pc' := 13) (st' := [.ref 41]) rfl rfl ?_
              refine pm_R_lo pm_M191 (pc' := 14) rfl rfl rfl ?_
              refine rf_R_get pm_M191 T1837 (pc' := 17) (v := .ref 52) rfl rfl rfl rfl ?_
              refine pm_R_lo pm_M191 (pc' := 18) rfl rfl rfl ?_
              refine pm_R_iald pm_M191 (pc' := 19) (v := v1889) rfl e1891 (Nat.lt_of_lt_of_le (by decide) T1837.1) rfl sf_upd_eq rfl ?_
              refine pm_R_lo pm_M191 (pc' := 20) rfl rfl rfl ?_
              refine rf_R_get pm_M191 T1837 (pc' := 23) (v := .int (m1834 21)) rfl rfl rfl rfl ?_
              refine pm_R_icmp pm_M191 (t := 35) (pc' := 26) rfl rfl rfl (fun c1894 => ?_) (fun c1894 => ?_)
              · skip
                refine pm_R_lo pm_M191 (pc' := 36) rfl rfl rfl ?_
                refine rf_R_get pm_M191 T1837 (pc' := 39) (v := .int (m1834 21)) rfl rfl rfl rfl ?_
                refine rf_R_put pm_M191 T1837 (pc' := 42) rfl rfl rfl (by decide) rfl rfl (sf_weak B1882 (by decide) (by decide)) rfl rfl (fun h1895 m1898 em1899 T1896 F1897 => ?_)
                have F1900 := F1881.trans F1897 (by decide)
                have B1901 : sf_B 0 600 (m1898 10) := by rw [em1899]; exact B1885
                have ek1902 : (m1898 10).toInt = ((m1834 10)).toInt := by rw [em1899]; rfl
                have B1903 : sf_B 1 4 (m1898 17) := by rw [em1899]; exact (sf_eqT X1841 B1810)
                have ek1904 : (m1898 17).toInt = ((m1805 17)).toInt := by rw [em1899]; exact X1841
                have B1905 : sf_B 0 1 (m1898 22) := by rw [em1899]; exact (sf_eqT X1842 B1812)
                have ek1906 : (m1898 22).toInt = ((m1805 22)).toInt := by rw [em1899]; exact X1842
                have B1907 : sf_B 0 99 (m1898 21) := by rw [em1899]; exact B1882
                have ek1908 : (m1898 21).toInt = ((m1834 21)).toInt := by rw [em1899]; rfl
                have W1909 : rf_W [10, 12, 13, 14, 16, 17, 18, 21, 22] m m1898 := by rw [em1899]; exact W1884.put (by decide)
                refine pm_R_lo pm_M191 (pc' := 43) rfl rfl rfl ?_
                refine pm_R_ret pm_M191 (r := some (.int 1)) rfl rfl ?_
                show pm_R _ 189 202 [.ref 41, .long a0, pm_no, .int a1, pm_no] [.int 1] _ _
                refine pm_R_br pm_M189 (pc' := 205) (st' := []) (pm_q189_1 (Nat.le_of_ble_eq_true rfl)) rfl ?_
                refine pm_R_lo pm_M189 (pc' := 206) (pm_q189_1 (Nat.le_of_ble_eq_true rfl)) rfl rfl ?_
                refine pm_R_ldc2 pm_M189 (pc' := 209) (pm_q189_1 (Nat.le_of_ble_eq_true rfl)) rfl rfl ?_
                refine sf_R_lcmp pm_M189 (pc' := 210) (pm_q189_1 (Nat.le_of_ble_eq_true rfl)) rfl (fun z1910 e1911 => ?_)
                have B1912 : sf_B (-2147483648) (-1) z1910 := lf_cmpLt e1911 B342 (⟨by decide, by decide⟩ : lf_B 1935767923 1935767923 1935767923) (by decide)
                refine pm_R_ifc pm_M189 (t := 226) (pc' := 213) (pm_q189_1 (Nat.le_of_ble_eq_true rfl)) rfl rfl (fun c1913 => ?_) (fun c1913 => absurd (Classical.not_not.mp c1913) (sf_neq2 B1912 sf_k0 (by decide)))
                have k1914 := sf_lneC e1911 c1913
                refine pm_R_lo pm_M189 (pc' := 227) (pm_q189_2 (Nat.le_of_ble_eq_true rfl)) rfl rfl ?_
                refine pm_R_op pm_M189 (pc' := 228) (st' := [.int 1, .ref 41]) (pm_q189_2 (Nat.le_of_ble_eq_true rfl)) rfl rfl ?_
                refine pm_R_op pm_M189 (pc' := 229) (st' := [.int 2, .int 1, .ref 41]) (pm_q189_2 (Nat.le_of_ble_eq_true rfl)) rfl rfl ?_
                refine pm_R_op pm_M189 (pc' := 230) (st' := [.int 3, .int 2, .int 1, .ref 41]) (pm_q189_2 (Nat.le_of_ble_eq_true rfl)) rfl rfl ?_
                refine pm_R_op pm_M189 (pc' := 232) (st' := [.int 50, .int 3, .int 2, .int 1, .ref 41]) (pm_q189_2 (Nat.le_of_ble_eq_true rfl)) rfl rfl ?_
                refine pm_R_op pm_M189 (pc' := 233) (st' := [.int 0, .int 50, .int 3, .int 2, .int 1, .ref 41]) (pm_q189_2 (Nat.le_of_ble_eq_true rfl)) rfl rfl ?_
                refine pm_R_cv pm_M189 (pc' := 236) (a := 41) (ra := [.int 0, .int 50, .int 3, .int 2, .int 1]) (rest := []) (ls' := [.ref 41, .int 1, .int 2, .int 3, .int 50, .int 0, pm_no, pm_no]) (pm_q189_2 (Nat.le_of_ble_eq_true rfl)) rfl (Or.inl rfl) pm_M185 T1896.2.1 rfl (by decide) (Nat.lt_of_lt_of_le (by decide) T1896.1) rfl rfl (Nat.le_of_ble_eq_true rfl) rfl rfl ?_
                have e1915 := (F1897.cell (by decide) (F1838.cell (by decide) (F1804.cell (by decide) (F1746.cell (by decide) (F1728.cell (by decide) (F1720.cell (by decide) (F1715.cell (by decide) (F1710.cell (by decide) (F1705.cell (by decide) (F1684.cell (by decide) (F1669.cell (by decide) e3)))))))))))
                refine rf_c185_d (d := d + 3) T1896 (⟨f2, e1915, ct4, fun z => (sf_pos B1903 (by decide) z)⟩) (fun z => sf_pos B1903 (by decide) z) (fun m1918 w1919 h1920 T1921 F1922 W1923 X1924 => ?_)
                have F1925 := F1900.trans F1922 (by decide)
                have B1926 : sf_B 0 600 (m1918 10) := by rw [W1923 10 (by decide)]; exact B1901
                have ek1927 : (m1918 10).toInt = ((m1834 10)).toInt := by rw [W1923 10 (by decide)]; exact ek1902
                have B1928 : sf_B 1 4 (m1918 17) := by rw [W1923 17 (by decide)]; exact B1903
                have ek1929 : (m1918 17).toInt = ((m1805 17)).toInt := by rw [W1923 17 (by decide)]; exact ek1904
                have B1930 : sf_B 0 1 (m1918 22) := by rw [W1923 22 (by decide)]; exact B1905
                have ek1931 : (m1918 22).toInt = ((m1805 22)).toInt := by rw [W1923 22 (by decide)]; exact ek1906
                have B1932 : sf_B 0 99 (m1918 21) := by rw [W1923 21 (by decide)]; exact B1907
                have ek1933 : (m1918 21).toInt = ((m1834 21)).toInt := by rw [W1923 21 (by decide)]; exact ek1908
                have W1934 : rf_W [10, 12, 13, 14, 16, 17, 18, 21, 22] m m1918 := W1909.trans W1923 (by decide)
                show pm_R _ 189 236 [.ref 41, .long a0, pm_no, .int a1, pm_no] [] _ _
                obtain ⟨f1935, e1936, ct1937, bd1938⟩ := X1924
                refine pm_R_op pm_M189 (pc' := 237) (st' := [.int 1]) (pm_q189_2 (Nat.le_of_ble_eq_true rfl)) rfl rfl ?_
                exact pm_R_ret pm_M189 (r := some (.int 1)) (pm_q189_2 (Nat.le_of_ble_eq_true rfl)) rfl (K1 m1918 w1919 h1920 T1921 F1925 W1934 (⟨f1935, e1936, ct1937, fun z => (sf_pos B1928 (by decide) z)⟩) (sf_aux39 _ _ _ ek1927 R1888))
              · have B1939 : sf_B 0 4 (m1834 21) := sf_ltL (Int32.not_le.mp c1894) B1882 B1890
                have B1940 : sf_B 1 5 v1889 := sf_ltR (Int32.not_le.mp c1894) B1882 B1890
                refine pm_R_lo pm_M191 (pc' := 27) rfl rfl rfl ?_
                refine rf_R_get pm_M191 T1837 (pc' := 30) (v := .ref 52) rfl rfl rfl rfl ?_
                refine pm_R_lo pm_M191 (pc' := 31) rfl rfl rfl ?_
                refine pm_R_iald pm_M191 (pc' := 32) (v := v1889) rfl e1891 (Nat.lt_of_lt_of_le (by decide) T1837.1) rfl sf_upd_eq rfl ?_
                refine pm_R_br pm_M191 (pc' := 39) rfl rfl ?_
                refine rf_R_put pm_M191 T1837 (pc' := 42) rfl rfl rfl (by decide) rfl rfl (sf_weak B1940 (by decide) (by decide)) rfl rfl (fun h1943 m1946 em1947 T1944 F1945 => ?_)
                have F1948 := F1881.trans F1945 (by decide)
                have B1949 : sf_B 0 600 (m1946 10) := by rw [em1947]; exact B1885
                have ek1950 : (m1946 10).toInt = ((m1834 10)).toInt := by rw [em1947]; rfl
                have B1951 : sf_B 1 4 (m1946 17) := by rw [em1947]; exact (sf_eqT X1841 B1810)
                have ek1952 : (m1946 17).toInt = ((m1805 17)).toInt := by rw [em1947]; exact X1841
                have B1953 : sf_B 0 1 (m1946 22) := by rw [em1947]; exact (sf_eqT X1842 B1812)
                have ek1954 : (m1946 22).toInt = ((m1805 22)).toInt := by rw [em1947]; exact X1842
                have B1955 : sf_B 1 5 (m1946 21) := by rw [em1947]; exact B1940
                have ek1956 : (m1946 21).toInt = (v1889).toInt := by rw [em1947]; rfl
                have W1957 : rf_W [10, 12, 13, 14, 16, 17, 18, 21, 22] m m1946 := by rw [em1947]; exact W1884.put (by decide)
                refine pm_R_lo pm_M191 (pc' := 43) rfl rfl rfl ?_
                refine pm_R_ret pm_M191 (r := some (.int 1)) rfl rfl ?_
                show pm_R _ 189 202 [.ref 41, .long a0, pm_no, .int a1, pm_no] [.int 1] _ _
                refine pm_R_br pm_M189 (pc' := 205) (st' := []) (pm_q189_1 (Nat.le_of_ble_eq_true rfl)) rfl ?_
                refine pm_R_lo pm_M189 (pc' := 206) (pm_q189_1 (Nat.le_of_ble_eq_true rfl)) rfl rfl ?_
                refine pm_R_ldc2 pm_M189 (pc' := 209) (pm_q189_1 (Nat.le_of_ble_eq_true rfl)) rfl rfl ?_
                refine sf_R_lcmp pm_M189 (pc' := 210) (pm_q189_1 (Nat.le_of_ble_eq_true rfl)) rfl (fun z1958 e1959 => ?_)
                have B1960 : sf_B (-2147483648) (-1) z1958 := lf_cmpLt e1959 B342 (⟨by decide, by decide⟩ : lf_B 1935767923 1935767923 1935767923) (by decide)
                refine pm_R_ifc pm_M189 (t := 226) (pc' := 213) (pm_q189_1 (Nat.le_of_ble_eq_true rfl)) rfl rfl (fun c1961 => ?_) (fun c1961 => absurd (Classical.not_not.mp c1961) (sf_neq2 B1960 sf_k0 (by decide)))
                have k1962 := sf_lneC e1959 c1961
                refine pm_R_lo pm_M189 (pc' := 227) (pm_q189_2 (Nat.le_of_ble_eq_true rfl)) rfl rfl ?_
                refine pm_R_op pm_M189 (pc' := 228) (st' := [.int 1, .ref 41]) (pm_q189_2 (Nat.le_of_ble_eq_true rfl)) rfl rfl ?_
                refine pm_R_op pm_M189 (pc' := 229) (st' := [.int 2, .int 1, .ref 41]) (pm_q189_2 (Nat.le_of_ble_eq_true rfl)) rfl rfl ?_
                refine pm_R_op pm_M189 (pc' := 230) (st' := [.int 3, .int 2, .int 1, .ref 41]) (pm_q189_2 (Nat.le_of_ble_eq_true rfl)) rfl rfl ?_
                refine pm_R_op pm_M189 (pc' := 232) (st' := [.int 50, .int 3, .int 2, .int 1, .ref 41]) (pm_q189_2 (Nat.le_of_ble_eq_true rfl)) rfl rfl ?_
                refine pm_R_op pm_M189 (pc' := 233) (st' := [.int 0, .int 50, .int 3, .int 2, .int 1, .ref 41]) (pm_q189_2 (Nat.le_of_ble_eq_true rfl)) rfl rfl ?_
                refine pm_R_cv pm_M189 (pc' := 236) (a := 41) (ra := [.int 0, .int 50, .int 3, .int 2, .int 1]) (rest := []) (ls' := [.ref 41, .int 1, .int 2, .int 3, .int 50, .int 0, pm_no, pm_no]) (pm_q189_2 (Nat.le_of_ble_eq_true rfl)) rfl (Or.inl rfl) pm_M185 T1944.2.1 rfl (by decide) (Nat.lt_of_lt_of_le (by decide) T1944.1) rfl rfl (Nat.le_of_ble_eq_true rfl) rfl rfl ?_
                have e1963 := (F1945.cell (by decide) (F1838.cell (by decide) (F1804.cell (by decide) (F1746.cell (by decide) (F1728.cell (by decide) (F1720.cell (by decide) (F1715.cell (by decide) (F1710.cell (by decide) (F1705.cell (by decide) (F1684.cell (by decide) (F1669.cell (by decide) e3)))))))))))
                refine rf_c185_d (d := d + 3) T1944 (⟨f2, e1963, ct4, fun z => (sf_pos B1951 (by decide) z)⟩) (fun z => sf_pos B1951 (by decide) z) (fun m1966 w1967 h1968 T1969 F1970 W1971 X1972 => ?_)
                have F1973 := F1948.trans F1970 (by decide)
                have B1974 : sf_B 0 600 (m1966 10) := by rw [W1971 10 (by decide)]; exact B1949
                have ek1975 : (m1966 10).toInt = ((m1834 10)).toInt := by rw [W1971 10 (by decide)]; exact ek1950
                have B1976 : sf_B 1 4 (m1966 17) := by rw [W1971 17 (by decide)]; exact B1951
                have ek1977 : (m1966 17).toInt = ((m1805 17)).toInt := by rw [W1971 17 (by decide)]; exact ek1952
                have B1978 : sf_B 0 1 (m1966 22) := by rw [W1971 22 (by decide)]; exact B1953
                have ek1979 : (m1966 22).toInt = ((m1805 22)).toInt := by rw [W1971 22 (by decide)]; exact ek1954
                have B1980 : sf_B 1 5 (m1966 21) := by rw [W1971 21 (by decide)]; exact B1955
                have ek1981 : (m1966 21).toInt = (v1889).toInt := by rw [W1971 21 (by decide)]; exact ek1956
                have W1982 : rf_W [10, 12, 13, 14, 16, 17, 18, 21, 22] m m1966 := W1957.trans W1971 (by decide)
                show pm_R _ 189 236 [.ref 41, .long a0, pm_no, .int a1, pm_no] [] _ _
                obtain ⟨f1983, e1984, ct1985, bd1986⟩ := X1972
                refine pm_R_op pm_M189 (pc' := 237) (st' := [.int 1]) (pm_q189_2 (Nat.le_of_ble_eq_true rfl)) rfl rfl ?_
                exact pm_R_ret pm_M189 (r := some (.int 1)) (pm_q189_2 (Nat.le_of_ble_eq_true rfl)) rfl (K1 m1966 w1967 h1968 T1969 F1973 W1982 (⟨f1983, e1984, ct1985, fun z => (sf_pos B1976 (by decide) z)⟩) (sf_aux39 _ _ _ ek1975 R1888))
            · have F1987 := F1807.trans F1851 (by decide)
              have B1988 : sf_B 0 99 (m1847 21) := by rw [W1852 21 (by decide)]; exact B1814
              have ek1989 : (m1847 21).toInt = ((m1742 21)).toInt := by rw [W1852 21 (by decide)]; exact ek1815
              have W1990 : rf_W [10, 12, 13, 14, 16, 17, 18, 21, 22] m m1847 := W1816.trans W1852 (by decide)
              have B1991 : sf_B 0 600 (m1847 10) := T1850.2.2.1 10
              have B1992 : sf_B 0 4 (m1847 17) := T1850.2.2.1 17
              have B1993 : sf_B 0 1 (m1847 22) := T1850.2.2.1 22
              show pm_R _ 191 7 [.ref 41, .int 2, .int v1794, pm_no] [.int 1] _ _
              have R1994 : (m 10).toInt ≤ (m1847 10).toInt := (sf_aux77 _ _ _ _ ek1809 R1793 X1855)
              obtain ⟨v1995, B1996, e1997⟩ := X1853 _ e1820
              refine pm_R_lo pm_M191 (pc' := 8) (ls' := [.ref 41, .int 2, .int v1794, .int 1]) (st' := []) rfl rfl rfl ?_
              refine pm_R_lo pm_M191 (pc' := 9) rfl rfl rfl ?_
              refine pm_R_lo pm_M191 (pc' := 10) rfl rfl rfl ?_
              refine pm_R_br pm_M191 (pc' := 13) (st' := [.ref 41]) rfl rfl ?_
              refine pm_R_lo pm_M191 (pc' := 14) rfl rfl rfl ?_
              refine rf_R_get pm_M191 T1850 (pc' := 17) (v := .ref 52) rfl rfl rfl rfl ?_
              refine pm_R_lo pm_M191 (pc' := 18) rfl rfl rfl ?_
              refine pm_R_iald pm_M191 (pc' := 19) (v := v1995) rfl e1997 (Nat.lt_of_lt_of_le (by decide) T1850.1) rfl sf_upd_eq rfl ?_
              refine pm_R_lo pm_M191 (pc' := 20) rfl rfl rfl ?_
              refine rf_R_get pm_M191 T1850 (pc' := 23) (v := .int (m1847 21)) rfl rfl rfl rfl ?_
              refine pm_R_icmp pm_M191 (t := 35) (pc' := 26) rfl rfl rfl (fun c2000 => ?_) (fun c2000 => ?_)
              · skip
                refine pm_R_lo pm_M191 (pc' := 36) rfl rfl rfl ?_
                refine rf_R_get pm_M191 T1850 (pc' := 39) (v := .int (m1847 21)) rfl rfl rfl rfl ?_
                refine rf_R_put pm_M191 T1850 (pc' := 42) rfl rfl rfl (by decide) rfl rfl (sf_weak B1988 (by decide) (by decide)) rfl rfl (fun h2001 m2004 em2005 T2002 F2003 => ?_)
                have F2006 := F1987.trans F2003 (by decide)
                have B2007 : sf_B 0 600 (m2004 10) := by rw [em2005]; exact B1991
                have ek2008 : (m2004 10).toInt = ((m1847 10)).toInt := by rw [em2005]; rfl
                have B2009 : sf_B 1 4 (m2004 17) := by rw [em2005]; exact B1856
                have ek2010 : (m2004 17).toInt = ((m1847 17)).toInt := by rw [em2005]; rfl
                have B2011 : sf_B 0 0 (m2004 22) := by rw [em2005]; exact B1857
                have ek2012 : (m2004 22).toInt = ((m1847 22)).toInt := by rw [em2005]; rfl
                have B2013 : sf_B 0 99 (m2004 21) := by rw [em2005]; exact B1988
                have ek2014 : (m2004 21).toInt = ((m1847 21)).toInt := by rw [em2005]; rfl
                have W2015 : rf_W [10, 12, 13, 14, 16, 17, 18, 21, 22] m m2004 := by rw [em2005]; exact W1990.put (by decide)
                refine pm_R_lo pm_M191 (pc' := 43) rfl rfl rfl ?_
                refine pm_R_ret pm_M191 (r := some (.int 1)) rfl rfl ?_
                show pm_R _ 189 202 [.ref 41, .long a0, pm_no, .int a1, pm_no] [.int 1] _ _
                refine pm_R_br pm_M189 (pc' := 205) (st' := []) (pm_q189_1 (Nat.le_of_ble_eq_true rfl)) rfl ?_
                refine pm_R_lo pm_M189 (pc' := 206) (pm_q189_1 (Nat.le_of_ble_eq_true rfl)) rfl rfl ?_
                refine pm_R_ldc2 pm_M189 (pc' := 209) (pm_q189_1 (Nat.le_of_ble_eq_true rfl)) rfl rfl ?_
                refine sf_R_lcmp pm_M189 (pc' := 210) (pm_q189_1 (Nat.le_of_ble_eq_true rfl)) rfl (fun z2016 e2017 => ?_)
                have B2018 : sf_B (-2147483648) (-1) z2016 := lf_cmpLt e2017 B342 (⟨by decide, by decide⟩ : lf_B 1935767923 1935767923 1935767923) (by decide)
                refine pm_R_ifc pm_M189 (t := 226) (pc' := 213) (pm_q189_1 (Nat.le_of_ble_eq_true rfl)) rfl rfl (fun c2019 => ?_) (fun c2019 => absurd (Classical.not_not.mp c2019) (sf_neq2 B2018 sf_k0 (by decide)))
                have k2020 := sf_lneC e2017 c2019
                refine pm_R_lo pm_M189 (pc' := 227) (pm_q189_2 (Nat.le_of_ble_eq_true rfl)) rfl rfl ?_
                refine pm_R_op pm_M189 (pc' := 228) (st' := [.int 1, .ref 41]) (pm_q189_2 (Nat.le_of_ble_eq_true rfl)) rfl rfl ?_
                refine pm_R_op pm_M189 (pc' := 229) (st' := [.int 2, .int 1, .ref 41]) (pm_q189_2 (Nat.le_of_ble_eq_true rfl)) rfl rfl ?_
                refine pm_R_op pm_M189 (pc' := 230) (st' := [.int 3, .int 2, .int 1, .ref 41]) (pm_q189_2 (Nat.le_of_ble_eq_true rfl)) rfl rfl ?_
                refine pm_R_op pm_M189 (pc' := 232) (st' := [.int 50, .int 3, .int 2, .int 1, .ref 41]) (pm_q189_2 (Nat.le_of_ble_eq_true rfl)) rfl rfl ?_
                refine pm_R_op pm_M189 (pc' := 233) (st' := [.int 0, .int 50, .int 3, .int 2, .int 1, .ref 41]) (pm_q189_2 (Nat.le_of_ble_eq_true rfl)) rfl rfl ?_
                refine pm_R_cv pm_M189 (pc' := 236) (a := 41) (ra := [.int 0, .int 50, .int 3, .int 2, .int 1]) (rest := []) (ls' := [.ref 41, .int 1, .int 2, .int 3, .int 50, .int 0, pm_no, pm_no]) (pm_q189_2 (Nat.le_of_ble_eq_true rfl)) rfl (Or.inl rfl) pm_M185 T2002.2.1 rfl (by decide) (Nat.lt_of_lt_of_le (by decide) T2002.1) rfl rfl (Nat.le_of_ble_eq_true rfl) rfl rfl ?_
                have e2021 := (F2003.cell (by decide) (F1851.cell (by decide) (F1804.cell (by decide) (F1746.cell (by decide) (F1728.cell (by decide) (F1720.cell (by decide) (F1715.cell (by decide) (F1710.cell (by decide) (F1705.cell (by decide) (F1684.cell (by decide) (F1669.cell (by decide) e3)))))))))))
                refine rf_c185_d (d := d + 3) T2002 (⟨f2, e2021, ct4, fun z => (sf_pos B2009 (by decide) z)⟩) (fun z => sf_pos B2009 (by decide) z) (fun m2024 w2025 h2026 T2027 F2028 W2029 X2030 => ?_)
                have F2031 := F2006.trans F2028 (by decide)
                have B2032 : sf_B 0 600 (m2024 10) := by rw [W2029 10 (by decide)]; exact B2007
                have ek2033 : (m2024 10).toInt = ((m1847 10)).toInt := by rw [W2029 10 (by decide)]; exact ek2008
                have B2034 : sf_B 1 4 (m2024 17) := by rw [W2029 17 (by decide)]; exact B2009
                have ek2035 : (m2024 17).toInt = ((m1847 17)).toInt := by rw [W2029 17 (by decide)]; exact ek2010
                have B2036 : sf_B 0 0 (m2024 22) := by rw [W2029 22 (by decide)]; exact B2011
                have ek2037 : (m2024 22).toInt = ((m1847 22)).toInt := by rw [W2029 22 (by decide)]; exact ek2012
                have B2038 : sf_B 0 99 (m2024 21) := by rw [W2029 21 (by decide)]; exact B2013
                have ek2039 : (m2024 21).toInt = ((m1847 21)).toInt := by rw [W2029 21 (by decide)]; exact ek2014
                have W2040 : rf_W [10, 12, 13, 14, 16, 17, 18, 21, 22] m m2024 := W2015.trans W2029 (by decide)
                show pm_R _ 189 236 [.ref 41, .long a0, pm_no, .int a1, pm_no] [] _ _
                obtain ⟨f2041, e2042, ct2043, bd2044⟩ := X2030
                refine pm_R_op pm_M189 (pc' := 237) (st' := [.int 1]) (pm_q189_2 (Nat.le_of_ble_eq_true rfl)) rfl rfl ?_
                exact pm_R_ret pm_M189 (r := some (.int 1)) (pm_q189_2 (Nat.le_of_ble_eq_true rfl)) rfl (K1 m2024 w2025 h2026 T2027 F2031 W2040 (⟨f2041, e2042, ct2043, fun z => (sf_pos B2034 (by decide) z)⟩) (sf_aux39 _ _ _ ek2033 R1994))
              · have B2045 : sf_B 0 98 (m1847 21) := sf_ltL (Int32.not_le.mp c2000) B1988 B1996
                have B2046 : sf_B 1 99 v1995 := sf_ltR (Int32.not_le.mp c2000) B1988 B1996
                refine pm_R_lo pm_M191 (pc' := 27) rfl rfl rfl ?_
                refine rf_R_get pm_M191 T1850 (pc' := 30) (v := .ref 52) rfl rfl rfl rfl ?_
                refine pm_R_lo pm_M191 (pc' := 31) rfl rfl rfl ?_
                refine pm_R_iald pm_M191 (pc' := 32) (v := v1995) rfl e1997 (Nat.lt_of_lt_of_le (by decide) T1850.1) rfl sf_upd_eq rfl ?_
                refine pm_R_br pm_M191 (pc' := 39) rfl rfl ?_
                refine rf_R_put pm_M191 T1850 (pc' := 42) rfl rfl rfl (by decide) rfl rfl (sf_weak B2046 (by decide) (by decide)) rfl rfl (fun h2049 m2052 em2053 T2050 F2051 => ?_)
                have F2054 := F1987.trans F2051 (by decide)
                have B2055 : sf_B 0 600 (m2052 10) := by rw [em2053]; exact B1991
                have ek2056 : (m2052 10).toInt = ((m1847 10)).toInt := by rw [em2053]; rfl
                have B2057 : sf_B 1 4 (m2052 17) := by rw [em2053]; exact B1856
                have ek2058 : (m2052 17).toInt = ((m1847 17)).toInt := by rw [em2053]; rfl
                have B2059 : sf_B 0 0 (m2052 22) := by rw [em2053]; exact B1857
                have ek2060 : (m2052 22).toInt = ((m1847 22)).toInt := by rw [em2053]; rfl
                have B2061 : sf_B 1 99 (m2052 21) := by rw [em2053]; exact B2046
                have ek2062 : (m2052 21).toInt = (v1995).toInt := by rw [em2053]; rfl
                have W2063 : rf_W [10, 12, 13, 14, 16, 17, 18, 21, 22] m m2052 := by rw [em2053]; exact W1990.put (by decide)
                refine pm_R_lo pm_M191 (pc' := 43) rfl rfl rfl ?_
                refine pm_R_ret pm_M191 (r := some (.int 1)) rfl rfl ?_
                show pm_R _ 189 202 [.ref 41, .long a0, pm_no, .int a1, pm_no] [.int 1] _ _
                refine pm_R_br pm_M189 (pc' := 205) (st' := []) (pm_q189_1 (Nat.le_of_ble_eq_true rfl)) rfl ?_
                refine pm_R_lo pm_M189 (pc' := 206) (pm_q189_1 (Nat.le_of_ble_eq_true rfl)) rfl rfl ?_
                refine pm_R_ldc2 pm_M189 (pc' := 209) (pm_q189_1 (Nat.le_of_ble_eq_true rfl)) rfl rfl ?_
                refine sf_R_lcmp pm_M189 (pc' := 210) (pm_q189_1 (Nat.le_of_ble_eq_true rfl)) rfl (fun z2064 e2065 => ?_)
                have B2066 : sf_B (-2147483648) (-1) z2064 := lf_cmpLt e2065 B342 (⟨by decide, by decide⟩ : lf_B 1935767923 1935767923 1935767923) (by decide)
                refine pm_R_ifc pm_M189 (t := 226) (pc' := 213) (pm_q189_1 (Nat.le_of_ble_eq_true rfl)) rfl rfl (fun c2067 => ?_) (fun c2067 => absurd (Classical.not_not.mp c2067) (sf_neq2 B2066 sf_k0 (by decide)))
                have k2068 := sf_lneC e2065 c2067
                refine pm_R_lo pm_M189 (pc' := 227) (pm_q189_2 (Nat.le_of_ble_eq_true rfl)) rfl rfl ?_
                refine pm_R_op pm_M189 (pc' := 228) (st' := [.int 1, .ref 41]) (pm_q189_2 (Nat.le_of_ble_eq_true rfl)) rfl rfl ?_
                refine pm_R_op pm_M189 (pc' := 229) (st' := [.int 2, .int 1, .ref 41]) (pm_q189_2 (Nat.le_of_ble_eq_true rfl)) rfl rfl ?_
                refine pm_R_op pm_M189 (pc' := 230) (st' := [.int 3, .int 2, .int 1, .ref 41]) (pm_q189_2 (Nat.le_of_ble_eq_true rfl)) rfl rfl ?_
                refine pm_R_op pm_M189 (pc' := 232) (st' := [.int 50, .int 3, .int 2, .int 1, .ref 41]) (pm_q189_2 (Nat.le_of_ble_eq_true rfl)) rfl rfl ?_
                refine pm_R_op pm_M189 (pc' := 233) (st' := [.int 0, .int 50, .int 3, .int 2, .int 1, .ref 41]) (pm_q189_2 (Nat.le_of_ble_eq_true rfl)) rfl rfl ?_
                refine pm_R_cv pm_M189 (pc' := 236) (a := 41) (ra := [.int 0, .int 50, .int 3, .int 2, .int 1]) (rest := []) (ls' := [.ref 41, .int 1, .int 2, .int 3, .int 50, .int 0, pm_no, pm_no]) (pm_q189_2 (Nat.le_of_ble_eq_true rfl)) rfl (Or.inl rfl) pm_M185 T2050.2.1 rfl (by decide) (Nat.lt_of_lt_of_le (by decide) T2050.1) rfl rfl (Nat.le_of_ble_eq_true rfl) rfl rfl ?_
                have e2069 := (F2051.cell (by decide) (F1851.cell (by decide) (F1804.cell (by decide) (F1746.cell (by decide) (F1728.cell (by decide) (F1720.cell (by decide) (F1715.cell (by decide) (F1710.cell (by decide) (F1705.cell (by decide) (F1684.cell (by decide) (F1669.cell (by decide) e3)))))))))))
                refine rf_c185_d (d := d + 3) T2050 (⟨f2, e2069, ct4, fun z => (sf_pos B2057 (by decide) z)⟩) (fun z => sf_pos B2057 (by decide) z) (fun m2072 w2073 h2074 T2075 F2076 W2077 X2078 => ?_)
                have F2079 := F2054.trans F2076 (by decide)
                have B2080 : sf_B 0 600 (m2072 10) := by rw [W2077 10 (by decide)]; exact B2055
                have ek2081 : (m2072 10).toInt = ((m1847 10)).toInt := by rw [W2077 10 (by decide)]; exact ek2056
                have B2082 : sf_B 1 4 (m2072 17) := by rw [W2077 17 (by decide)]; exact B2057
                have ek2083 : (m2072 17).toInt = ((m1847 17)).toInt := by rw [W2077 17 (by decide)]; exact ek2058
                have B2084 : sf_B 0 0 (m2072 22) := by rw [W2077 22 (by decide)]; exact B2059
                have ek2085 : (m2072 22).toInt = ((m1847 22)).toInt := by rw [W2077 22 (by decide)]; exact ek2060
                have B2086 : sf_B 1 99 (m2072 21) := by rw [W2077 21 (by decide)]; exact B2061
                have ek2087 : (m2072 21).toInt = (v1995).toInt := by rw [W2077 21 (by decide)]; exact ek2062
                have W2088 : rf_W [10, 12, 13, 14, 16, 17, 18, 21, 22] m m2072 := W2063.trans W2077 (by decide)
                show pm_R _ 189 236 [.ref 41, .long a0, pm_no, .int a1, pm_no] [] _ _
                obtain ⟨f2089, e2090, ct2091, bd2092⟩ := X2078
                refine pm_R_op pm_M189 (pc' := 237) (st' := [.int 1]) (pm_q189_2 (Nat.le_of_ble_eq_true rfl)) rfl rfl ?_
                exact pm_R_ret pm_M189 (r := some (.int 1)) (pm_q189_2 (Nat.le_of_ble_eq_true rfl)) rfl (K1 m2072 w2073 h2074 T2075 F2079 W2088 (⟨f2089, e2090, ct2091, fun z => (sf_pos B2082 (by decide) z)⟩) (sf_aux39 _ _ _ ek2081 R1994))
          · have B2093 : sf_B (-1) 4 (m1742 21) := sf_ltL (Int32.not_le.mp c1800) B1799 B1795
            refine pm_R_lo pm_M191 (pc' := 27) rfl rfl rfl ?_
            refine rf_R_get pm_M191 T1745 (pc' := 30) (v := .ref 52) rfl rfl rfl rfl ?_
            refine pm_R_lo pm_M191 (pc' := 31) rfl rfl rfl ?_
            refine pm_R_iald pm_M191 (pc' := 32) (v := v1794) rfl e1796 (Nat.lt_of_lt_of_le (by decide) T1745.1) rfl sf_upd_eq rfl ?_
            refine pm_R_br pm_M191 (pc' := 39) rfl rfl ?_
            refine rf_R_put pm_M191 T1745 (pc' := 42) rfl rfl rfl (by decide) rfl rfl (sf_weak B1795 (by decide) (by decide)) rfl rfl (fun h2096 m2099 em2100 T2097 F2098 => ?_)
            have F2101 := F1788.trans F2098 (by decide)
            have B2102 : sf_B 0 600 (m2099 10) := by rw [em2100]; exact B1790
            have ek2103 : (m2099 10).toInt = ((m1742 10)).toInt := by rw [em2100]; rfl
            have B2104 : sf_B 1 4 (m2099 17) := by rw [em2100]; exact (sf_eqT X1749 B1689)
            have ek2105 : (m2099 17).toInt = ((m1680 17)).toInt := by rw [em2100]; exact X1749
            have B2106 : sf_B 0 1 (m2099 22) := by rw [em2100]; exact (sf_eqT X1750 B1691)
            have ek2107 : (m2099 22).toInt = ((m1680 22)).toInt := by rw [em2100]; exact X1750
            have B2108 : sf_B 0 5 (m2099 21) := by rw [em2100]; exact B1795
            have ek2109 : (m2099 21).toInt = (v1794).toInt := by rw [em2100]; rfl
            have W2110 : rf_W [10, 12, 13, 14, 16, 17, 18, 21, 22] m m2099 := by rw [em2100]; exact W1789.put (by decide)
            refine pm_R_lo pm_M191 (pc' := 43) rfl rfl rfl ?_
            refine pm_R_ret pm_M191 (r := some (.int 1)) rfl rfl ?_
            show pm_R _ 189 178 [.ref 41, .long a0, pm_no, .int a1, pm_no] [.int 1] _ _
            refine pm_R_br pm_M189 (pc' := 183) (st' := []) (pm_q189_1 (Nat.le_of_ble_eq_true rfl)) rfl ?_
            refine pm_R_lo pm_M189 (pc' := 184) (pm_q189_1 (Nat.le_of_ble_eq_true rfl)) rfl rfl ?_
            refine pm_R_ldc2 pm_M189 (pc' := 187) (pm_q189_1 (Nat.le_of_ble_eq_true rfl)) rfl rfl ?_
            refine pm_R_op pm_M189 (pc' := 188) (st' := [.int z338]) (pm_q189_1 (Nat.le_of_ble_eq_true rfl)) (by show some (Value.int (lg_cmp a0 1819242347) :: _) = _; rw [← e339]) rfl ?_
            refine pm_R_ifc pm_M189 (t := 205) (pc' := 191) (pm_q189_1 (Nat.le_of_ble_eq_true rfl)) rfl rfl (fun c2113 => absurd (sf_pt2 B341 sf_k0) c2113) (fun c2113 => ?_)
            refine pm_R_lo pm_M189 (pc' := 192) (pm_q189_1 (Nat.le_of_ble_eq_true rfl)) rfl rfl ?_
            refine pm_R_op pm_M189 (pc' := 193) (st' := [.int 2, .ref 41]) (pm_q189_1 (Nat.le_of_ble_eq_true rfl)) rfl rfl ?_
            refine pm_R_lo pm_M189 (pc' := 194) (pm_q189_1 (Nat.le_of_ble_eq_true rfl)) rfl rfl ?_
            refine rf_R_get pm_M189 T2097 (pc' := 197) (v := .ref 52) (pm_q189_1 (Nat.le_of_ble_eq_true rfl)) rfl rfl rfl ?_
            refine pm_R_op pm_M189 (pc' := 198) (st' := [.int 1, .ref 52, .int 2, .ref 41]) (pm_q189_1 (Nat.le_of_ble_eq_true rfl)) rfl rfl ?_
            have e2114 := (F2098.cell (by decide) e1796)
            refine pm_R_iald pm_M189 (pc' := 199) (v := v1794) (pm_q189_1 (Nat.le_of_ble_eq_true rfl)) e2114 (Nat.lt_of_lt_of_le (by decide) T2097.1) rfl sf_upd_eq rfl ?_
            refine pm_R_cv pm_M189 (pc' := 202) (a := 41) (ra := [.int v1794, .int 2]) (rest := []) (ls' := [.ref 41, .int 2, .int v1794, pm_no]) (pm_q189_1 (Nat.le_of_ble_eq_true rfl)) rfl (Or.inl rfl) pm_M191 T2097.2.1 rfl (by decide) (Nat.lt_of_lt_of_le (by decide) T2097.1) rfl rfl (Nat.le_of_ble_eq_true rfl) rfl rfl ?_
            refine pm_R_lo pm_M191 (pc' := 1) rfl rfl rfl ?_
            refine pm_R_lo pm_M191 (pc' := 2) rfl rfl rfl ?_
            refine pm_R_op pm_M191 (pc' := 3) (st' := [.int 5, .int 2, .ref 41]) rfl rfl rfl ?_
            refine pm_R_lo pm_M191 (pc' := 4) rfl rfl rfl ?_
            refine pm_R_cv pm_M191 (pc' := 7) (a := 41) (ra := [.int v1794, .int 5, .int 2]) (rest := []) (ls' := [.ref 41, .int 2, .int 5, .int v1794]) rfl rfl (Or.inl rfl) pm_M183 T2097.2.1 rfl (by decide) (Nat.lt_of_lt_of_le (by decide) T2097.1) rfl rfl (Nat.le_of_ble_eq_true rfl) rfl rfl ?_
            refine rf_c183_2_5 (d := d + 0) T2097  (fun m2119 w2120 h2121 T2122 F2123 W2124 X2125 => ?_) (fun m2128 w2129 h2130 T2131 F2132 W2133 X2134 X2135 X2136 X2137 X2138 => ?_) (fun m2141 w2142 h2143 T2144 F2145 W2146 X2147 X2148 X2149 B2150 B2151 => ?_)
            · have F2152 := F2101.trans F2123 (by decide)
              have B2153 : sf_B 0 5 (m2119 21) := by rw [W2124 21 (by decide)]; exact B2108
              have ek2154 : (m2119 21).toInt = (v1794).toInt := by rw [W2124 21 (by decide)]; exact ek2109
              have W2155 : rf_W [10, 12, 13, 14, 16, 17, 18, 21, 22] m m2119 := W2110.trans W2124 (by decide)
              have B2156 : sf_B 0 600 (m2119 10) := T2122.2.2.1 10
              have B2157 : sf_B 0 4 (m2119 17) := T2122.2.2.1 17
              have B2158 : sf_B 0 1 (m2119 22) := T2122.2.2.1 22
              show pm_R _ 191 7 [.ref 41, .int 2, .int v1794, pm_no] [.int 0] _ _
              have R2159 : (m 10).toInt ≤ (m2119 10).toInt := (sf_aux77 _ _ _ _ ek2103 R1793 X2125)
              refine pm_R_lo pm_M191 (pc' := 8) (ls' := [.ref 41, .int 2, .int v1794, .int 0]) (st' := []) rfl rfl rfl ?_
              refine pm_R_lo pm_M191 (pc' := 9) rfl rfl rfl ?_
              refine pm_R_lo pm_M191 (pc' := 10) rfl rfl rfl ?_
              refine pm_R_br pm_M191 (pc' := 35) (st' := [.ref 41]) rfl rfl ?_
              refine pm_R_lo pm_M191 (pc' := 36) rfl rfl rfl ?_
              refine rf_R_get pm_M191 T2122 (pc' := 39) (v := .int (m2119 21)) rfl rfl rfl rfl ?_
              refine rf_R_put pm_M191 T2122 (pc' := 42) rfl rfl rfl (by decide) rfl rfl (sf_weak B2153 (by decide) (by decide)) rfl rfl (fun h2160 m2163 em2164 T2161 F2162 => ?_)
              have F2165 := F2152.trans F2162 (by decide)
              have B2166 : sf_B 0 600 (m2163 10) := by rw [em2164]; exact B2156
              have ek2167 : (m2163 10).toInt = ((m2119 10)).toInt := by rw [em2164]; rfl
              have B2168 : sf_B 0 4 (m2163 17) := by rw [em2164]; exact B2157
              have ek2169 : (m2163 17).toInt = ((m2119 17)).toInt := by rw [em2164]; rfl
              have B2170 : sf_B 0 1 (m2163 22) := by rw [em2164]; exact B2158
              have ek2171 : (m2163 22).toInt = ((m2119 22)).toInt := by rw [em2164]; rfl
              have B2172 : sf_B 0 5 (m2163 21) := by rw [em2164]; exact B2153
              have ek2173 : (m2163 21).toInt = ((m2119 21)).toInt := by rw [em2164]; rfl
              have W2174 : rf_W [10, 12, 13, 14, 16, 17, 18, 21, 22] m m2163 := by rw [em2164]; exact W2155.put (by decide)
              refine pm_R_lo pm_M191 (pc' := 43) rfl rfl rfl ?_
              refine pm_R_ret pm_M191 (r := some (.int 0)) rfl rfl ?_
              show pm_R _ 189 202 [.ref 41, .long a0, pm_no, .int a1, pm_no] [.int 0] _ _
              refine pm_R_br pm_M189 (pc' := 224) (st' := []) (pm_q189_1 (Nat.le_of_ble_eq_true rfl)) rfl ?_
              refine pm_R_op pm_M189 (pc' := 225) (st' := [.int 0]) (pm_q189_2 (Nat.le_of_ble_eq_true rfl)) rfl rfl ?_
              exact pm_R_ret pm_M189 (r := some (.int 0)) (pm_q189_2 (Nat.le_of_ble_eq_true rfl)) rfl (K0 m2163 w2120 h2160 T2161 F2165 W2174 (sf_aux39 _ _ _ ek2167 R2159))
            · have F2175 := F2101.trans F2132 (by decide)
              have B2176 : sf_B 0 5 (m2128 21) := by rw [W2133 21 (by decide)]; exact B2108
              have ek2177 : (m2128 21).toInt = (v1794).toInt := by rw [W2133 21 (by decide)]; exact ek2109
              have W2178 : rf_W [10, 12, 13, 14, 16, 17, 18, 21, 22] m m2128 := W2110.trans W2133 (by decide)
              have B2179 : sf_B 0 600 (m2128 10) := T2131.2.2.1 10
              have B2180 : sf_B 0 4 (m2128 17) := T2131.2.2.1 17
              have B2181 : sf_B 0 1 (m2128 22) := T2131.2.2.1 22
              show pm_R _ 191 7 [.ref 41, .int 2, .int v1794, pm_no] [.int 1] _ _
              have R2182 : (m 10).toInt ≤ (m2128 10).toInt := (sf_aux77 _ _ _ _ ek2103 R1793 X2138)
              obtain ⟨v2183, B2184, e2185⟩ := X2134 _ e2114
              refine pm_R_lo pm_M191 (pc' := 8) (ls' := [.ref 41, .int 2, .int v1794, .int 1]) (st' := []) rfl rfl rfl ?_
              refine pm_R_lo pm_M191 (pc' := 9) rfl rfl rfl ?_
              refine pm_R_lo pm_M191 (pc' := 10) rfl rfl rfl ?_
              refine pm_R_br pm_M191 (pc' := 13) (st' := [.ref 41]) rfl rfl ?_
              refine pm_R_lo pm_M191 (pc' := 14) rfl rfl rfl ?_
              refine rf_R_get pm_M191 T2131 (pc' := 17) (v := .ref 52) rfl rfl rfl rfl ?_
              refine pm_R_lo pm_M191 (pc' := 18) rfl rfl rfl ?_
              refine pm_R_iald pm_M191 (pc' := 19) (v := v2183) rfl e2185 (Nat.lt_of_lt_of_le (by decide) T2131.1) rfl sf_upd_eq rfl ?_
              refine pm_R_lo pm_M191 (pc' := 20) rfl rfl rfl ?_
              refine rf_R_get pm_M191 T2131 (pc' := 23) (v := .int (m2128 21)) rfl rfl rfl rfl ?_
              refine pm_R_icmp pm_M191 (t := 35) (pc' := 26) rfl rfl rfl (fun c2188 => ?_) (fun c2188 => ?_)
              · skip
                refine pm_R_lo pm_M191 (pc' := 36) rfl rfl rfl ?_
                refine rf_R_get pm_M191 T2131 (pc' := 39) (v := .int (m2128 21)) rfl rfl rfl rfl ?_
                refine rf_R_put pm_M191 T2131 (pc' := 42) rfl rfl rfl (by decide) rfl rfl (sf_weak B2176 (by decide) (by decide)) rfl rfl (fun h2189 m2192 em2193 T2190 F2191 => ?_)
                have F2194 := F2175.trans F2191 (by decide)
                have B2195 : sf_B 0 600 (m2192 10) := by rw [em2193]; exact B2179
                have ek2196 : (m2192 10).toInt = ((m2128 10)).toInt := by rw [em2193]; rfl
                have B2197 : sf_B 1 4 (m2192 17) := by rw [em2193]; exact (sf_eqT X2135 B2104)
                have ek2198 : (m2192 17).toInt = ((m2099 17)).toInt := by rw [em2193]; exact X2135
                have B2199 : sf_B 0 1 (m2192 22) := by rw [em2193]; exact (sf_eqT X2136 B2106)
                have ek2200 : (m2192 22).toInt = ((m2099 22)).toInt := by rw [em2193]; exact X2136
                have B2201 : sf_B 0 5 (m2192 21) := by rw [em2193]; exact B2176
                have ek2202 : (m2192 21).toInt = ((m2128 21)).toInt := by rw [em2193]; rfl
                have W2203 : rf_W [10, 12, 13, 14, 16, 17, 18, 21, 22] m m2192 := by rw [em2193]; exact W2178.put (by decide)
                refine pm_R_lo pm_M191 (pc' := 43) rfl rfl rfl ?_
                refine pm_R_ret pm_M191 (r := some (.int 1)) rfl rfl ?_
                show pm_R _ 189 202 [.ref 41, .long a0, pm_no, .int a1, pm_no] [.int 1] _ _
                refine pm_R_br pm_M189 (pc' := 205) (st' := []) (pm_q189_1 (Nat.le_of_ble_eq_true rfl)) rfl ?_
                refine pm_R_lo pm_M189 (pc' := 206) (pm_q189_1 (Nat.le_of_ble_eq_true rfl)) rfl rfl ?_
                refine pm_R_ldc2 pm_M189 (pc' := 209) (pm_q189_1 (Nat.le_of_ble_eq_true rfl)) rfl rfl ?_
                refine sf_R_lcmp pm_M189 (pc' := 210) (pm_q189_1 (Nat.le_of_ble_eq_true rfl)) rfl (fun z2204 e2205 => ?_)
                have B2206 : sf_B (-2147483648) (-1) z2204 := lf_cmpLt e2205 B342 (⟨by decide, by decide⟩ : lf_B 1935767923 1935767923 1935767923) (by decide)
                refine pm_R_ifc pm_M189 (t := 226) (pc' := 213) (pm_q189_1 (Nat.le_of_ble_eq_true rfl)) rfl rfl (fun c2207 => ?_) (fun c2207 => absurd (Classical.not_not.mp c2207) (sf_neq2 B2206 sf_k0 (by decide)))
                have k2208 := sf_lneC e2205 c2207
                refine pm_R_lo pm_M189 (pc' := 227) (pm_q189_2 (Nat.le_of_ble_eq_true rfl)) rfl rfl ?_
                refine pm_R_op pm_M189 (pc' := 228) (st' := [.int 1, .ref 41]) (pm_q189_2 (Nat.le_of_ble_eq_true rfl)) rfl rfl ?_
                refine pm_R_op pm_M189 (pc' := 229) (st' := [.int 2, .int 1, .ref 41]) (pm_q189_2 (Nat.le_of_ble_eq_true rfl)) rfl rfl ?_
                refine pm_R_op pm_M189 (pc' := 230) (st' := [.int 3, .int 2, .int 1, .ref 41]) (pm_q189_2 (Nat.le_of_ble_eq_true rfl)) rfl rfl ?_
                refine pm_R_op pm_M189 (pc' := 232) (st' := [.int 50, .int 3, .int 2, .int 1, .ref 41]) (pm_q189_2 (Nat.le_of_ble_eq_true rfl)) rfl rfl ?_
                refine pm_R_op pm_M189 (pc' := 233) (st' := [.int 0, .int 50, .int 3, .int 2, .int 1, .ref 41]) (pm_q189_2 (Nat.le_of_ble_eq_true rfl)) rfl rfl ?_
                refine pm_R_cv pm_M189 (pc' := 236) (a := 41) (ra := [.int 0, .int 50, .int 3, .int 2, .int 1]) (rest := []) (ls' := [.ref 41, .int 1, .int 2, .int 3, .int 50, .int 0, pm_no, pm_no]) (pm_q189_2 (Nat.le_of_ble_eq_true rfl)) rfl (Or.inl rfl) pm_M185 T2190.2.1 rfl (by decide) (Nat.lt_of_lt_of_le (by decide) T2190.1) rfl rfl (Nat.le_of_ble_eq_true rfl) rfl rfl ?_
                have e2209 := (F2191.cell (by decide) (F2132.cell (by decide) (F2098.cell (by decide) (F1746.cell (by decide) (F1728.cell (by decide) (F1720.cell (by decide) (F1715.cell (by decide) (F1710.cell (by decide) (F1705.cell (by decide) (F1684.cell (by decide) (F1669.cell (by decide) e3)))))))))))
                refine rf_c185_d (d := d + 3) T2190 (⟨f2, e2209, ct4, fun z => (sf_pos B2197 (by decide) z)⟩) (fun z => sf_pos B2197 (by decide) z) (fun m2212 w2213 h2214 T2215 F2216 W2217 X2218 => ?_)
                have F2219 := F2194.trans F2216 (by decide)
                have B2220 : sf_B 0 600 (m2212 10) := by rw [W2217 10 (by decide)]; exact B2195
                have ek2221 : (m2212 10).toInt = ((m2128 10)).toInt := by rw [W2217 10 (by decide)]; exact ek2196
                have B2222 : sf_B 1 4 (m2212 17) := by rw [W2217 17 (by decide)]; exact B2197
                have ek2223 : (m2212 17).toInt = ((m2099 17)).toInt := by rw [W2217 17 (by decide)]; exact ek2198
                have B2224 : sf_B 0 1 (m2212 22) := by rw [W2217 22 (by decide)]; exact B2199
                have ek2225 : (m2212 22).toInt = ((m2099 22)).toInt := by rw [W2217 22 (by decide)]; exact ek2200
                have B2226 : sf_B 0 5 (m2212 21) := by rw [W2217 21 (by decide)]; exact B2201
                have ek2227 : (m2212 21).toInt = ((m2128 21)).toInt := by rw [W2217 21 (by decide)]; exact ek2202
                have W2228 : rf_W [10, 12, 13, 14, 16, 17, 18, 21, 22] m m2212 := W2203.trans W2217 (by decide)
                show pm_R _ 189 236 [.ref 41, .long a0, pm_no, .int a1, pm_no] [] _ _
                obtain ⟨f2229, e2230, ct2231, bd2232⟩ := X2218
                refine pm_R_op pm_M189 (pc' := 237) (st' := [.int 1]) (pm_q189_2 (Nat.le_of_ble_eq_true rfl)) rfl rfl ?_
                exact pm_R_ret pm_M189 (r := some (.int 1)) (pm_q189_2 (Nat.le_of_ble_eq_true rfl)) rfl (K1 m2212 w2213 h2214 T2215 F2219 W2228 (⟨f2229, e2230, ct2231, fun z => (sf_pos B2222 (by decide) z)⟩) (sf_aux39 _ _ _ ek2221 R2182))
              · have B2233 : sf_B 0 4 (m2128 21) := sf_ltL (Int32.not_le.mp c2188) B2176 B2184
                have B2234 : sf_B 1 5 v2183 := sf_ltR (Int32.not_le.mp c2188) B2176 B2184
                refine pm_R_lo pm_M191 (pc' := 27) rfl rfl rfl ?_
                refine rf_R_get pm_M191 T2131 (pc' := 30) (v := .ref 52) rfl rfl rfl rfl ?_
                refine pm_R_lo pm_M191 (pc' := 31) rfl rfl rfl ?_
                refine pm_R_iald pm_M191 (pc' := 32) (v := v2183) rfl e2185 (Nat.lt_of_lt_of_le (by decide) T2131.1) rfl sf_upd_eq rfl ?_
                refine pm_R_br pm_M191 (pc' := 39) rfl rfl ?_
                refine rf_R_put pm_M191 T2131 (pc' := 42) rfl rfl rfl (by decide) rfl rfl (sf_weak B2234 (by decide) (by decide)) rfl rfl (fun h2237 m2240 em2241 T2238 F2239 => ?_)
                have F2242 := F2175.trans F2239 (by decide)
                have B2243 : sf_B 0 600 (m2240 10) := by rw [em2241]; exact B2179
                have ek2244 : (m2240 10).toInt = ((m2128 10)).toInt := by rw [em2241]; rfl
                have B2245 : sf_B 1 4 (m2240 17) := by rw [em2241]; exact (sf_eqT X2135 B2104)
                have ek2246 : (m2240 17).toInt = ((m2099 17)).toInt := by rw [em2241]; exact X2135
                have B2247 : sf_B 0 1 (m2240 22) := by rw [em2241]; exact (sf_eqT X2136 B2106)
                have ek2248 : (m2240 22).toInt = ((m2099 22)).toInt := by rw [em2241]; exact X2136
                have B2249 : sf_B 1 5 (m2240 21) := by rw [em2241]; exact B2234
                have ek2250 : (m2240 21).toInt = (v2183).toInt := by rw [em2241]; rfl
                have W2251 : rf_W [10, 12, 13, 14, 16, 17, 18, 21, 22] m m2240 := by rw [em2241]; exact W2178.put (by decide)
                refine pm_R_lo pm_M191 (pc' := 43) rfl rfl rfl ?_
                refine pm_R_ret pm_M191 (r := some (.int 1)) rfl rfl ?_
                show pm_R _ 189 202 [.ref 41, .long a0, pm_no, .int a1, pm_no] [.int 1] _ _
                refine pm_R_br pm_M189 (pc' := 205) (st' := []) (pm_q189_1 (Nat.le_of_ble_eq_true rfl)) rfl ?_
                refine pm_R_lo pm_M189 (pc' := 206) (pm_q189_1 (Nat.le_of_ble_eq_true rfl)) rfl rfl ?_
                refine pm_R_ldc2 pm_M189 (pc' := 209) (pm_q189_1 (Nat.le_of_ble_eq_true rfl)) rfl rfl ?_
                refine sf_R_lcmp pm_M189 (pc' := 210) (pm_q189_1 (Nat.le_of_ble_eq_true rfl)) rfl (fun z2252 e2253 => ?_)
                have B2254 : sf_B (-2147483648) (-1) z2252 := lf_cmpLt e2253 B342 (⟨by decide, by decide⟩ : lf_B 1935767923 1935767923 1935767923) (by decide)
                refine pm_R_ifc pm_M189 (t := 226) (pc' := 213) (pm_q189_1 (Nat.le_of_ble_eq_true rfl)) rfl rfl (fun c2255 => ?_) (fun c2255 => absurd (Classical.not_not.mp c2255) (sf_neq2 B2254 sf_k0 (by decide)))
                have k2256 := sf_lneC e2253 c2255
                refine pm_R_lo pm_M189 (pc' := 227) (pm_q189_2 (Nat.le_of_ble_eq_true rfl)) rfl rfl ?_
                refine pm_R_op pm_M189 (pc' := 228) (st' := [.int 1, .ref 41]) (pm_q189_2 (Nat.le_of_ble_eq_true rfl)) rfl rfl ?_
                refine pm_R_op pm_M189 (pc' := 229) (st' := [.int 2, .int 1, .ref 41]) (pm_q189_2 (Nat.le_of_ble_eq_true rfl)) rfl rfl ?_
                refine pm_R_op pm_M189 (pc' := 230) (st' := [.int 3, .int 2, .int 1, .ref 41]) (pm_q189_2 (Nat.le_of_ble_eq_true rfl)) rfl rfl ?_
                refine pm_R_op pm_M189 (pc' := 232) (st' := [.int 50, .int 3, .int 2, .int 1, .ref 41]) (pm_q189_2 (Nat.le_of_ble_eq_true rfl)) rfl rfl ?_
                refine pm_R_op pm_M189 (pc' := 233) (st' := [.int 0, .int 50, .int 3, .int 2, .int 1, .ref 41]) (pm_q189_2 (Nat.le_of_ble_eq_true rfl)) rfl rfl ?_
                refine pm_R_cv pm_M189 (pc' := 236) (a := 41) (ra := [.int 0, .int 50, .int 3, .int 2, .int 1]) (rest := []) (ls' := [.ref 41, .int 1, .int 2, .int 3, .int 50, .int 0, pm_no, pm_no]) (pm_q189_2 (Nat.le_of_ble_eq_true rfl)) rfl (Or.inl rfl) pm_M185 T2238.2.1 rfl (by decide) (Nat.lt_of_lt_of_le (by decide) T2238.1) rfl rfl (Nat.le_of_ble_eq_true rfl) rfl rfl ?_
                have e2257 := (F2239.cell (by decide) (F2132.cell (by decide) (F2098.cell (by decide) (F1746.cell (by decide) (F1728.cell (by decide) (F1720.cell (by decide) (F1715.cell (by decide) (F1710.cell (by decide) (F1705.cell (by decide) (F1684.cell (by decide) (F1669.cell (by decide) e3)))))))))))
                refine rf_c185_d (d := d + 3) T2238 (⟨f2, e2257, ct4, fun z => (sf_pos B2245 (by decide) z)⟩) (fun z => sf_pos B2245 (by decide) z) (fun m2260 w2261 h2262 T2263 F2264 W2265 X2266 => ?_)
                have F2267 := F2242.trans F2264 (by decide)
                have B2268 : sf_B 0 600 (m2260 10) := by rw [W2265 10 (by decide)]; exact B2243
                have ek2269 : (m2260 10).toInt = ((m2128 10)).toInt := by rw [W2265 10 (by decide)]; exact ek2244
                have B2270 : sf_B 1 4 (m2260 17) := by rw [W2265 17 (by decide)]; exact B2245
                have ek2271 : (m2260 17).toInt = ((m2099 17)).toInt := by rw [W2265 17 (by decide)]; exact ek2246
                have B2272 : sf_B 0 1 (m2260 22) := by rw [W2265 22 (by decide)]; exact B2247
                have ek2273 : (m2260 22).toInt = ((m2099 22)).toInt := by rw [W2265 22 (by decide)]; exact ek2248
                have B2274 : sf_B 1 5 (m2260 21) := by rw [W2265 21 (by decide)]; exact B2249
                have ek2275 : (m2260 21).toInt = (v2183).toInt := by rw [W2265 21 (by decide)]; exact ek2250
                have W2276 : rf_W [10, 12, 13, 14, 16, 17, 18, 21, 22] m m2260 := W2251.trans W2265 (by decide)
                show pm_R _ 189 236 [.ref 41, .long a0, pm_no, .int a1, pm_no] [] _ _
                obtain ⟨f2277, e2278, ct2279, bd2280⟩ := X2266
                refine pm_R_op pm_M189 (pc' := 237) (st' := [.int 1]) (pm_q189_2 (Nat.le_of_ble_eq_true rfl)) rfl rfl ?_
                exact pm_R_ret pm_M189 (r := some (.int 1)) (pm_q189_2 (Nat.le_of_ble_eq_true rfl)) rfl (K1 m2260 w2261 h2262 T2263 F2267 W2276 (⟨f2277, e2278, ct2279, fun z => (sf_pos B2270 (by decide) z)⟩) (sf_aux39 _ _ _ ek2269 R2182))
            · have F2281 := F2101.trans F2145 (by decide)
              have B2282 : sf_B 0 5 (m2141 21) := by rw [W2146 21 (by decide)]; exact B2108
              have ek2283 : (m2141 21).toInt = (v1794).toInt := by rw [W2146 21 (by decide)]; exact ek2109
              have W2284 : rf_W [10, 12, 13, 14, 16, 17, 18, 21, 22] m m2141 := W2110.trans W2146 (by decide)
              have B2285 : sf_B 0 600 (m2141 10) := T2144.2.2.1 10
              have B2286 : sf_B 0 4 (m2141 17) := T2144.2.2.1 17
              have B2287 : sf_B 0 1 (m2141 22) := T2144.2.2.1 22
              show pm_R _ 191 7 [.ref 41, .int 2, .int v1794, pm_no] [.int 1] _ _
              have R2288 : (m 10).toInt ≤ (m2141 10).toInt := (sf_aux77 _ _ _ _ ek2103 R1793 X2149)
              obtain ⟨v2289, B2290, e2291⟩ := X2147 _ e2114
              refine pm_R_lo pm_M191 (pc' := 8) (ls' := [.ref 41, .int 2, .int v1794, .int 1]) (st' := []) rfl rfl rfl ?_
              refine pm_R_lo pm_M191 (pc' := 9) rfl rfl rfl ?_
              refine pm_R_lo pm_M191 (pc' := 10) rfl rfl rfl ?_
              refine pm_R_br pm_M191 (pc' := 13) (st' := [.ref 41]) rfl rfl ?_
              refine pm_R_lo pm_M191 (pc' := 14) rfl rfl rfl ?_
              refine rf_R_get pm_M191 T2144 (pc' := 17) (v := .ref 52) rfl rfl rfl rfl ?_
              refine pm_R_lo pm_M191 (pc' := 18) rfl rfl rfl ?_
              refine pm_R_iald pm_M191 (pc' := 19) (v := v2289) rfl e2291 (Nat.lt_of_lt_of_le (by decide) T2144.1) rfl sf_upd_eq rfl ?_
              refine pm_R_lo pm_M191 (pc' := 20) rfl rfl rfl ?_
              refine rf_R_get pm_M191 T2144 (pc' := 23) (v := .int (m2141 21)) rfl rfl rfl rfl ?_
              refine pm_R_icmp pm_M191 (t := 35) (pc' := 26) rfl rfl rfl (fun c2294 => ?_) (fun c2294 => ?_)
              · have B2295 : sf_B 0 5 v2289 := sf_leL c2294 B2290 B2282
                refine pm_R_lo pm_M191 (pc' := 36) rfl rfl rfl ?_
                refine rf_R_get pm_M191 T2144 (pc' := 39) (v := .int (m2141 21)) rfl rfl rfl rfl ?_
                refine rf_R_put pm_M191 T2144 (pc' := 42) rfl rfl rfl (by decide) rfl rfl (sf_weak B2282 (by decide) (by decide)) rfl rfl (fun h2296 m2299 em2300 T2297 F2298 => ?_)
                have F2301 := F2281.trans F2298 (by decide)
                have B2302 : sf_B 0 600 (m2299 10) := by rw [em2300]; exact B2285
                have ek2303 : (m2299 10).toInt = ((m2141 10)).toInt := by rw [em2300]; rfl
                have B2304 : sf_B 1 4 (m2299 17) := by rw [em2300]; exact B2150
                have ek2305 : (m2299 17).toInt = ((m2141 17)).toInt := by rw [em2300]; rfl
                have B2306 : sf_B 0 0 (m2299 22) := by rw [em2300]; exact B2151
                have ek2307 : (m2299 22).toInt = ((m2141 22)).toInt := by rw [em2300]; rfl
                have B2308 : sf_B 0 5 (m2299 21) := by rw [em2300]; exact B2282
                have ek2309 : (m2299 21).toInt = ((m2141 21)).toInt := by rw [em2300]; rfl
                have W2310 : rf_W [10, 12, 13, 14, 16, 17, 18, 21, 22] m m2299 := by rw [em2300]; exact W2284.put (by decide)
                refine pm_R_lo pm_M191 (pc' := 43) rfl rfl rfl ?_
                refine pm_R_ret pm_M191 (r := some (.int 1)) rfl rfl ?_
                show pm_R _ 189 202 [.ref 41, .long a0, pm_no, .int a1, pm_no] [.int 1] _ _
                refine pm_R_br pm_M189 (pc' := 205) (st' := []) (pm_q189_1 (Nat.le_of_ble_eq_true rfl)) rfl ?_
                refine pm_R_lo pm_M189 (pc' := 206) (pm_q189_1 (Nat.le_of_ble_eq_true rfl)) rfl rfl ?_
                refine pm_R_ldc2 pm_M189 (pc' := 209) (pm_q189_1 (Nat.le_of_ble_eq_true rfl)) rfl rfl ?_
                refine sf_R_lcmp pm_M189 (pc' := 210) (pm_q189_1 (Nat.le_of_ble_eq_true rfl)) rfl (fun z2311 e2312 => ?_)
                have B2313 : sf_B (-2147483648) (-1) z2311 := lf_cmpLt e2312 B342 (⟨by decide, by decide⟩ : lf_B 1935767923 1935767923 1935767923) (by decide)
                refine pm_R_ifc pm_M189 (t := 226) (pc' := 213) (pm_q189_1 (Nat.le_of_ble_eq_true rfl)) rfl rfl (fun c2314 => ?_) (fun c2314 => absurd (Classical.not_not.mp c2314) (sf_neq2 B2313 sf_k0 (by decide)))
                have k2315 := sf_lneC e2312 c2314
                refine pm_R_lo pm_M189 (pc' := 227) (pm_q189_2 (Nat.le_of_ble_eq_true rfl)) rfl rfl ?_
                refine pm_R_op pm_M189 (pc' := 228) (st' := [.int 1, .ref 41]) (pm_q189_2 (Nat.le_of_ble_eq_true rfl)) rfl rfl ?_
                refine pm_R_op pm_M189 (pc' := 229) (st' := [.int 2, .int 1, .ref 41]) (pm_q189_2 (Nat.le_of_ble_eq_true rfl)) rfl rfl ?_
                refine pm_R_op pm_M189 (pc' := 230) (st' := [.int 3, .int 2, .int 1, .ref 41]) (pm_q189_2 (Nat.le_of_ble_eq_true rfl)) rfl rfl ?_
                refine pm_R_op pm_M189 (pc' := 232) (st' := [.int 50, .int 3, .int 2, .int 1, .ref 41]) (pm_q189_2 (Nat.le_of_ble_eq_true rfl)) rfl rfl ?_
                refine pm_R_op pm_M189 (pc' := 233) (st' := [.int 0, .int 50, .int 3, .int 2, .int 1, .ref 41]) (pm_q189_2 (Nat.le_of_ble_eq_true rfl)) rfl rfl ?_
                refine pm_R_cv pm_M189 (pc' := 236) (a := 41) (ra := [.int 0, .int 50, .int 3, .int 2, .int 1]) (rest := []) (ls' := [.ref 41, .int 1, .int 2, .int 3, .int 50, .int 0, pm_no, pm_no]) (pm_q189_2 (Nat.le_of_ble_eq_true rfl)) rfl (Or.inl rfl) pm_M185 T2297.2.1 rfl (by decide) (Nat.lt_of_lt_of_le (by decide) T2297.1) rfl rfl (Nat.le_of_ble_eq_true rfl) rfl rfl ?_
                have e2316 := (F2298.cell (by decide) (F2145.cell (by decide) (F2098.cell (by decide) (F1746.cell (by decide) (F1728.cell (by decide) (F1720.cell (by decide) (F1715.cell (by decide) (F1710.cell (by decide) (F1705.cell (by decide) (F1684.cell (by decide) (F1669.cell (by decide) e3)))))))))))
                refine rf_c185_d (d := d + 3) T2297 (⟨f2, e2316, ct4, fun z => (sf_pos B2304 (by decide) z)⟩) (fun z => sf_pos B2304 (by decide) z) (fun m2319 w2320 h2321 T2322 F2323 W2324 X2325 => ?_)
                have F2326 := F2301.trans F2323 (by decide)
                have B2327 : sf_B 0 600 (m2319 10) := by rw [W2324 10 (by decide)]; exact B2302
                have ek2328 : (m2319 10).toInt = ((m2141 10)).toInt := by rw [W2324 10 (by decide)]; exact ek2303
                have B2329 : sf_B 1 4 (m2319 17) := by rw [W2324 17 (by decide)]; exact B2304
                have ek2330 : (m2319 17).toInt = ((m2141 17)).toInt := by rw [W2324 17 (by decide)]; exact ek2305
                have B2331 : sf_B 0 0 (m2319 22) := by rw [W2324 22 (by decide)]; exact B2306
                have ek2332 : (m2319 22).toInt = ((m2141 22)).toInt := by rw [W2324 22 (by decide)]; exact ek2307
                have B2333 : sf_B 0 5 (m2319 21) := by rw [W2324 21 (by decide)]; exact B2308
                have ek2334 : (m2319 21).toInt = ((m2141 21)).toInt := by rw [W2324 21 (by decide)]; exact ek2309
                have W2335 : rf_W [10, 12, 13, 14, 16, 17, 18, 21, 22] m m2319 := W2310.trans W2324 (by decide)
                show pm_R _ 189 236 [.ref 41, .long a0, pm_no, .int a1, pm_no] [] _ _
                obtain ⟨f2336, e2337, ct2338, bd2339⟩ := X2325
                refine pm_R_op pm_M189 (pc' := 237) (st' := [.int 1]) (pm_q189_2 (Nat.le_of_ble_eq_true rfl)) rfl rfl ?_
                exact pm_R_ret pm_M189 (r := some (.int 1)) (pm_q189_2 (Nat.le_of_ble_eq_true rfl)) rfl (K1 m2319 w2320 h2321 T2322 F2326 W2335 (⟨f2336, e2337, ct2338, fun z => (sf_pos B2329 (by decide) z)⟩) (sf_aux39 _ _ _ ek2328 R2288))
              · have B2340 : sf_B 1 99 v2289 := sf_ltR (Int32.not_le.mp c2294) B2282 B2290
                refine pm_R_lo pm_M191 (pc' := 27) rfl rfl rfl ?_
                refine rf_R_get pm_M191 T2144 (pc' := 30) (v := .ref 52) rfl rfl rfl rfl ?_
                refine pm_R_lo pm_M191 (pc' := 31) rfl rfl rfl ?_
                refine pm_R_iald pm_M191 (pc' := 32) (v := v2289) rfl e2291 (Nat.lt_of_lt_of_le (by decide) T2144.1) rfl sf_upd_eq rfl ?_
                refine pm_R_br pm_M191 (pc' := 39) rfl rfl ?_
                refine rf_R_put pm_M191 T2144 (pc' := 42) rfl rfl rfl (by decide) rfl rfl (sf_weak B2340 (by decide) (by decide)) rfl rfl (fun h2343 m2346 em2347 T2344 F2345 => ?_)
                have F2348 := F2281.trans F2345 (by decide)
                have B2349 : sf_B 0 600 (m2346 10) := by rw [em2347]; exact B2285
                have ek2350 : (m2346 10).toInt = ((m2141 10)).toInt := by rw [em2347]; rfl
                have B2351 : sf_B 1 4 (m2346 17) := by rw [em2347]; exact B2150
                have ek2352 : (m2346 17).toInt = ((m2141 17)).toInt := by rw [em2347]; rfl
                have B2353 : sf_B 0 0 (m2346 22) := by rw [em2347]; exact B2151
                have ek2354 : (m2346 22).toInt = ((m2141 22)).toInt := by rw [em2347]; rfl
                have B2355 : sf_B 1 99 (m2346 21) := by rw [em2347]; exact B2340
                have ek2356 : (m2346 21).toInt = (v2289).toInt := by rw [em2347]; rfl
                have W2357 : rf_W [10, 12, 13, 14, 16, 17, 18, 21, 22] m m2346 := by rw [em2347]; exact W2284.put (by decide)
                refine pm_R_lo pm_M191 (pc' := 43) rfl rfl rfl ?_
                refine pm_R_ret pm_M191 (r := some (.int 1)) rfl rfl ?_
                show pm_R _ 189 202 [.ref 41, .long a0, pm_no, .int a1, pm_no] [.int 1] _ _
                refine pm_R_br pm_M189 (pc' := 205) (st' := []) (pm_q189_1 (Nat.le_of_ble_eq_true rfl)) rfl ?_
                refine pm_R_lo pm_M189 (pc' := 206) (pm_q189_1 (Nat.le_of_ble_eq_true rfl)) rfl rfl ?_
                refine pm_R_ldc2 pm_M189 (pc' := 209) (pm_q189_1 (Nat.le_of_ble_eq_true rfl)) rfl rfl ?_
                refine sf_R_lcmp pm_M189 (pc' := 210) (pm_q189_1 (Nat.le_of_ble_eq_true rfl)) rfl (fun z2358 e2359 => ?_)
                have B2360 : sf_B (-2147483648) (-1) z2358 := lf_cmpLt e2359 B342 (⟨by decide, by decide⟩ : lf_B 1935767923 1935767923 1935767923) (by decide)
                refine pm_R_ifc pm_M189 (t := 226) (pc' := 213) (pm_q189_1 (Nat.le_of_ble_eq_true rfl)) rfl rfl (fun c2361 => ?_) (fun c2361 => absurd (Classical.not_not.mp c2361) (sf_neq2 B2360 sf_k0 (by decide)))
                have k2362 := sf_lneC e2359 c2361
                refine pm_R_lo pm_M189 (pc' := 227) (pm_q189_2 (Nat.le_of_ble_eq_true rfl)) rfl rfl ?_
                refine pm_R_op pm_M189 (pc' := 228) (st' := [.int 1, .ref 41]) (pm_q189_2 (Nat.le_of_ble_eq_true rfl)) rfl rfl ?_
                refine pm_R_op pm_M189 (pc' := 229) (st' := [.int 2, .int 1, .ref 41]) (pm_q189_2 (Nat.le_of_ble_eq_true rfl)) rfl rfl ?_
                refine pm_R_op pm_M189 (pc' := 230) (st' := [.int 3, .int 2, .int 1, .ref 41]) (pm_q189_2 (Nat.le_of_ble_eq_true rfl)) rfl rfl ?_
                refine pm_R_op pm_M189 (pc' := 232) (st' := [.int 50, .int 3, .int 2, .int 1, .ref 41]) (pm_q189_2 (Nat.le_of_ble_eq_true rfl)) rfl rfl ?_
                refine pm_R_op pm_M189 (pc' := 233) (st' := [.int 0, .int 50, .int 3, .int 2, .int 1, .ref 41]) (pm_q189_2 (Nat.le_of_ble_eq_true rfl)) rfl rfl ?_
                refine pm_R_cv pm_M189 (pc' := 236) (a := 41) (ra := [.int 0, .int 50, .int 3, .int 2, .int 1]) (rest := []) (ls' := [.ref 41, .int 1, .int 2, .int 3, .int 50, .int 0, pm_no, pm_no]) (pm_q189_2 (Nat.le_of_ble_eq_true rfl)) rfl (Or.inl rfl) pm_M185 T2344.2.1 rfl (by decide) (Nat.lt_of_lt_of_le (by decide) T2344.1) rfl rfl (Nat.le_of_ble_eq_true rfl) rfl rfl ?_
                have e2363 := (F2345.cell (by decide) (F2145.cell (by decide) (F2098.cell (by decide) (F1746.cell (by decide) (F1728.cell (by decide) (F1720.cell (by decide) (F1715.cell (by decide) (F1710.cell (by decide) (F1705.cell (by decide) (F1684.cell (by decide) (F1669.cell (by decide) e3)))))))))))
                refine rf_c185_d (d := d + 3) T2344 (⟨f2, e2363, ct4, fun z => (sf_pos B2351 (by decide) z)⟩) (fun z => sf_pos B2351 (by decide) z) (fun m2366 w2367 h2368 T2369 F2370 W2371 X2372 => ?_)
                have F2373 := F2348.trans F2370 (by decide)
                have B2374 : sf_B 0 600 (m2366 10) := by rw [W2371 10 (by decide)]; exact B2349
                have ek2375 : (m2366 10).toInt = ((m2141 10)).toInt := by rw [W2371 10 (by decide)]; exact ek2350
                have B2376 : sf_B 1 4 (m2366 17) := by rw [W2371 17 (by decide)]; exact B2351
                have ek2377 : (m2366 17).toInt = ((m2141 17)).toInt := by rw [W2371 17 (by decide)]; exact ek2352
                have B2378 : sf_B 0 0 (m2366 22) := by rw [W2371 22 (by decide)]; exact B2353
                have ek2379 : (m2366 22).toInt = ((m2141 22)).toInt := by rw [W2371 22 (by decide)]; exact ek2354
                have B2380 : sf_B 1 99 (m2366 21) := by rw [W2371 21 (by decide)]; exact B2355
                have ek2381 : (m2366 21).toInt = (v2289).toInt := by rw [W2371 21 (by decide)]; exact ek2356
                have W2382 : rf_W [10, 12, 13, 14, 16, 17, 18, 21, 22] m m2366 := W2357.trans W2371 (by decide)
                show pm_R _ 189 236 [.ref 41, .long a0, pm_no, .int a1, pm_no] [] _ _
                obtain ⟨f2383, e2384, ct2385, bd2386⟩ := X2372
                refine pm_R_op pm_M189 (pc' := 237) (st' := [.int 1]) (pm_q189_2 (Nat.le_of_ble_eq_true rfl)) rfl rfl ?_
                exact pm_R_ret pm_M189 (r := some (.int 1)) (pm_q189_2 (Nat.le_of_ble_eq_true rfl)) rfl (K1 m2366 w2367 h2368 T2369 F2373 W2382 (⟨f2383, e2384, ct2385, fun z => (sf_pos B2376 (by decide) z)⟩) (sf_aux39 _ _ _ ek2375 R2288))
        · have F2387 := F1730.trans F1759 (by decide)
          have W2388 : rf_W [10, 12, 13, 14, 16, 17, 18, 21, 22] m m1755 := W1693.trans W1760 (by decide)
          have B2389 : sf_B 0 600 (m1755 10) := T1758.2.2.1 10
          have B2390 : sf_B 0 4 (m1755 17) := T1758.2.2.1 17
          have B2391 : sf_B 0 1 (m1755 22) := T1758.2.2.1 22
          show pm_R _ 191 7 [.ref 41, .int 1, .int (-1), pm_no] [.int 1] _ _
          have R2392 : (m 10).toInt ≤ (m1755 10).toInt := (sf_aux70 _ _ _ R1695 X1763)
          obtain ⟨v2393, B2394, e2395⟩ := X1761 _ e1729
          refine pm_R_lo pm_M191 (pc' := 8) (ls' := [.ref 41, .int 1, .int (-1), .int 1]) (st' := []) rfl rfl rfl ?_
          refine pm_R_lo pm_M191 (pc' := 9) rfl rfl rfl ?_
          refine pm_R_lo pm_M191 (pc' := 10) rfl rfl rfl ?_
          refine pm_R_br pm_M191 (pc' := 13) (st' := [.ref 41]) rfl rfl ?_
          refine pm_R_lo pm_M191 (pc' := 14) rfl rfl rfl ?_
          refine rf_R_get pm_M191 T1758 (pc' := 17) (v := .ref 52) rfl rfl rfl rfl ?_
          refine pm_R_lo pm_M191 (pc' := 18) rfl rfl rfl ?_
          refine pm_R_iald pm_M191 (pc' := 19) (v := v2393) rfl e2395 (Nat.lt_of_lt_of_le (by decide) T1758.1) rfl sf_upd_eq rfl ?_
          refine pm_R_lo pm_M191 (pc' := 20) rfl rfl rfl ?_
          have B2398 : sf_B (-1) 99 (m1755 21) := T1758.2.2.1 21
          refine rf_R_get pm_M191 T1758 (pc' := 23) (v := .int (m1755 21)) rfl rfl rfl rfl ?_
          refine pm_R_icmp pm_M191 (t := 35) (pc' := 26) rfl rfl rfl (fun c2399 => ?_) (fun c2399 => ?_)
          · have B2400 : sf_B 0 99 (m1755 21) := sf_leR c2399 B2394 B2398
            refine pm_R_lo pm_M191 (pc' := 36) rfl rfl rfl ?_
            refine rf_R_get pm_M191 T1758 (pc' := 39) (v := .int (m1755 21)) rfl rfl rfl rfl ?_
            refine rf_R_put pm_M191 T1758 (pc' := 42) rfl rfl rfl (by decide) rfl rfl (sf_weak B2400 (by decide) (by decide)) rfl rfl (fun h2401 m2404 em2405 T2402 F2403 => ?_)
            have F2406 := F2387.trans F2403 (by decide)
            have B2407 : sf_B 0 600 (m2404 10) := by rw [em2405]; exact B2389
            have ek2408 : (m2404 10).toInt = ((m1755 10)).toInt := by rw [em2405]; rfl
            have B2409 : sf_B 1 4 (m2404 17) := by rw [em2405]; exact B1764
            have ek2410 : (m2404 17).toInt = ((m1755 17)).toInt := by rw [em2405]; rfl
            have B2411 : sf_B 0 0 (m2404 22) := by rw [em2405]; exact B1765
            have ek2412 : (m2404 22).toInt = ((m1755 22)).toInt := by rw [em2405]; rfl
            have B2413 : sf_B 0 99 (m2404 21) := by rw [em2405]; exact B2400
            have ek2414 : (m2404 21).toInt = ((m1755 21)).toInt := by rw [em2405]; rfl
            have W2415 : rf_W [10, 12, 13, 14, 16, 17, 18, 21, 22] m m2404 := by rw [em2405]; exact W2388.put (by decide)
            refine pm_R_lo pm_M191 (pc' := 43) rfl rfl rfl ?_
            refine pm_R_ret pm_M191 (r := some (.int 1)) rfl rfl ?_
            show pm_R _ 189 178 [.ref 41, .long a0, pm_no, .int a1, pm_no] [.int 1] _ _
            refine pm_R_br pm_M189 (pc' := 183) (st' := []) (pm_q189_1 (Nat.le_of_ble_eq_true rfl)) rfl ?_
            refine pm_R_lo pm_M189 (pc' := 184) (pm_q189_1 (Nat.le_of_ble_eq_true rfl)) rfl rfl ?_
            refine pm_R_ldc2 pm_M189 (pc' := 187) (pm_q189_1 (Nat.le_of_ble_eq_true rfl)) rfl rfl ?_
            refine pm_R_op pm_M189 (pc' := 188) (st' := [.int z338]) (pm_q189_1 (Nat.le_of_ble_eq_true rfl)) (by show some (Value.int (lg_cmp a0 1819242347) :: _) = _; rw [← e339]) rfl ?_
            refine pm_R_ifc pm_M189 (t := 205) (pc' := 191) (pm_q189_1 (Nat.le_of_ble_eq_true rfl)) rfl rfl (fun c2418 => absurd (sf_pt2 B341 sf_k0) c2418) (fun c2418 => ?_)
            refine pm_R_lo pm_M189 (pc' := 192) (pm_q189_1 (Nat.le_of_ble_eq_true rfl)) rfl rfl ?_
            refine pm_R_op pm_M189 (pc' := 193) (st' := [.int 2, .ref 41]) (pm_q189_1 (Nat.le_of_ble_eq_true rfl)) rfl rfl ?_
            refine pm_R_lo pm_M189 (pc' := 194) (pm_q189_1 (Nat.le_of_ble_eq_true rfl)) rfl rfl ?_
            refine rf_R_get pm_M189 T2402 (pc' := 197) (v := .ref 52) (pm_q189_1 (Nat.le_of_ble_eq_true rfl)) rfl rfl rfl ?_
            refine pm_R_op pm_M189 (pc' := 198) (st' := [.int 1, .ref 52, .int 2, .ref 41]) (pm_q189_1 (Nat.le_of_ble_eq_true rfl)) rfl rfl ?_
            have e2419 := (F2403.cell (by decide) e2395)
            refine pm_R_iald pm_M189 (pc' := 199) (v := v2393) (pm_q189_1 (Nat.le_of_ble_eq_true rfl)) e2419 (Nat.lt_of_lt_of_le (by decide) T2402.1) rfl sf_upd_eq rfl ?_
            refine pm_R_cv pm_M189 (pc' := 202) (a := 41) (ra := [.int v2393, .int 2]) (rest := []) (ls' := [.ref 41, .int 2, .int v2393, pm_no]) (pm_q189_1 (Nat.le_of_ble_eq_true rfl)) rfl (Or.inl rfl) pm_M191 T2402.2.1 rfl (by decide) (Nat.lt_of_lt_of_le (by decide) T2402.1) rfl rfl (Nat.le_of_ble_eq_true rfl) rfl rfl ?_
            refine pm_R_lo pm_M191 (pc' := 1) rfl rfl rfl ?_
            refine pm_R_lo pm_M191 (pc' := 2) rfl rfl rfl ?_
            refine pm_R_op pm_M191 (pc' := 3) (st' := [.int 5, .int 2, .ref 41]) rfl rfl rfl ?_
            refine pm_R_lo pm_M191 (pc' := 4) rfl rfl rfl ?_
            refine pm_R_cv pm_M191 (pc' := 7) (a := 41) (ra := [.int v2393, .int 5, .int 2]) (rest := []) (ls' := [.ref 41, .int 2, .int 5, .int v2393]) rfl rfl (Or.inl rfl) pm_M183 T2402.2.1 rfl (by decide) (Nat.lt_of_lt_of_le (by decide) T2402.1) rfl rfl (Nat.le_of_ble_eq_true rfl) rfl rfl ?_
            refine rf_c183_2_5 (d := d + 0) T2402  (fun m2424 w2425 h2426 T2427 F2428 W2429 X2430 => ?_) (fun m2433 w2434 h2435 T2436 F2437 W2438 X2439 X2440 X2441 X2442 X2443 => ?_) (fun m2446 w2447 h2448 T2449 F2450 W2451 X2452 X2453 X2454 B2455 B2456 => ?_)
            · have F2457 := F2406.trans F2428 (by decide)
              have B2458 : sf_B 0 99 (m2424 21) := by rw [W2429 21 (by decide)]; exact B2413
              have ek2459 : (m2424 21).toInt = ((m1755 21)).toInt := by rw [W2429 21 (by decide)]; exact ek2414
              have W2460 : rf_W [10, 12, 13, 14, 16, 17, 18, 21, 22] m m2424 := W2415.trans W2429 (by decide)
              have B2461 : sf_B 0 600 (m2424 10) := T2427.2.2.1 10
              have B2462 : sf_B 0 4 (m2424 17) := T2427.2.2.1 17
              have B2463 : sf_B 0 1 (m2424 22) := T2427.2.2.1 22
              show pm_R _ 191 7 [.ref 41, .int 2, .int v2393, pm_no] [.int 0] _ _
              have R2464 : (m 10).toInt ≤ (m2424 10).toInt := (sf_aux77 _ _ _ _ ek2408 R2392 X2430)
              refine pm_R_lo pm_M191 (pc' := 8) (ls' := [.ref 41, .int 2, .int v2393, .int 0]) (st' := []) rfl rfl rfl ?_
              refine pm_R_lo pm_M191 (pc' := 9) rfl rfl rfl ?_
              refine pm_R_lo pm_M191 (pc' := 10) rfl rfl rfl ?_
              refine pm_R_br pm_M191 (pc' := 35) (st' := [.ref 41]) rfl rfl ?_
              refine pm_R_lo pm_M191 (pc' := 36) rfl rfl rfl ?_
              refine rf_R_get pm_M191 T2427 (pc' := 39) (v := .int (m2424 21)) rfl rfl rfl rfl ?_
              refine rf_R_put pm_M191 T2427 (pc' := 42) rfl rfl rfl (by decide) rfl rfl (sf_weak B2458 (by decide) (by decide)) rfl rfl (fun h2465 m2468 em2469 T2466 F2467 => ?_)
              have F2470 := F2457.trans F2467 (by decide)
              have B2471 : sf_B 0 600 (m2468 10) := by rw [em2469]; exact B2461
              have ek2472 : (m2468 10).toInt = ((m2424 10)).toInt := by rw [em2469]; rfl
              have B2473 : sf_B 0 4 (m2468 17) := by rw [em2469]; exact B2462
              have ek2474 : (m2468 17).toInt = ((m2424 17)).toInt := by rw [em2469]; rfl
              have B2475 : sf_B 0 1 (m2468 22) := by rw [em2469]; exact B2463
              have ek2476 : (m2468 22).toInt = ((m2424 22)).toInt := by rw [em2469]; rfl
              have B2477 : sf_B 0 99 (m2468 21) := by rw [em2469]; exact B2458
              have ek2478 : (m2468 21).toInt = ((m2424 21)).toInt := by rw [em2469]; rfl
              have W2479 : rf_W [10, 12, 13, 14, 16, 17, 18, 21, 22] m m2468 := by rw [em2469]; exact W2460.put (by decide)
              refine pm_R_lo pm_M191 (pc' := 43) rfl rfl rfl ?_
              refine pm_R_ret pm_M191 (r := some (.int 0)) rfl rfl ?_
              show pm_R _ 189 202 [.ref 41, .long a0, pm_no, .int a1, pm_no] [.int 0] _ _
              refine pm_R_br pm_M189 (pc' := 224) (st' := []) (pm_q189_1 (Nat.le_of_ble_eq_true rfl)) rfl ?_
              refine pm_R_op pm_M189 (pc' := 225) (st' := [.int 0]) (pm_q189_2 (Nat.le_of_ble_eq_true rfl)) rfl rfl ?_
              exact pm_R_ret pm_M189 (r := some (.int 0)) (pm_q189_2 (Nat.le_of_ble_eq_true rfl)) rfl (K0 m2468 w2425 h2465 T2466 F2470 W2479 (sf_aux39 _ _ _ ek2472 R2464))
            · have F2480 := F2406.trans F2437 (by decide)
              have B2481 : sf_B 0 99 (m2433 21) := by rw [W2438 21 (by decide)]; exact B2413
              have ek2482 : (m2433 21).toInt = ((m1755 21)).toInt := by rw [W2438 21 (by decide)]; exact ek2414
              have W2483 : rf_W [10, 12, 13, 14, 16, 17, 18, 21, 22] m m2433 := W2415.trans W2438 (by decide)
              have B2484 : sf_B 0 600 (m2433 10) := T2436.2.2.1 10
              have B2485 : sf_B 0 4 (m2433 17) := T2436.2.2.1 17
              have B2486 : sf_B 0 1 (m2433 22) := T2436.2.2.1 22
              show pm_R _ 191 7 [.ref 41, .int 2, .int v2393, pm_no] [.int 1] _ _
              have R2487 : (m 10).toInt ≤ (m2433 10).toInt := (sf_aux77 _ _ _ _ ek2408 R2392 X2443)
              obtain ⟨v2488, B2489, e2490⟩ := X2439 _ e2419
              refine pm_R_lo pm_M191 (pc' := 8) (ls' := [.ref 41, .int 2, .int v2393, .int 1]) (st' := []) rfl rfl rfl ?_
              refine pm_R_lo pm_M191 (pc' := 9) rfl rfl rfl ?_
              refine pm_R_lo pm_M191 (pc' := 10) rfl rfl rfl ?_
              refine pm_R_br pm_M191 (pc' := 13) (st' := [.ref 41]) rfl rfl ?_
              refine pm_R_lo pm_M191 (pc' := 14) rfl rfl rfl ?_
              refine rf_R_get pm_M191 T2436 (pc' := 17) (v := .ref 52) rfl rfl rfl rfl ?_
              refine pm_R_lo pm_M191 (pc' := 18) rfl rfl rfl ?_
              refine pm_R_iald pm_M191 (pc' := 19) (v := v2488) rfl e2490 (Nat.lt_of_lt_of_le (by decide) T2436.1) rfl sf_upd_eq rfl ?_
              refine pm_R_lo pm_M191 (pc' := 20) rfl rfl rfl ?_
              refine rf_R_get pm_M191 T2436 (pc' := 23) (v := .int (m2433 21)) rfl rfl rfl rfl ?_
              refine pm_R_icmp pm_M191 (t := 35) (pc' := 26) rfl rfl rfl (fun c2493 => ?_) (fun c2493 => ?_)
              · skip
                refine pm_R_lo pm_M191 (pc' := 36) rfl rfl rfl ?_
                refine rf_R_get pm_M191 T2436 (pc' := 39) (v := .int (m2433 21)) rfl rfl rfl rfl ?_
                refine rf_R_put pm_M191 T2436 (pc' := 42) rfl rfl rfl (by decide) rfl rfl (sf_weak B2481 (by decide) (by decide)) rfl rfl (fun h2494 m2497 em2498 T2495 F2496 => ?_)
                have F2499 := F2480.trans F2496 (by decide)
                have B2500 : sf_B 0 600 (m2497 10) := by rw [em2498]; exact B2484
                have ek2501 : (m2497 10).toInt = ((m2433 10)).toInt := by rw [em2498]; rfl
                have B2502 : sf_B 1 4 (m2497 17) := by rw [em2498]; exact (sf_eqT X2440 B2409)
                have ek2503 : (m2497 17).toInt = ((m2404 17)).toInt := by rw [em2498]; exact X2440
                have B2504 : sf_B 0 0 (m2497 22) := by rw [em2498]; exact (sf_eqT X2441 B2411)
                have ek2505 : (m2497 22).toInt = ((m2404 22)).toInt := by rw [em2498]; exact X2441
                have B2506 : sf_B 0 99 (m2497 21) := by rw [em2498]; exact B2481
                have ek2507 : (m2497 21).toInt = ((m2433 21)).toInt := by rw [em2498]; rfl
                have W2508 : rf_W [10, 12, 13, 14, 16, 17, 18, 21, 22] m m2497 := by rw [em2498]; exact W2483.put (by decide)
                refine pm_R_lo pm_M191 (pc' := 43) rfl rfl rfl ?_
                refine pm_R_ret pm_M191 (r := some (.int 1)) rfl rfl ?_
                show pm_R _ 189 202 [.ref 41, .long a0, pm_no, .int a1, pm_no] [.int 1] _ _
                refine pm_R_br pm_M189 (pc' := 205) (st' := []) (pm_q189_1 (Nat.le_of_ble_eq_true rfl)) rfl ?_
                refine pm_R_lo pm_M189 (pc' := 206) (pm_q189_1 (Nat.le_of_ble_eq_true rfl)) rfl rfl ?_
                refine pm_R_ldc2 pm_M189 (pc' := 209) (pm_q189_1 (Nat.le_of_ble_eq_true rfl)) rfl rfl ?_
                refine sf_R_lcmp pm_M189 (pc' := 210) (pm_q189_1 (Nat.le_of_ble_eq_true rfl)) rfl (fun z2509 e2510 => ?_)
                have B2511 : sf_B (-2147483648) (-1) z2509 := lf_cmpLt e2510 B342 (⟨by decide, by decide⟩ : lf_B 1935767923 1935767923 1935767923) (by decide)
                refine pm_R_ifc pm_M189 (t := 226) (pc' := 213) (pm_q189_1 (Nat.le_of_ble_eq_true rfl)) rfl rfl (fun c2512 => ?_) (fun c2512 => absurd (Classical.not_not.mp c2512) (sf_neq2 B2511 sf_k0 (by decide)))
                have k2513 := sf_lneC e2510 c2512
                refine pm_R_lo pm_M189 (pc' := 227) (pm_q189_2 (Nat.le_of_ble_eq_true rfl)) rfl rfl ?_
                refine pm_R_op pm_M189 (pc' := 228) (st' := [.int 1, .ref 41]) (pm_q189_2 (Nat.le_of_ble_eq_true rfl)) rfl rfl ?_
                refine pm_R_op pm_M189 (pc' := 229) (st' := [.int 2, .int 1, .ref 41]) (pm_q189_2 (Nat.le_of_ble_eq_true rfl)) rfl rfl ?_
                refine pm_R_op pm_M189 (pc' := 230) (st' := [.int 3, .int 2, .int 1, .ref 41]) (pm_q189_2 (Nat.le_of_ble_eq_true rfl)) rfl rfl ?_
                refine pm_R_op pm_M189 (pc' := 232) (st' := [.int 50, .int 3, .int 2, .int 1, .ref 41]) (pm_q189_2 (Nat.le_of_ble_eq_true rfl)) rfl rfl ?_
                refine pm_R_op pm_M189 (pc' := 233) (st' := [.int 0, .int 50, .int 3, .int 2, .int 1, .ref 41]) (pm_q189_2 (Nat.le_of_ble_eq_true rfl)) rfl rfl ?_
                refine pm_R_cv pm_M189 (pc' := 236) (a := 41) (ra := [.int 0, .int 50, .int 3, .int 2, .int 1]) (rest := []) (ls' := [.ref 41, .int 1, .int 2, .int 3, .int 50, .int 0, pm_no, pm_no]) (pm_q189_2 (Nat.le_of_ble_eq_true rfl)) rfl (Or.inl rfl) pm_M185 T2495.2.1 rfl (by decide) (Nat.lt_of_lt_of_le (by decide) T2495.1) rfl rfl (Nat.le_of_ble_eq_true rfl) rfl rfl ?_
                have e2514 := (F2496.cell (by decide) (F2437.cell (by decide) (F2403.cell (by decide) (F1759.cell (by decide) (F1728.cell (by decide) (F1720.cell (by decide) (F1715.cell (by decide) (F1710.cell (by decide) (F1705.cell (by decide) (F1684.cell (by decide) (F1669.cell (by decide) e3)))))))))))
                refine rf_c185_d (d := d + 3) T2495 (⟨f2, e2514, ct4, fun z => (sf_pos B2502 (by decide) z)⟩) (fun z => sf_pos B2502 (by decide) z) (fun m2517 w2518 h2519 T2520 F2521 W2522 X2523 => ?_)
                have F2524 := F2499.trans F2521 (by decide)
                have B2525 : sf_B 0 600 (m2517 10) := by rw [W2522 10 (by decide)]; exact B2500
                have ek2526 : (m2517 10).toInt = ((m2433 10)).toInt := by rw [W2522 10 (by decide)]; exact ek2501
                have B2527 : sf_B 1 4 (m2517 17) := by rw [W2522 17 (by decide)]; exact B2502
                have ek2528 : (m2517 17).toInt = ((m2404 17)).toInt := by rw [W2522 17 (by decide)]; exact ek2503
                have B2529 : sf_B 0 0 (m2517 22) := by rw [W2522 22 (by decide)]; exact B2504
                have ek2530 : (m2517 22).toInt = ((m2404 22)).toInt := by rw [W2522 22 (by decide)]; exact ek2505
                have B2531 : sf_B 0 99 (m2517 21) := by rw [W2522 21 (by decide)]; exact B2506
                have ek2532 : (m2517 21).toInt = ((m2433 21)).toInt := by rw [W2522 21 (by decide)]; exact ek2507
                have W2533 : rf_W [10, 12, 13, 14, 16, 17, 18, 21, 22] m m2517 := W2508.trans W2522 (by decide)
                show pm_R _ 189 236 [.ref 41, .long a0, pm_no, .int a1, pm_no] [] _ _
                obtain ⟨f2534, e2535, ct2536, bd2537⟩ := X2523
                refine pm_R_op pm_M189 (pc' := 237) (st' := [.int 1]) (pm_q189_2 (Nat.le_of_ble_eq_true rfl)) rfl rfl ?_
                exact pm_R_ret pm_M189 (r := some (.int 1)) (pm_q189_2 (Nat.le_of_ble_eq_true rfl)) rfl (K1 m2517 w2518 h2519 T2520 F2524 W2533 (⟨f2534, e2535, ct2536, fun z => (sf_pos B2527 (by decide) z)⟩) (sf_aux39 _ _ _ ek2526 R2487))
              · have B2538 : sf_B 0 4 (m2433 21) := sf_ltL (Int32.not_le.mp c2493) B2481 B2489
                have B2539 : sf_B 1 5 v2488 := sf_ltR (Int32.not_le.mp c2493) B2481 B2489
                refine pm_R_lo pm_M191 (pc' := 27) rfl rfl rfl ?_
                refine rf_R_get pm_M191 T2436 (pc' := 30) (v := .ref 52) rfl rfl rfl rfl ?_
                refine pm_R_lo pm_M191 (pc' := 31) rfl rfl rfl ?_
                refine pm_R_iald pm_M191 (pc' := 32) (v := v2488) rfl e2490 (Nat.lt_of_lt_of_le (by decide) T2436.1) rfl sf_upd_eq rfl ?_
                refine pm_R_br pm_M191 (pc' := 39) rfl rfl ?_
                refine rf_R_put pm_M191 T2436 (pc' := 42) rfl rfl rfl (by decide) rfl rfl (sf_weak B2539 (by decide) (by decide)) rfl rfl (fun h2542 m2545 em2546 T2543 F2544 => ?_)
                have F2547 := F2480.trans F2544 (by decide)
                have B2548 : sf_B 0 600 (m2545 10) := by rw [em2546]; exact B2484
                have ek2549 : (m2545 10).toInt = ((m2433 10)).toInt := by rw [em2546]; rfl
                have B2550 : sf_B 1 4 (m2545 17) := by rw [em2546]; exact (sf_eqT X2440 B2409)
                have ek2551 : (m2545 17).toInt = ((m2404 17)).toInt := by rw [em2546]; exact X2440
                have B2552 : sf_B 0 0 (m2545 22) := by rw [em2546]; exact (sf_eqT X2441 B2411)
                have ek2553 : (m2545 22).toInt = ((m2404 22)).toInt := by rw [em2546]; exact X2441
                have B2554 : sf_B 1 5 (m2545 21) := by rw [em2546]; exact B2539
                have ek2555 : (m2545 21).toInt = (v2488).toInt := by rw [em2546]; rfl
                have W2556 : rf_W [10, 12, 13, 14, 16, 17, 18, 21, 22] m m2545 := by rw [em2546]; exact W2483.put (by decide)
                refine pm_R_lo pm_M191 (pc' := 43) rfl rfl rfl ?_
                refine pm_R_ret pm_M191 (r := some (.int 1)) rfl rfl ?_
                show pm_R _ 189 202 [.ref 41, .long a0, pm_no, .int a1, pm_no] [.int 1] _ _
                refine pm_R_br pm_M189 (pc' := 205) (st' := []) (pm_q189_1 (Nat.le_of_ble_eq_true rfl)) rfl ?_
                refine pm_R_lo pm_M189 (pc' := 206) (pm_q189_1 (Nat.le_of_ble_eq_true rfl)) rfl rfl ?_
                refine pm_R_ldc2 pm_M189 (pc' := 209) (pm_q189_1 (Nat.le_of_ble_eq_true rfl)) rfl rfl ?_
                refine sf_R_lcmp pm_M189 (pc' := 210) (pm_q189_1 (Nat.le_of_ble_eq_true rfl)) rfl (fun z2557 e2558 => ?_)
                have B2559 : sf_B (-2147483648) (-1) z2557 := lf_cmpLt e2558 B342 (⟨by decide, by decide⟩ : lf_B 1935767923 1935767923 1935767923) (by decide)
                refine pm_R_ifc pm_M189 (t := 226) (pc' := 213) (pm_q189_1 (Nat.le_of_ble_eq_true rfl)) rfl rfl (fun c2560 => ?_) (fun c2560 => absurd (Classical.not_not.mp c2560) (sf_neq2 B2559 sf_k0 (by decide)))
                have k2561 := sf_lneC e2558 c2560
                refine pm_R_lo pm_M189 (pc' := 227) (pm_q189_2 (Nat.le_of_ble_eq_true rfl)) rfl rfl ?_
                refine pm_R_op pm_M189 (pc' := 228) (st' := [.int 1, .ref 41]) (pm_q189_2 (Nat.le_of_ble_eq_true rfl)) rfl rfl ?_
                refine pm_R_op pm_M189 (pc' := 229) (st' := [.int 2, .int 1, .ref 41]) (pm_q189_2 (Nat.le_of_ble_eq_true rfl)) rfl rfl ?_
                refine pm_R_op pm_M189 (pc' := 230) (st' := [.int 3, .int 2, .int 1, .ref 41]) (pm_q189_2 (Nat.le_of_ble_eq_true rfl)) rfl rfl ?_
                refine pm_R_op pm_M189 (pc' := 232) (st' := [.int 50, .int 3, .int 2, .int 1, .ref 41]) (pm_q189_2 (Nat.le_of_ble_eq_true rfl)) rfl rfl ?_
                refine pm_R_op pm_M189 (pc' := 233) (st' := [.int 0, .int 50, .int 3, .int 2, .int 1, .ref 41]) (pm_q189_2 (Nat.le_of_ble_eq_true rfl)) rfl rfl ?_
                refine pm_R_cv pm_M189 (pc' := 236) (a := 41) (ra := [.int 0, .int 50, .int 3, .int 2, .int 1]) (rest := []) (ls' := [.ref 41, .int 1, .int 2, .int 3, .int 50, .int 0, pm_no, pm_no]) (pm_q189_2 (Nat.le_of_ble_eq_true rfl)) rfl (Or.inl rfl) pm_M185 T2543.2.1 rfl (by decide) (Nat.lt_of_lt_of_le (by decide) T2543.1) rfl rfl (Nat.le_of_ble_eq_true rfl) rfl rfl ?_
                have e2562 := (F2544.cell (by decide) (F2437.cell (by decide) (F2403.cell (by decide) (F1759.cell (by decide) (F1728.cell (by decide) (F1720.cell (by decide) (F1715.cell (by decide) (F1710.cell (by decide) (F1705.cell (by decide) (F1684.cell (by decide) (F1669.cell (by decide) e3)))))))))))
                refine rf_c185_d (d := d + 3) T2543 (⟨f2, e2562, ct4, fun z => (sf_pos B2550 (by decide) z)⟩) (fun z => sf_pos B2550 (by decide) z) (fun m2565 w2566 h2567 T2568 F2569 W2570 X2571 => ?_)
                have F2572 := F2547.trans F2569 (by decide)
                have B2573 : sf_B 0 600 (m2565 10) := by rw [W2570 10 (by decide)]; exact B2548
                have ek2574 : (m2565 10).toInt = ((m2433 10)).toInt := by rw [W2570 10 (by decide)]; exact ek2549
                have B2575 : sf_B 1 4 (m2565 17) := by rw [W2570 17 (by decide)]; exact B2550
                have ek2576 : (m2565 17).toInt = ((m2404 17)).toInt := by rw [W2570 17 (by decide)]; exact ek2551
                have B2577 : sf_B 0 0 (m2565 22) := by rw [W2570 22 (by decide)]; exact B2552
                have ek2578 : (m2565 22).toInt = ((m2404 22)).toInt := by rw [W2570 22 (by decide)]; exact ek2553
                have B2579 : sf_B 1 5 (m2565 21) := by rw [W2570 21 (by decide)]; exact B2554
                have ek2580 : (m2565 21).toInt = (v2488).toInt := by rw [W2570 21 (by decide)]; exact ek2555
                have W2581 : rf_W [10, 12, 13, 14, 16, 17, 18, 21, 22] m m2565 := W2556.trans W2570 (by decide)
                show pm_R _ 189 236 [.ref 41, .long a0, pm_no, .int a1, pm_no] [] _ _
                obtain ⟨f2582, e2583, ct2584, bd2585⟩ := X2571
                refine pm_R_op pm_M189 (pc' := 237) (st' := [.int 1]) (pm_q189_2 (Nat.le_of_ble_eq_true rfl)) rfl rfl ?_
                exact pm_R_ret pm_M189 (r := some (.int 1)) (pm_q189_2 (Nat.le_of_ble_eq_true rfl)) rfl (K1 m2565 w2566 h2567 T2568 F2572 W2581 (⟨f2582, e2583, ct2584, fun z => (sf_pos B2575 (by decide) z)⟩) (sf_aux39 _ _ _ ek2574 R2487))
            · have F2586 := F2406.trans F2450 (by decide)
              have B2587 : sf_B 0 99 (m2446 21) := by rw [W2451 21 (by decide)]; exact B2413
              have ek2588 : (m2446 21).toInt = ((m1755 21)).toInt := by rw [W2451 21 (by decide)]; exact ek2414
              have W2589 : rf_W [10, 12, 13, 14, 16, 17, 18, 21, 22] m m2446 := W2415.trans W2451 (by decide)
              have B2590 : sf_B 0 600 (m2446 10) := T2449.2.2.1 10
              have B2591 : sf_B 0 4 (m2446 17) := T2449.2.2.1 17
              have B2592 : sf_B 0 1 (m2446 22) := T2449.2.2.1 22
              show pm_R _ 191 7 [.ref 41, .int 2, .int v2393, pm_no] [.int 1] _ _
              have R2593 : (m 10).toInt ≤ (m2446 10).toInt := (sf_aux77 _ _ _ _ ek2408 R2392 X2454)
              obtain ⟨v2594, B2595, e2596⟩ := X2452 _ e2419
              refine pm_R_lo pm_M191 (pc' := 8) (ls' := [.ref 41, .int 2, .int v2393, .int 1]) (st' := []) rfl rfl rfl ?_
              refine pm_R_lo pm_M191 (pc' := 9) rfl rfl rfl ?_
              refine pm_R_lo pm_M191 (pc' := 10) rfl rfl rfl ?_
              refine pm_R_br pm_M191 (pc' := 13) (st' := [.ref 41]) rfl rfl ?_
              refine pm_R_lo pm_M191 (pc' := 14) rfl rfl rfl ?_
              refine rf_R_get pm_M191 T2449 (pc' := 17) (v := .ref 52) rfl rfl rfl rfl ?_
              refine pm_R_lo pm_M191 (pc' := 18) rfl rfl rfl ?_
              refine pm_R_iald pm_M191 (pc' := 19) (v := v2594) rfl e2596 (Nat.lt_of_lt_of_le (by decide) T2449.1) rfl sf_upd_eq rfl ?_
              refine pm_R_lo pm_M191 (pc' := 20) rfl rfl rfl ?_
              refine rf_R_get pm_M191 T2449 (pc' := 23) (v := .int (m2446 21)) rfl rfl rfl rfl ?_
              refine pm_R_icmp pm_M191 (t := 35) (pc' := 26) rfl rfl rfl (fun c2599 => ?_) (fun c2599 => ?_)
              · skip
                refine pm_R_lo pm_M191 (pc' := 36) rfl rfl rfl ?_
                refine rf_R_get pm_M191 T2449 (pc' := 39) (v := .int (m2446 21)) rfl rfl rfl rfl ?_
                refine rf_R_put pm_M191 T2449 (pc' := 42) rfl rfl rfl (by decide) rfl rfl (sf_weak B2587 (by decide) (by decide)) rfl rfl (fun h2600 m2603 em2604 T2601 F2602 => ?_)
                have F2605 := F2586.trans F2602 (by decide)
                have B2606 : sf_B 0 600 (m2603 10) := by rw [em2604]; exact B2590
                have ek2607 : (m2603 10).toInt = ((m2446 10)).toInt := by rw [em2604]; rfl
                have B2608 : sf_B 1 4 (m2603 17) := by rw [em2604]; exact B2455
                have ek2609 : (m2603 17).toInt = ((m2446 17)).toInt := by rw [em2604]; rfl
                have B2610 : sf_B 0 0 (m2603 22) := by rw [em2604]; exact B2456
                have ek2611 : (m2603 22).toInt = ((m2446 22)).toInt := by rw [em2604]; rfl
                have B2612 : sf_B 0 99 (m2603 21) := by rw [em2604]; exact B2587
                have ek2613 : (m2603 21).toInt = ((m2446 21)).toInt := by rw [em2604]; rfl
                have W2614 : rf_W [10, 12, 13, 14, 16, 17, 18, 21, 22] m m2603 := by rw [em2604]; exact W2589.put (by decide)
                refine pm_R_lo pm_M191 (pc' := 43) rfl rfl rfl ?_
                refine pm_R_ret pm_M191 (r := some (.int 1)) rfl rfl ?_
                show pm_R _ 189 202 [.ref 41, .long a0, pm_no, .int a1, pm_no] [.int 1] _ _
                refine pm_R_br pm_M189 (pc' := 205) (st' := []) (pm_q189_1 (Nat.le_of_ble_eq_true rfl)) rfl ?_
                refine pm_R_lo pm_M189 (pc' := 206) (pm_q189_1 (Nat.le_of_ble_eq_true rfl)) rfl rfl ?_
                refine pm_R_ldc2 pm_M189 (pc' := 209) (pm_q189_1 (Nat.le_of_ble_eq_true rfl)) rfl rfl ?_
                refine sf_R_lcmp pm_M189 (pc' := 210) (pm_q189_1 (Nat.le_of_ble_eq_true rfl)) rfl (fun z2615 e2616 => ?_)
                have B2617 : sf_B (-2147483648) (-1) z2615 := lf_cmpLt e2616 B342 (⟨by decide, by decide⟩ : lf_B 1935767923 1935767923 1935767923) (by decide)
                refine pm_R_ifc pm_M189 (t := 226) (pc' := 213) (pm_q189_1 (Nat.le_of_ble_eq_true rfl)) rfl rfl (fun c2618 => ?_) (fun c2618 => absurd (Classical.not_not.mp c2618) (sf_neq2 B2617 sf_k0 (by decide)))
                have k2619 := sf_lneC e2616 c2618
                refine pm_R_lo pm_M189 (pc' := 227) (pm_q189_2 (Nat.le_of_ble_eq_true rfl)) rfl rfl ?_
                refine pm_R_op pm_M189 (pc' := 228) (st' := [.int 1, .ref 41]) (pm_q189_2 (Nat.le_of_ble_eq_true rfl)) rfl rfl ?_
                refine pm_R_op pm_M189 (pc' := 229) (st' := [.int 2, .int 1, .ref 41]) (pm_q189_2 (Nat.le_of_ble_eq_true rfl)) rfl rfl ?_
                refine pm_R_op pm_M189 (pc' := 230) (st' := [.int 3, .int 2, .int 1, .ref 41]) (pm_q189_2 (Nat.le_of_ble_eq_true rfl)) rfl rfl ?_
                refine pm_R_op pm_M189 (pc' := 232) (st' := [.int 50, .int 3, .int 2, .int 1, .ref 41]) (pm_q189_2 (Nat.le_of_ble_eq_true rfl)) rfl rfl ?_
                refine pm_R_op pm_M189 (pc' := 233) (st' := [.int 0, .int 50, .int 3, .int 2, .int 1, .ref 41]) (pm_q189_2 (Nat.le_of_ble_eq_true rfl)) rfl rfl ?_
                refine pm_R_cv pm_M189 (pc' := 236) (a := 41) (ra := [.int 0, .int 50, .int 3, .int 2, .int 1]) (rest := []) (ls' := [.ref 41, .int 1, .int 2, .int 3, .int 50, .int 0, pm_no, pm_no]) (pm_q189_2 (Nat.le_of_ble_eq_true rfl)) rfl (Or.inl rfl) pm_M185 T2601.2.1 rfl (by decide) (Nat.lt_of_lt_of_le (by decide) T2601.1) rfl rfl (Nat.le_of_ble_eq_true rfl) rfl rfl ?_
                have e2620 := (F2602.cell (by decide) (F2450.cell (by decide) (F2403.cell (by decide) (F1759.cell (by decide) (F1728.cell (by decide) (F1720.cell (by decide) (F1715.cell (by decide) (F1710.cell (by decide) (F1705.cell (by decide) (F1684.cell (by decide) (F1669.cell (by decide) e3)))))))))))
                refine rf_c185_d (d := d + 3) T2601 (⟨f2, e2620, ct4, fun z => (sf_pos B2608 (by decide) z)⟩) (fun z => sf_pos B2608 (by decide) z) (fun m2623 w2624 h2625 T2626 F2627 W2628 X2629 => ?_)
                have F2630 := F2605.trans F2627 (by decide)
                have B2631 : sf_B 0 600 (m2623 10) := by rw [W2628 10 (by decide)]; exact B2606
                have ek2632 : (m2623 10).toInt = ((m2446 10)).toInt := by rw [W2628 10 (by decide)]; exact ek2607
                have B2633 : sf_B 1 4 (m2623 17) := by rw [W2628 17 (by decide)]; exact B2608
                have ek2634 : (m2623 17).toInt = ((m2446 17)).toInt := by rw [W2628 17 (by decide)]; exact ek2609
                have B2635 : sf_B 0 0 (m2623 22) := by rw [W2628 22 (by decide)]; exact B2610
                have ek2636 : (m2623 22).toInt = ((m2446 22)).toInt := by rw [W2628 22 (by decide)]; exact ek2611
                have B2637 : sf_B 0 99 (m2623 21) := by rw [W2628 21 (by decide)]; exact B2612
                have ek2638 : (m2623 21).toInt = ((m2446 21)).toInt := by rw [W2628 21 (by decide)]; exact ek2613
                have W2639 : rf_W [10, 12, 13, 14, 16, 17, 18, 21, 22] m m2623 := W2614.trans W2628 (by decide)
                show pm_R _ 189 236 [.ref 41, .long a0, pm_no, .int a1, pm_no] [] _ _
                obtain ⟨f2640, e2641, ct2642, bd2643⟩ := X2629
                refine pm_R_op pm_M189 (pc' := 237) (st' := [.int 1]) (pm_q189_2 (Nat.le_of_ble_eq_true rfl)) rfl rfl ?_
                exact pm_R_ret pm_M189 (r := some (.int 1)) (pm_q189_2 (Nat.le_of_ble_eq_true rfl)) rfl (K1 m2623 w2624 h2625 T2626 F2630 W2639 (⟨f2640, e2641, ct2642, fun z => (sf_pos B2633 (by decide) z)⟩) (sf_aux39 _ _ _ ek2632 R2593))
              · have B2644 : sf_B 0 98 (m2446 21) := sf_ltL (Int32.not_le.mp c2599) B2587 B2595
                have B2645 : sf_B 1 99 v2594 := sf_ltR (Int32.not_le.mp c2599) B2587 B2595
                refine pm_R_lo pm_M191 (pc' := 27) rfl rfl rfl ?_
                refine rf_R_get pm_M191 T2449 (pc' := 30) (v := .ref 52) rfl rfl rfl rfl ?_
                refine pm_R_lo pm_M191 (pc' := 31) rfl rfl rfl ?_
                refine pm_R_iald pm_M191 (pc' := 32) (v := v2594) rfl e2596 (Nat.lt_of_lt_of_le (by decide) T2449.1) rfl sf_upd_eq rfl ?_
                refine pm_R_br pm_M191 (pc' := 39) rfl rfl ?_
                refine rf_R_put pm_M191 T2449 (pc' := 42) rfl rfl rfl (by decide) rfl rfl (sf_weak B2645 (by decide) (by decide)) rfl rfl (fun h2648 m2651 em2652 T2649 F2650 => ?_)
                have F2653 := F2586.trans F2650 (by decide)
                have B2654 : sf_B 0 600 (m2651 10) := by rw [em2652]; exact B2590
                have ek2655 : (m2651 10).toInt = ((m2446 10)).toInt := by rw [em2652]; rfl
                have B2656 : sf_B 1 4 (m2651 17) := by rw [em2652]; exact B2455
                have ek2657 : (m2651 17).toInt = ((m2446 17)).toInt := by rw [em2652]; rfl
                have B2658 : sf_B 0 0 (m2651 22) := by rw [em2652]; exact B2456
                have ek2659 : (m2651 22).toInt = ((m2446 22)).toInt := by rw [em2652]; rfl
                have B2660 : sf_B 1 99 (m2651 21) := by rw [em2652]; exact B2645
                have ek2661 : (m2651 21).toInt = (v2594).toInt := by rw [em2652]; rfl
                have W2662 : rf_W [10, 12, 13, 14, 16, 17, 18, 21, 22] m m2651 := by rw [em2652]; exact W2589.put (by decide)
                refine pm_R_lo pm_M191 (pc' := 43) rfl rfl rfl ?_
                refine pm_R_ret pm_M191 (r := some (.int 1)) rfl rfl ?_
                show pm_R _ 189 202 [.ref 41, .long a0, pm_no, .int a1, pm_no] [.int 1] _ _
                refine pm_R_br pm_M189 (pc' := 205) (st' := []) (pm_q189_1 (Nat.le_of_ble_eq_true rfl)) rfl ?_
                refine pm_R_lo pm_M189 (pc' := 206) (pm_q189_1 (Nat.le_of_ble_eq_true rfl)) rfl rfl ?_
                refine pm_R_ldc2 pm_M189 (pc' := 209) (pm_q189_1 (Nat.le_of_ble_eq_true rfl)) rfl rfl ?_
                refine sf_R_lcmp pm_M189 (pc' := 210) (pm_q189_1 (Nat.le_of_ble_eq_true rfl)) rfl (fun z2663 e2664 => ?_)
                have B2665 : sf_B (-2147483648) (-1) z2663 := lf_cmpLt e2664 B342 (⟨by decide, by decide⟩ : lf_B 1935767923 1935767923 1935767923) (by decide)
                refine pm_R_ifc pm_M189 (t := 226) (pc' := 213) (pm_q189_1 (Nat.le_of_ble_eq_true rfl)) rfl rfl (fun c2666 => ?_) (fun c2666 => absurd (Classical.not_not.mp c2666) (sf_neq2 B2665 sf_k0 (by decide)))
                have k2667 := sf_lneC e2664 c2666
                refine pm_R_lo pm_M189 (pc' := 227) (pm_q189_2 (Nat.le_of_ble_eq_true rfl)) rfl rfl ?_
                refine pm_R_op pm_M189 (pc' := 228) (st' := [.int 1, .ref 41]) (pm_q189_2 (Nat.le_of_ble_eq_true rfl)) rfl rfl ?_
                refine pm_R_op pm_M189 (pc' := 229) (st' := [.int 2, .int 1, .ref 41]) (pm_q189_2 (Nat.le_of_ble_eq_true rfl)) rfl rfl ?_
                refine pm_R_op pm_M189 (pc' := 230) (st' := [.int 3, .int 2, .int 1, .ref 41]) (pm_q189_2 (Nat.le_of_ble_eq_true rfl)) rfl rfl ?_
                refine pm_R_op pm_M189 (pc' := 232) (st' := [.int 50, .int 3, .int 2, .int 1, .ref 41]) (pm_q189_2 (Nat.le_of_ble_eq_true rfl)) rfl rfl ?_
                refine pm_R_op pm_M189 (pc' := 233) (st' := [.int 0, .int 50, .int 3, .int 2, .int 1, .ref 41]) (pm_q189_2 (Nat.le_of_ble_eq_true rfl)) rfl rfl ?_
                refine pm_R_cv pm_M189 (pc' := 236) (a := 41) (ra := [.int 0, .int 50, .int 3, .int 2, .int 1]) (rest := []) (ls' := [.ref 41, .int 1, .int 2, .int 3, .int 50, .int 0, pm_no, pm_no]) (pm_q189_2 (Nat.le_of_ble_eq_true rfl)) rfl (Or.inl rfl) pm_M185 T2649.2.1 rfl (by decide) (Nat.lt_of_lt_of_le (by decide) T2649.1) rfl rfl (Nat.le_of_ble_eq_true rfl) rfl rfl ?_
                have e2668 := (F2650.cell (by decide) (F2450.cell (by decide) (F2403.cell (by decide) (F1759.cell (by decide) (F1728.cell (by decide) (F1720.cell (by decide) (F1715.cell (by decide) (F1710.cell (by decide) (F1705.cell (by decide) (F1684.cell (by decide) (F1669.cell (by decide) e3)))))))))))
                refine rf_c185_d (d := d + 3) T2649 (⟨f2, e2668, ct4, fun z => (sf_pos B2656 (by decide) z)⟩) (fun z => sf_pos B2656 (by decide) z) (fun m2671 w2672 h2673 T2674 F2675 W2676 X2677 => ?_)
                have F2678 := F2653.trans F2675 (by decide)
                have B2679 : sf_B 0 600 (m2671 10) := by rw [W2676 10 (by decide)]; exact B2654
                have ek2680 : (m2671 10).toInt = ((m2446 10)).toInt := by rw [W2676 10 (by decide)]; exact ek2655
                have B2681 : sf_B 1 4 (m2671 17) := by rw [W2676 17 (by decide)]; exact B2656
                have ek2682 : (m2671 17).toInt = ((m2446 17)).toInt := by rw [W2676 17 (by decide)]; exact ek2657
                have B2683 : sf_B 0 0 (m2671 22) := by rw [W2676 22 (by decide)]; exact B2658
                have ek2684 : (m2671 22).toInt = ((m2446 22)).toInt := by rw [W2676 22 (by decide)]; exact ek2659
                have B2685 : sf_B 1 99 (m2671 21) := by rw [W2676 21 (by decide)]; exact B2660
                have ek2686 : (m2671 21).toInt = (v2594).toInt := by rw [W2676 21 (by decide)]; exact ek2661
                have W2687 : rf_W [10, 12, 13, 14, 16, 17, 18, 21, 22] m m2671 := W2662.trans W2676 (by decide)
                show pm_R _ 189 236 [.ref 41, .long a0, pm_no, .int a1, pm_no] [] _ _
                obtain ⟨f2688, e2689, ct2690, bd2691⟩ := X2677
                refine pm_R_op pm_M189 (pc' := 237) (st' := [.int 1]) (pm_q189_2 (Nat.le_of_ble_eq_true rfl)) rfl rfl ?_
                exact pm_R_ret pm_M189 (r := some (.int 1)) (pm_q189_2 (Nat.le_of_ble_eq_true rfl)) rfl (K1 m2671 w2672 h2673 T2674 F2678 W2687 (⟨f2688, e2689, ct2690, fun z => (sf_pos B2681 (by decide) z)⟩) (sf_aux39 _ _ _ ek2680 R2593))
          · have B2692 : sf_B (-1) 98 (m1755 21) := sf_ltL (Int32.not_le.mp c2399) B2398 B2394
            refine pm_R_lo pm_M191 (pc' := 27) rfl rfl rfl ?_
            refine rf_R_get pm_M191 T1758 (pc' := 30) (v := .ref 52) rfl rfl rfl rfl ?_
            refine pm_R_lo pm_M191 (pc' := 31) rfl rfl rfl ?_
            refine pm_R_iald pm_M191 (pc' := 32) (v := v2393) rfl e2395 (Nat.lt_of_lt_of_le (by decide) T1758.1) rfl sf_upd_eq rfl ?_
            refine pm_R_br pm_M191 (pc' := 39) rfl rfl ?_
            refine rf_R_put pm_M191 T1758 (pc' := 42) rfl rfl rfl (by decide) rfl rfl (sf_weak B2394 (by decide) (by decide)) rfl rfl (fun h2695 m2698 em2699 T2696 F2697 => ?_)
            have F2700 := F2387.trans F2697 (by decide)
            have B2701 : sf_B 0 600 (m2698 10) := by rw [em2699]; exact B2389
            have ek2702 : (m2698 10).toInt = ((m1755 10)).toInt := by rw [em2699]; rfl
            have B2703 : sf_B 1 4 (m2698 17) := by rw [em2699]; exact B1764
            have ek2704 : (m2698 17).toInt = ((m1755 17)).toInt := by rw [em2699]; rfl
            have B2705 : sf_B 0 0 (m2698 22) := by rw [em2699]; exact B1765
            have ek2706 : (m2698 22).toInt = ((m1755 22)).toInt := by rw [em2699]; rfl
            have B2707 : sf_B 0 99 (m2698 21) := by rw [em2699]; exact B2394
            have ek2708 : (m2698 21).toInt = (v2393).toInt := by rw [em2699]; rfl
            have W2709 : rf_W [10, 12, 13, 14, 16, 17, 18, 21, 22] m m2698 := by rw [em2699]; exact W2388.put (by decide)
            refine pm_R_lo pm_M191 (pc' := 43) rfl rfl rfl ?_
            refine pm_R_ret pm_M191 (r := some (.int 1)) rfl rfl ?_
            show pm_R _ 189 178 [.ref 41, .long a0, pm_no, .int a1, pm_no] [.int 1] _ _
            refine pm_R_br pm_M189 (pc' := 183) (st' := []) (pm_q189_1 (Nat.le_of_ble_eq_true rfl)) rfl ?_
            refine pm_R_lo pm_M189 (pc' := 184) (pm_q189_1 (Nat.le_of_ble_eq_true rfl)) rfl rfl ?_
            refine pm_R_ldc2 pm_M189 (pc' := 187) (pm_q189_1 (Nat.le_of_ble_eq_true rfl)) rfl rfl ?_
            refine pm_R_op pm_M189 (pc' := 188) (st' := [.int z338]) (pm_q189_1 (Nat.le_of_ble_eq_true rfl)) (by show some (Value.int (lg_cmp a0 1819242347) :: _) = _; rw [← e339]) rfl ?_
            refine pm_R_ifc pm_M189 (t := 205) (pc' := 191) (pm_q189_1 (Nat.le_of_ble_eq_true rfl)) rfl rfl (fun c2712 => absurd (sf_pt2 B341 sf_k0) c2712) (fun c2712 => ?_)
            refine pm_R_lo pm_M189 (pc' := 192) (pm_q189_1 (Nat.le_of_ble_eq_true rfl)) rfl rfl ?_
            refine pm_R_op pm_M189 (pc' := 193) (st' := [.int 2, .ref 41]) (pm_q189_1 (Nat.le_of_ble_eq_true rfl)) rfl rfl ?_
            refine pm_R_lo pm_M189 (pc' := 194) (pm_q189_1 (Nat.le_of_ble_eq_true rfl)) rfl rfl ?_
            refine rf_R_get pm_M189 T2696 (pc' := 197) (v := .ref 52) (pm_q189_1 (Nat.le_of_ble_eq_true rfl)) rfl rfl rfl ?_
            refine pm_R_op pm_M189 (pc' := 198) (st' := [.int 1, .ref 52, .int 2, .ref 41]) (pm_q189_1 (Nat.le_of_ble_eq_true rfl)) rfl rfl ?_
            have e2713 := (F2697.cell (by decide) e2395)
            refine pm_R_iald pm_M189 (pc' := 199) (v := v2393) (pm_q189_1 (Nat.le_of_ble_eq_true rfl)) e2713 (Nat.lt_of_lt_of_le (by decide) T2696.1) rfl sf_upd_eq rfl ?_
            refine pm_R_cv pm_M189 (pc' := 202) (a := 41) (ra := [.int v2393, .int 2]) (rest := []) (ls' := [.ref 41, .int 2, .int v2393, pm_no]) (pm_q189_1 (Nat.le_of_ble_eq_true rfl)) rfl (Or.inl rfl) pm_M191 T2696.2.1 rfl (by decide) (Nat.lt_of_lt_of_le (by decide) T2696.1) rfl rfl (Nat.le_of_ble_eq_true rfl) rfl rfl ?_
            refine pm_R_lo pm_M191 (pc' := 1) rfl rfl rfl ?_
            refine pm_R_lo pm_M191 (pc' := 2) rfl rfl rfl ?_
            refine pm_R_op pm_M191 (pc' := 3) (st' := [.int 5, .int 2, .ref 41]) rfl rfl rfl ?_
            refine pm_R_lo pm_M191 (pc' := 4) rfl rfl rfl ?_
            refine pm_R_cv pm_M191 (pc' := 7) (a := 41) (ra := [.int v2393, .int 5, .int 2]) (rest := []) (ls' := [.ref 41, .int 2, .int 5, .int v2393]) rfl rfl (Or.inl rfl) pm_M183 T2696.2.1 rfl (by decide) (Nat.lt_of_lt_of_le (by decide) T2696.1) rfl rfl (Nat.le_of_ble_eq_true rfl) rfl rfl ?_
            refine rf_c183_2_5 (d := d + 0) T2696  (fun m2718 w2719 h2720 T2721 F2722 W2723 X2724 => ?_) (fun m2727 w2728 h2729 T2730 F2731 W2732 X2733 X2734 X2735 X2736 X2737 => ?_) (fun m2740 w2741 h2742 T2743 F2744 W2745 X2746 X2747 X2748 B2749 B2750 => ?_)
            · have F2751 := F2700.trans F2722 (by decide)
              have B2752 : sf_B 0 99 (m2718 21) := by rw [W2723 21 (by decide)]; exact B2707
              have ek2753 : (m2718 21).toInt = (v2393).toInt := by rw [W2723 21 (by decide)]; exact ek2708
              have W2754 : rf_W [10, 12, 13, 14, 16, 17, 18, 21, 22] m m2718 := W2709.trans W2723 (by decide)
              have B2755 : sf_B 0 600 (m2718 10) := T2721.2.2.1 10
              have B2756 : sf_B 0 4 (m2718 17) := T2721.2.2.1 17
              have B2757 : sf_B 0 1 (m2718 22) := T2721.2.2.1 22
              show pm_R _ 191 7 [.ref 41, .int 2, .int v2393, pm_no] [.int 0] _ _
              have R2758 : (m 10).toInt ≤ (m2718 10).toInt := (sf_aux77 _ _ _ _ ek2702 R2392 X2724)
              refine pm_R_lo pm_M191 (pc' := 8) (ls' := [.ref 41, .int 2, .int v2393, .int 0]) (st' := []) rfl rfl rfl ?_
              refine pm_R_lo pm_M191 (pc' := 9) rfl rfl rfl ?_
              refine pm_R_lo pm_M191 (pc' := 10) rfl rfl rfl ?_
              refine pm_R_br pm_M191 (pc' := 35) (st' := [.ref 41]) rfl rfl ?_
              refine pm_R_lo pm_M191 (pc' := 36) rfl rfl rfl ?_
              refine rf_R_get pm_M191 T2721 (pc' := 39) (v := .int (m2718 21)) rfl rfl rfl rfl ?_
              refine rf_R_put pm_M191 T2721 (pc' := 42) rfl rfl rfl (by decide) rfl rfl (sf_weak B2752 (by decide) (by decide)) rfl rfl (fun h2759 m2762 em2763 T2760 F2761 => ?_)
              have F2764 := F2751.trans F2761 (by decide)
              have B2765 : sf_B 0 600 (m2762 10) := by rw [em2763]; exact B2755
              have ek2766 : (m2762 10).toInt = ((m2718 10)).toInt := by rw [em2763]; rfl
              have B2767 : sf_B 0 4 (m2762 17) := by rw [em2763]; exact B2756
              have ek2768 : (m2762 17).toInt = ((m2718 17)).toInt := by rw [em2763]; rfl
              have B2769 : sf_B 0 1 (m2762 22) := by rw [em2763]; exact B2757
              have ek2770 : (m2762 22).toInt = ((m2718 22)).toInt := by rw [em2763]; rfl
              have B2771 : sf_B 0 99 (m2762 21) := by rw [em2763]; exact B2752
              have ek2772 : (m2762 21).toInt = ((m2718 21)).toInt := by rw [em2763]; rfl
              have W2773 : rf_W [10, 12, 13, 14, 16, 17, 18, 21, 22] m m2762 := by rw [em2763]; exact W2754.put (by decide)
              refine pm_R_lo pm_M191 (pc' := 43) rfl rfl rfl ?_
              refine pm_R_ret pm_M191 (r := some (.int 0)) rfl rfl ?_
              show pm_R _ 189 202 [.ref 41, .long a0, pm_no, .int a1, pm_no] [.int 0] _ _
              refine pm_R_br pm_M189 (pc' := 224) (st' := []) (pm_q189_1 (Nat.le_of_ble_eq_true rfl)) rfl ?_
              refine pm_R_op pm_M189 (pc' := 225) (st' := [.int 0]) (pm_q189_2 (Nat.le_of_ble_eq_true rfl)) rfl rfl ?_
              exact pm_R_ret pm_M189 (r := some (.int 0)) (pm_q189_2 (Nat.le_of_ble_eq_true rfl)) rfl (K0 m2762 w2719 h2759 T2760 F2764 W2773 (sf_aux39 _ _ _ ek2766 R2758))
            · have F2774 := F2700.trans F2731 (by decide)
              have B2775 : sf_B 0 99 (m2727 21) := by rw [W2732 21 (by decide)]; exact B2707
              have ek2776 : (m2727 21).toInt = (v2393).toInt := by rw [W2732 21 (by decide)]; exact ek2708
              have W2777 : rf_W [10, 12, 13, 14, 16, 17, 18, 21, 22] m m2727 := W2709.trans W2732 (by decide)
              have B2778 : sf_B 0 600 (m2727 10) := T2730.2.2.1 10
              have B2779 : sf_B 0 4 (m2727 17) := T2730.2.2.1 17
              have B2780 : sf_B 0 1 (m2727 22) := T2730.2.2.1 22
              show pm_R _ 191 7 [.ref 41, .int 2, .int v2393, pm_no] [.int 1] _ _
              have R2781 : (m 10).toInt ≤ (m2727 10).toInt := (sf_aux77 _ _ _ _ ek2702 R2392 X2737)
              obtain ⟨v2782, B2783, e2784⟩ := X2733 _ e2713
              refine pm_R_lo pm_M191 (pc' := 8) (ls' := [.ref 41, .int 2, .int v2393, .int 1]) (st' := []) rfl rfl rfl ?_
              refine pm_R_lo pm_M191 (pc' := 9) rfl rfl rfl ?_
              refine pm_R_lo pm_M191 (pc' := 10) rfl rfl rfl ?_
              refine pm_R_br pm_M191 (pc' := 13) (st' := [.ref 41]) rfl rfl ?_
              refine pm_R_lo pm_M191 (pc' := 14) rfl rfl rfl ?_
              refine rf_R_get pm_M191 T2730 (pc' := 17) (v := .ref 52) rfl rfl rfl rfl ?_
              refine pm_R_lo pm_M191 (pc' := 18) rfl rfl rfl ?_
              refine pm_R_iald pm_M191 (pc' := 19) (v := v2782) rfl e2784 (Nat.lt_of_lt_of_le (by decide) T2730.1) rfl sf_upd_eq rfl ?_
              refine pm_R_lo pm_M191 (pc' := 20) rfl rfl rfl ?_
              refine rf_R_get pm_M191 T2730 (pc' := 23) (v := .int (m2727 21)) rfl rfl rfl rfl ?_
              refine pm_R_icmp pm_M191 (t := 35) (pc' := 26) rfl rfl rfl (fun c2787 => ?_) (fun c2787 => ?_)
              · skip
                refine pm_R_lo pm_M191 (pc' := 36) rfl rfl rfl ?_
                refine rf_R_get pm_M191 T2730 (pc' := 39) (v := .int (m2727 21)) rfl rfl rfl rfl ?_
                refine rf_R_put pm_M191 T2730 (pc' := 42) rfl rfl rfl (by decide) rfl rfl (sf_weak B2775 (by decide) (by decide)) rfl rfl (fun h2788 m2791 em2792 T2789 F2790 => ?_)
                have F2793 := F2774.trans F2790 (by decide)
                have B2794 : sf_B 0 600 (m2791 10) := by rw [em2792]; exact B2778
                have ek2795 : (m2791 10).toInt = ((m2727 10)).toInt := by rw [em2792]; rfl
                have B2796 : sf_B 1 4 (m2791 17) := by rw [em2792]; exact (sf_eqT X2734 B2703)
                have ek2797 : (m2791 17).toInt = ((m2698 17)).toInt := by rw [em2792]; exact X2734
                have B2798 : sf_B 0 0 (m2791 22) := by rw [em2792]; exact (sf_eqT X2735 B2705)
                have ek2799 : (m2791 22).toInt = ((m2698 22)).toInt := by rw [em2792]; exact X2735
                have B2800 : sf_B 0 99 (m2791 21) := by rw [em2792]; exact B2775
                have ek2801 : (m2791 21).toInt = ((m2727 21)).toInt := by rw [em2792]; rfl
                have W2802 : rf_W [10, 12, 13, 14, 16, 17, 18, 21, 22] m m2791 := by rw [em2792]; exact W2777.put (by decide)
                refine pm_R_lo pm_M191 (pc' := 43) rfl rfl rfl ?_
                refine pm_R_ret pm_M191 (r := some (.int 1)) rfl rfl ?_
                show pm_R _ 189 202 [.ref 41, .long a0, pm_no, .int a1, pm_no] [.int 1] _ _
                refine pm_R_br pm_M189 (pc' := 205) (st' := []) (pm_q189_1 (Nat.le_of_ble_eq_true rfl)) rfl ?_
                refine pm_R_lo pm_M189 (pc' := 206) (pm_q189_1 (Nat.le_of_ble_eq_true rfl)) rfl rfl ?_
                refine pm_R_ldc2 pm_M189 (pc' := 209) (pm_q189_1 (Nat.le_of_ble_eq_true rfl)) rfl rfl ?_
                refine sf_R_lcmp pm_M189 (pc' := 210) (pm_q189_1 (Nat.le_of_ble_eq_true rfl)) rfl (fun z2803 e2804 => ?_)
                have B2805 : sf_B (-2147483648) (-1) z2803 := lf_cmpLt e2804 B342 (⟨by decide, by decide⟩ : lf_B 1935767923 1935767923 1935767923) (by decide)
                refine pm_R_ifc pm_M189 (t := 226) (pc' := 213) (pm_q189_1 (Nat.le_of_ble_eq_true rfl)) rfl rfl (fun c2806 => ?_) (fun c2806 => absurd (Classical.not_not.mp c2806) (sf_neq2 B2805 sf_k0 (by decide)))
                have k2807 := sf_lneC e2804 c2806
                refine pm_R_lo pm_M189 (pc' := 227) (pm_q189_2 (Nat.le_of_ble_eq_true rfl)) rfl rfl ?_
                refine pm_R_op pm_M189 (pc' := 228) (st' := [.int 1, .ref 41]) (pm_q189_2 (Nat.le_of_ble_eq_true rfl)) rfl rfl ?_
                refine pm_R_op pm_M189 (pc' := 229) (st' := [.int 2, .int 1, .ref 41]) (pm_q189_2 (Nat.le_of_ble_eq_true rfl)) rfl rfl ?_
                refine pm_R_op pm_M189 (pc' := 230) (st' := [.int 3, .int 2, .int 1, .ref 41]) (pm_q189_2 (Nat.le_of_ble_eq_true rfl)) rfl rfl ?_
                refine pm_R_op pm_M189 (pc' := 232) (st' := [.int 50, .int 3, .int 2, .int 1, .ref 41]) (pm_q189_2 (Nat.le_of_ble_eq_true rfl)) rfl rfl ?_
                refine pm_R_op pm_M189 (pc' := 233) (st' := [.int 0, .int 50, .int 3, .int 2, .int 1, .ref 41]) (pm_q189_2 (Nat.le_of_ble_eq_true rfl)) rfl rfl ?_
                refine pm_R_cv pm_M189 (pc' := 236) (a := 41) (ra := [.int 0, .int 50, .int 3, .int 2, .int 1]) (rest := []) (ls' := [.ref 41, .int 1, .int 2, .int 3, .int 50, .int 0, pm_no, pm_no]) (pm_q189_2 (Nat.le_of_ble_eq_true rfl)) rfl (Or.inl rfl) pm_M185 T2789.2.1 rfl (by decide) (Nat.lt_of_lt_of_le (by decide) T2789.1) rfl rfl (Nat.le_of_ble_eq_true rfl) rfl rfl ?_
                have e2808 := (F2790.cell (by decide) (F2731.cell (by decide) (F2697.cell (by decide) (F1759.cell (by decide) (F1728.cell (by decide) (F1720.cell (by decide) (F1715.cell (by decide) (F1710.cell (by decide) (F1705.cell (by decide) (F1684.cell (by decide) (F1669.cell (by decide) e3)))))))))))
                refine rf_c185_d (d := d + 3) T2789 (⟨f2, e2808, ct4, fun z => (sf_pos B2796 (by decide) z)⟩) (fun z => sf_pos B2796 (by decide) z) (fun m2811 w2812 h2813 T2814 F2815 W2816 X2817 => ?_)
                have F2818 := F2793.trans F2815 (by decide)
                have B2819 : sf_B 0 600 (m2811 10) := by rw [W2816 10 (by decide)]; exact B2794
                have ek2820 : (m2811 10).toInt = ((m2727 10)).toInt := by rw [W2816 10 (by decide)]; exact ek2795
                have B2821 : sf_B 1 4 (m2811 17) := by rw [W2816 17 (by decide)]; exact B2796
                have ek2822 : (m2811 17).toInt = ((m2698 17)).toInt := by rw [W2816 17 (by decide)]; exact ek2797
                have B2823 : sf_B 0 0 (m2811 22) := by rw [W2816 22 (by decide)]; exact B2798
                have ek2824 : (m2811 22).toInt = ((m2698 22)).toInt := by rw [W2816 22 (by decide)]; exact ek2799
                have B2825 : sf_B 0 99 (m2811 21) := by rw [W2816 21 (by decide)]; exact B2800
                have ek2826 : (m2811 21).toInt = ((m2727 21)).toInt := by rw [W2816 21 (by decide)]; exact ek2801
                have W2827 : rf_W [10, 12, 13, 14, 16, 17, 18, 21, 22] m m2811 := W2802.trans W2816 (by decide)
                show pm_R _ 189 236 [.ref 41, .long a0, pm_no, .int a1, pm_no] [] _ _
                obtain ⟨f2828, e2829, ct2830, bd2831⟩ := X2817
                refine pm_R_op pm_M189 (pc' := 237) (st' := [.int 1]) (pm_q189_2 (Nat.le_of_ble_eq_true rfl)) rfl rfl ?_
                exact pm_R_ret pm_M189 (r := some (.int 1)) (pm_q189_2 (Nat.le_of_ble_eq_true rfl)) rfl (K1 m2811 w2812 h2813 T2814 F2818 W2827 (⟨f2828, e2829, ct2830, fun z => (sf_pos B2821 (by decide) z)⟩) (sf_aux39 _ _ _ ek2820 R2781))
              · have B2832 : sf_B 0 4 (m2727 21) := sf_ltL (Int32.not_le.mp c2787) B2775 B2783
                have B2833 : sf_B 1 5 v2782 := sf_ltR (Int32.not_le.mp c2787) B2775 B2783
                refine pm_R_lo pm_M191 (pc' := 27) rfl rfl rfl ?_
                refine rf_R_get pm_M191 T2730 (pc' := 30) (v := .ref 52) rfl rfl rfl rfl ?_
                refine pm_R_lo pm_M191 (pc' := 31) rfl rfl rfl ?_
                refine pm_R_iald pm_M191 (pc' := 32) (v := v2782) rfl e2784 (Nat.lt_of_lt_of_le (by decide) T2730.1) rfl sf_upd_eq rfl ?_
                refine pm_R_br pm_M191 (pc' := 39) rfl rfl ?_
                refine rf_R_put pm_M191 T2730 (pc' := 42) rfl rfl rfl (by decide) rfl rfl (sf_weak B2833 (by decide) (by decide)) rfl rfl (fun h2836 m2839 em2840 T2837 F2838 => ?_)
                have F2841 := F2774.trans F2838 (by decide)
                have B2842 : sf_B 0 600 (m2839 10) := by rw [em2840]; exact B2778
                have ek2843 : (m2839 10).toInt = ((m2727 10)).toInt := by rw [em2840]; rfl
                have B2844 : sf_B 1 4 (m2839 17) := by rw [em2840]; exact (sf_eqT X2734 B2703)
                have ek2845 : (m2839 17).toInt = ((m2698 17)).toInt := by rw [em2840]; exact X2734
                have B2846 : sf_B 0 0 (m2839 22) := by rw [em2840]; exact (sf_eqT X2735 B2705)
                have ek2847 : (m2839 22).toInt = ((m2698 22)).toInt := by rw [em2840]; exact X2735
                have B2848 : sf_B 1 5 (m2839 21) := by rw [em2840]; exact B2833
                have ek2849 : (m2839 21).toInt = (v2782).toInt := by rw [em2840]; rfl
                have W2850 : rf_W [10, 12, 13, 14, 16, 17, 18, 21, 22] m m2839 := by rw [em2840]; exact W2777.put (by decide)
                refine pm_R_lo pm_M191 (pc' := 43) rfl rfl rfl ?_
                refine pm_R_ret pm_M191 (r := some (.int 1)) rfl rfl ?_
                show pm_R _ 189 202 [.ref 41, .long a0, pm_no, .int a1, pm_no] [.int 1] _ _
                refine pm_R_br pm_M189 (pc' := 205) (st' := []) (pm_q189_1 (Nat.le_of_ble_eq_true rfl)) rfl ?_
                refine pm_R_lo pm_M189 (pc' := 206) (pm_q189_1 (Nat.le_of_ble_eq_true rfl)) rfl rfl ?_
                refine pm_R_ldc2 pm_M189 (pc' := 209) (pm_q189_1 (Nat.le_of_ble_eq_true rfl)) rfl rfl ?_
                refine sf_R_lcmp pm_M189 (pc' := 210) (pm_q189_1 (Nat.le_of_ble_eq_true rfl)) rfl (fun z2851 e2852 => ?_)
                have B2853 : sf_B (-2147483648) (-1) z2851 := lf_cmpLt e2852 B342 (⟨by decide, by decide⟩ : lf_B 1935767923 1935767923 1935767923) (by decide)
                refine pm_R_ifc pm_M189 (t := 226) (pc' := 213) (pm_q189_1 (Nat.le_of_ble_eq_true rfl)) rfl rfl (fun c2854 => ?_) (fun c2854 => absurd (Classical.not_not.mp c2854) (sf_neq2 B2853 sf_k0 (by decide)))
                have k2855 := sf_lneC e2852 c2854
                refine pm_R_lo pm_M189 (pc' := 227) (pm_q189_2 (Nat.le_of_ble_eq_true rfl)) rfl rfl ?_
                refine pm_R_op pm_M189 (pc' := 228) (st' := [.int 1, .ref 41]) (pm_q189_2 (Nat.le_of_ble_eq_true rfl)) rfl rfl ?_
                refine pm_R_op pm_M189 (pc' := 229) (st' := [.int 2, .int 1, .ref 41]) (pm_q189_2 (Nat.le_of_ble_eq_true rfl)) rfl rfl ?_
                refine pm_R_op pm_M189 (pc' := 230) (st' := [.int 3, .int 2, .int 1, .ref 41]) (pm_q189_2 (Nat.le_of_ble_eq_true rfl)) rfl rfl ?_
                refine pm_R_op pm_M189 (pc' := 232) (st' := [.int 50, .int 3, .int 2, .int 1, .ref 41]) (pm_q189_2 (Nat.le_of_ble_eq_true rfl)) rfl rfl ?_
                refine pm_R_op pm_M189 (pc' := 233) (st' := [.int 0, .int 50, .int 3, .int 2, .int 1, .ref 41]) (pm_q189_2 (Nat.le_of_ble_eq_true rfl)) rfl rfl ?_
                refine pm_R_cv pm_M189 (pc' := 236) (a := 41) (ra := [.int 0, .int 50, .int 3, .int 2, .int 1]) (rest := []) (ls' := [.ref 41, .int 1, .int 2, .int 3, .int 50, .int 0, pm_no, pm_no]) (pm_q189_2 (Nat.le_of_ble_eq_true rfl)) rfl (Or.inl rfl) pm_M185 T2837.2.1 rfl (by decide) (Nat.lt_of_lt_of_le (by decide) T2837.1) rfl rfl (Nat.le_of_ble_eq_true rfl) rfl rfl ?_
                have e2856 := (F2838.cell (by decide) (F2731.cell (by decide) (F2697.cell (by decide) (F1759.cell (by decide) (F1728.cell (by decide) (F1720.cell (by decide) (F1715.cell (by decide) (F1710.cell (by decide) (F1705.cell (by decide) (F1684.cell (by decide) (F1669.cell (by decide) e3)))))))))))
                refine rf_c185_d (d := d + 3) T2837 (⟨f2, e2856, ct4, fun z => (sf_pos B2844 (by decide) z)⟩) (fun z => sf_pos B2844 (by decide) z) (fun m2859 w2860 h2861 T2862 F2863 W2864 X2865 => ?_)
                have F2866 := F2841.trans F2863 (by decide)
                have B2867 : sf_B 0 600 (m2859 10) := by rw [W2864 10 (by decide)]; exact B2842
                have ek2868 : (m2859 10).toInt = ((m2727 10)).toInt := by rw [W2864 10 (by decide)]; exact ek2843
                have B2869 : sf_B 1 4 (m2859 17) := by rw [W2864 17 (by decide)]; exact B2844
                have ek2870 : (m2859 17).toInt = ((m2698 17)).toInt := by rw [W2864 17 (by decide)]; exact ek2845
                have B2871 : sf_B 0 0 (m2859 22) := by rw [W2864 22 (by decide)]; exact B2846
                have ek2872 : (m2859 22).toInt = ((m2698 22)).toInt := by rw [W2864 22 (by decide)]; exact ek2847
                have B2873 : sf_B 1 5 (m2859 21) := by rw [W2864 21 (by decide)]; exact B2848
                have ek2874 : (m2859 21).toInt = (v2782).toInt := by rw [W2864 21 (by decide)]; exact ek2849
                have W2875 : rf_W [10, 12, 13, 14, 16, 17, 18, 21, 22] m m2859 := W2850.trans W2864 (by decide)
                show pm_R _ 189 236 [.ref 41, .long a0, pm_no, .int a1, pm_no] [] _ _
                obtain ⟨f2876, e2877, ct2878, bd2879⟩ := X2865
                refine pm_R_op pm_M189 (pc' := 237) (st' := [.int 1]) (pm_q189_2 (Nat.le_of_ble_eq_true rfl)) rfl rfl ?_
                exact pm_R_ret pm_M189 (r := some (.int 1)) (pm_q189_2 (Nat.le_of_ble_eq_true rfl)) rfl (K1 m2859 w2860 h2861 T2862 F2866 W2875 (⟨f2876, e2877, ct2878, fun z => (sf_pos B2869 (by decide) z)⟩) (sf_aux39 _ _ _ ek2868 R2781))
            · have F2880 := F2700.trans F2744 (by decide)
              have B2881 : sf_B 0 99 (m2740 21) := by rw [W2745 21 (by decide)]; exact B2707
              have ek2882 : (m2740 21).toInt = (v2393).toInt := by rw [W2745 21 (by decide)]; exact ek2708
              have W2883 : rf_W [10, 12, 13, 14, 16, 17, 18, 21, 22] m m2740 := W2709.trans W2745 (by decide)
              have B2884 : sf_B 0 600 (m2740 10) := T2743.2.2.1 10
              have B2885 : sf_B 0 4 (m2740 17) := T2743.2.2.1 17
              have B2886 : sf_B 0 1 (m2740 22) := T2743.2.2.1 22
              show pm_R _ 191 7 [.ref 41, .int 2, .int v2393, pm_no] [.int 1] _ _
              have R2887 : (m 10).toInt ≤ (m2740 10).toInt := (sf_aux77 _ _ _ _ ek2702 R2392 X2748)
              obtain ⟨v2888, B2889, e2890⟩ := X2746 _ e2713
              refine pm_R_lo pm_M191 (pc' := 8) (ls' := [.ref 41, .int 2, .int v2393, .int 1]) (st' := []) rfl rfl rfl ?_
              refine pm_R_lo pm_M191 (pc' := 9) rfl rfl rfl ?_
              refine pm_R_lo pm_M191 (pc' := 10) rfl rfl rfl ?_
              refine pm_R_br pm_M191 (pc' := 13) (st' := [.ref 41]) rfl rfl ?_
              refine pm_R_lo pm_M191 (pc' := 14) rfl rfl rfl ?_
              refine rf_R_get pm_M191 T2743 (pc' := 17) (v := .ref 52) rfl rfl rfl rfl ?_
              refine pm_R_lo pm_M191 (pc' := 18) rfl rfl rfl ?_
              refine pm_R_iald pm_M191 (pc' := 19) (v := v2888) rfl e2890 (Nat.lt_of_lt_of_le (by decide) T2743.1) rfl sf_upd_eq rfl ?_
              refine pm_R_lo pm_M191 (pc' := 20) rfl rfl rfl ?_
              refine rf_R_get pm_M191 T2743 (pc' := 23) (v := .int (m2740 21)) rfl rfl rfl rfl ?_
              refine pm_R_icmp pm_M191 (t := 35) (pc' := 26) rfl rfl rfl (fun c2893 => ?_) (fun c2893 => ?_)
              · skip
                refine pm_R_lo pm_M191 (pc' := 36) rfl rfl rfl ?_
                refine rf_R_get pm_M191 T2743 (pc' := 39) (v := .int (m2740 21)) rfl rfl rfl rfl ?_
                refine rf_R_put pm_M191 T2743 (pc' := 42) rfl rfl rfl (by decide) rfl rfl (sf_weak B2881 (by decide) (by decide)) rfl rfl (fun h2894 m2897 em2898 T2895 F2896 => ?_)
                have F2899 := F2880.trans F2896 (by decide)
                have B2900 : sf_B 0 600 (m2897 10) := by rw [em2898]; exact B2884
                have ek2901 : (m2897 10).toInt = ((m2740 10)).toInt := by rw [em2898]; rfl
                have B2902 : sf_B 1 4 (m2897 17) := by rw [em2898]; exact B2749
                have ek2903 : (m2897 17).toInt = ((m2740 17)).toInt := by rw [em2898]; rfl
                have B2904 : sf_B 0 0 (m2897 22) := by rw [em2898]; exact B2750
                have ek2905 : (m2897 22).toInt = ((m2740 22)).toInt := by rw [em2898]; rfl
                have B2906 : sf_B 0 99 (m2897 21) := by rw [em2898]; exact B2881
                have ek2907 : (m2897 21).toInt = ((m2740 21)).toInt := by rw [em2898]; rfl
                have W2908 : rf_W [10, 12, 13, 14, 16, 17, 18, 21, 22] m m2897 := by rw [em2898]; exact W2883.put (by decide)
                refine pm_R_lo pm_M191 (pc' := 43) rfl rfl rfl ?_
                refine pm_R_ret pm_M191 (r := some (.int 1)) rfl rfl ?_
                show pm_R _ 189 202 [.ref 41, .long a0, pm_no, .int a1, pm_no] [.int 1] _ _
                refine pm_R_br pm_M189 (pc' := 205) (st' := []) (pm_q189_1 (Nat.le_of_ble_eq_true rfl)) rfl ?_
                refine pm_R_lo pm_M189 (pc' := 206) (pm_q189_1 (Nat.le_of_ble_eq_true rfl)) rfl rfl ?_
                refine pm_R_ldc2 pm_M189 (pc' := 209) (pm_q189_1 (Nat.le_of_ble_eq_true rfl)) rfl rfl ?_
                refine sf_R_lcmp pm_M189 (pc' := 210) (pm_q189_1 (Nat.le_of_ble_eq_true rfl)) rfl (fun z2909 e2910 => ?_)
                have B2911 : sf_B (-2147483648) (-1) z2909 := lf_cmpLt e2910 B342 (⟨by decide, by decide⟩ : lf_B 1935767923 1935767923 1935767923) (by decide)
                refine pm_R_ifc pm_M189 (t := 226) (pc' := 213) (pm_q189_1 (Nat.le_of_ble_eq_true rfl)) rfl rfl (fun c2912 => ?_) (fun c2912 => absurd (Classical.not_not.mp c2912) (sf_neq2 B2911 sf_k0 (by decide)))
                have k2913 := sf_lneC e2910 c2912
                refine pm_R_lo pm_M189 (pc' := 227) (pm_q189_2 (Nat.le_of_ble_eq_true rfl)) rfl rfl ?_
                refine pm_R_op pm_M189 (pc' := 228) (st' := [.int 1, .ref 41]) (pm_q189_2 (Nat.le_of_ble_eq_true rfl)) rfl rfl ?_
                refine pm_R_op pm_M189 (pc' := 229) (st' := [.int 2, .int 1, .ref 41]) (pm_q189_2 (Nat.le_of_ble_eq_true rfl)) rfl rfl ?_
                refine pm_R_op pm_M189 (pc' := 230) (st' := [.int 3, .int 2, .int 1, .ref 41]) (pm_q189_2 (Nat.le_of_ble_eq_true rfl)) rfl rfl ?_
                refine pm_R_op pm_M189 (pc' := 232) (st' := [.int 50, .int 3, .int 2, .int 1, .ref 41]) (pm_q189_2 (Nat.le_of_ble_eq_true rfl)) rfl rfl ?_
                refine pm_R_op pm_M189 (pc' := 233) (st' := [.int 0, .int 50, .int 3, .int 2, .int 1, .ref 41]) (pm_q189_2 (Nat.le_of_ble_eq_true rfl)) rfl rfl ?_
                refine pm_R_cv pm_M189 (pc' := 236) (a := 41) (ra := [.int 0, .int 50, .int 3, .int 2, .int 1]) (rest := []) (ls' := [.ref 41, .int 1, .int 2, .int 3, .int 50, .int 0, pm_no, pm_no]) (pm_q189_2 (Nat.le_of_ble_eq_true rfl)) rfl (Or.inl rfl) pm_M185 T2895.2.1 rfl (by decide) (Nat.lt_of_lt_of_le (by decide) T2895.1) rfl rfl (Nat.le_of_ble_eq_true rfl) rfl rfl ?_
                have e2914 := (F2896.cell (by decide) (F2744.cell (by decide) (F2697.cell (by decide) (F1759.cell (by decide) (F1728.cell (by decide) (F1720.cell (by decide) (F1715.cell (by decide) (F1710.cell (by decide) (F1705.cell (by decide) (F1684.cell (by decide) (F1669.cell (by decide) e3)))))))))))
                refine rf_c185_d (d := d + 3) T2895 (⟨f2, e2914, ct4, fun z => (sf_pos B2902 (by decide) z)⟩) (fun z => sf_pos B2902 (by decide) z) (fun m2917 w2918 h2919 T2920 F2921 W2922 X2923 => ?_)
                have F2924 := F2899.trans F2921 (by decide)
                have B2925 : sf_B 0 600 (m2917 10) := by rw [W2922 10 (by decide)]; exact B2900
                have ek2926 : (m2917 10).toInt = ((m2740 10)).toInt := by rw [W2922 10 (by decide)]; exact ek2901
                have B2927 : sf_B 1 4 (m2917 17) := by rw [W2922 17 (by decide)]; exact B2902
                have ek2928 : (m2917 17).toInt = ((m2740 17)).toInt := by rw [W2922 17 (by decide)]; exact ek2903
                have B2929 : sf_B 0 0 (m2917 22) := by rw [W2922 22 (by decide)]; exact B2904
                have ek2930 : (m2917 22).toInt = ((m2740 22)).toInt := by rw [W2922 22 (by decide)]; exact ek2905
                have B2931 : sf_B 0 99 (m2917 21) := by rw [W2922 21 (by decide)]; exact B2906
                have ek2932 : (m2917 21).toInt = ((m2740 21)).toInt := by rw [W2922 21 (by decide)]; exact ek2907
                have W2933 : rf_W [10, 12, 13, 14, 16, 17, 18, 21, 22] m m2917 := W2908.trans W2922 (by decide)
                show pm_R _ 189 236 [.ref 41, .long a0, pm_no, .int a1, pm_no] [] _ _
                obtain ⟨f2934, e2935, ct2936, bd2937⟩ := X2923
                refine pm_R_op pm_M189 (pc' := 237) (st' := [.int 1]) (pm_q189_2 (Nat.le_of_ble_eq_true rfl)) rfl rfl ?_
                exact pm_R_ret pm_M189 (r := some (.int 1)) (pm_q189_2 (Nat.le_of_ble_eq_true rfl)) rfl (K1 m2917 w2918 h2919 T2920 F2924 W2933 (⟨f2934, e2935, ct2936, fun z => (sf_pos B2927 (by decide) z)⟩) (sf_aux39 _ _ _ ek2926 R2887))
              · have B2938 : sf_B 0 98 (m2740 21) := sf_ltL (Int32.not_le.mp c2893) B2881 B2889
                have B2939 : sf_B 1 99 v2888 := sf_ltR (Int32.not_le.mp c2893) B2881 B2889
                refine pm_R_lo pm_M191 (pc' := 27) rfl rfl rfl ?_
                refine rf_R_get pm_M191 T2743 (pc' := 30) (v := .ref 52) rfl rfl rfl rfl ?_
                refine pm_R_lo pm_M191 (pc' := 31) rfl rfl rfl ?_
                refine pm_R_iald pm_M191 (pc' := 32) (v := v2888) rfl e2890 (Nat.lt_of_lt_of_le (by decide) T2743.1) rfl sf_upd_eq rfl ?_
                refine pm_R_br pm_M191 (pc' := 39) rfl rfl ?_
                refine rf_R_put pm_M191 T2743 (pc' := 42) rfl rfl rfl (by decide) rfl rfl (sf_weak B2939 (by decide) (by decide)) rfl rfl (fun h2942 m2945 em2946 T2943 F2944 => ?_)
                have F2947 := F2880.trans F2944 (by decide)
                have B2948 : sf_B 0 600 (m2945 10) := by rw [em2946]; exact B2884
                have ek2949 : (m2945 10).toInt = ((m2740 10)).toInt := by rw [em2946]; rfl
                have B2950 : sf_B 1 4 (m2945 17) := by rw [em2946]; exact B2749
                have ek2951 : (m2945 17).toInt = ((m2740 17)).toInt := by rw [em2946]; rfl
                have B2952 : sf_B 0 0 (m2945 22) := by rw [em2946]; exact B2750
                have ek2953 : (m2945 22).toInt = ((m2740 22)).toInt := by rw [em2946]; rfl
                have B2954 : sf_B 1 99 (m2945 21) := by rw [em2946]; exact B2939
                have ek2955 : (m2945 21).toInt = (v2888).toInt := by rw [em2946]; rfl
                have W2956 : rf_W [10, 12, 13, 14, 16, 17, 18, 21, 22] m m2945 := by rw [em2946]; exact W2883.put (by decide)
                refine pm_R_lo pm_M191 (pc' := 43) rfl rfl rfl ?_
                refine pm_R_ret pm_M191 (r := some (.int 1)) rfl rfl ?_
                show pm_R _ 189 202 [.ref 41, .long a0, pm_no, .int a1, pm_no] [.int 1] _ _
                refine pm_R_br pm_M189 (pc' := 205) (st' := []) (pm_q189_1 (Nat.le_of_ble_eq_true rfl)) rfl ?_
                refine pm_R_lo pm_M189 (pc' := 206) (pm_q189_1 (Nat.le_of_ble_eq_true rfl)) rfl rfl ?_
                refine pm_R_ldc2 pm_M189 (pc' := 209) (pm_q189_1 (Nat.le_of_ble_eq_true rfl)) rfl rfl ?_
                refine sf_R_lcmp pm_M189 (pc' := 210) (pm_q189_1 (Nat.le_of_ble_eq_true rfl)) rfl (fun z2957 e2958 => ?_)
                have B2959 : sf_B (-2147483648) (-1) z2957 := lf_cmpLt e2958 B342 (⟨by decide, by decide⟩ : lf_B 1935767923 1935767923 1935767923) (by decide)
                refine pm_R_ifc pm_M189 (t := 226) (pc' := 213) (pm_q189_1 (Nat.le_of_ble_eq_true rfl)) rfl rfl (fun c2960 => ?_) (fun c2960 => absurd (Classical.not_not.mp c2960) (sf_neq2 B2959 sf_k0 (by decide)))
                have k2961 := sf_lneC e2958 c2960
                refine pm_R_lo pm_M189 (pc' := 227) (pm_q189_2 (Nat.le_of_ble_eq_true rfl)) rfl rfl ?_
                refine pm_R_op pm_M189 (pc' := 228) (st' := [.int 1, .ref 41]) (pm_q189_2 (Nat.le_of_ble_eq_true rfl)) rfl rfl ?_
                refine pm_R_op pm_M189 (pc' := 229) (st' := [.int 2, .int 1, .ref 41]) (pm_q189_2 (Nat.le_of_ble_eq_true rfl)) rfl rfl ?_
                refine pm_R_op pm_M189 (pc' := 230) (st' := [.int 3, .int 2, .int 1, .ref 41]) (pm_q189_2 (Nat.le_of_ble_eq_true rfl)) rfl rfl ?_
                refine pm_R_op pm_M189 (pc' := 232) (st' := [.int 50, .int 3, .int 2, .int 1, .ref 41]) (pm_q189_2 (Nat.le_of_ble_eq_true rfl)) rfl rfl ?_
                refine pm_R_op pm_M189 (pc' := 233) (st' := [.int 0, .int 50, .int 3, .int 2, .int 1, .ref 41]) (pm_q189_2 (Nat.le_of_ble_eq_true rfl)) rfl rfl ?_
                refine pm_R_cv pm_M189 (pc' := 236) (a := 41) (ra := [.int 0, .int 50, .int 3, .int 2, .int 1]) (rest := []) (ls' := [.ref 41, .int 1, .int 2, .int 3, .int 50, .int 0, pm_no, pm_no]) (pm_q189_2 (Nat.le_of_ble_eq_true rfl)) rfl (Or.inl rfl) pm_M185 T2943.2.1 rfl (by decide) (Nat.lt_of_lt_of_le (by decide) T2943.1) rfl rfl (Nat.le_of_ble_eq_true rfl) rfl rfl ?_
                have e2962 := (F2944.cell (by decide) (F2744.cell (by decide) (F2697.cell (by decide) (F1759.cell (by decide) (F1728.cell (by decide) (F1720.cell (by decide) (F1715.cell (by decide) (F1710.cell (by decide) (F1705.cell (by decide) (F1684.cell (by decide) (F1669.cell (by decide) e3)))))))))))
                refine rf_c185_d (d := d + 3) T2943 (⟨f2, e2962, ct4, fun z => (sf_pos B2950 (by decide) z)⟩) (fun z => sf_pos B2950 (by decide) z) (fun m2965 w2966 h2967 T2968 F2969 W2970 X2971 => ?_)
                have F2972 := F2947.trans F2969 (by decide)
                have B2973 : sf_B 0 600 (m2965 10) := by rw [W2970 10 (by decide)]; exact B2948
                have ek2974 : (m2965 10).toInt = ((m2740 10)).toInt := by rw [W2970 10 (by decide)]; exact ek2949
                have B2975 : sf_B 1 4 (m2965 17) := by rw [W2970 17 (by decide)]; exact B2950
                have ek2976 : (m2965 17).toInt = ((m2740 17)).toInt := by rw [W2970 17 (by decide)]; exact ek2951
                have B2977 : sf_B 0 0 (m2965 22) := by rw [W2970 22 (by decide)]; exact B2952
                have ek2978 : (m2965 22).toInt = ((m2740 22)).toInt := by rw [W2970 22 (by decide)]; exact ek2953
                have B2979 : sf_B 1 99 (m2965 21) := by rw [W2970 21 (by decide)]; exact B2954
                have ek2980 : (m2965 21).toInt = (v2888).toInt := by rw [W2970 21 (by decide)]; exact ek2955
                have W2981 : rf_W [10, 12, 13, 14, 16, 17, 18, 21, 22] m m2965 := W2956.trans W2970 (by decide)
                show pm_R _ 189 236 [.ref 41, .long a0, pm_no, .int a1, pm_no] [] _ _
                obtain ⟨f2982, e2983, ct2984, bd2985⟩ := X2971
                refine pm_R_op pm_M189 (pc' := 237) (st' := [.int 1]) (pm_q189_2 (Nat.le_of_ble_eq_true rfl)) rfl rfl ?_
                exact pm_R_ret pm_M189 (r := some (.int 1)) (pm_q189_2 (Nat.le_of_ble_eq_true rfl)) rfl (K1 m2965 w2966 h2967 T2968 F2972 W2981 (⟨f2982, e2983, ct2984, fun z => (sf_pos B2975 (by decide) z)⟩) (sf_aux39 _ _ _ ek2974 R2887))
    · have k2986 := sf_lneC e339 c340
      refine pm_R_lo pm_M189 (pc' := 17) rfl rfl rfl ?_
      refine pm_R_ldc2 pm_M189 (pc' := 20) rfl rfl rfl ?_
      refine sf_R_lcmp pm_M189 (pc' := 21) rfl rfl (fun z2987 e2988 => ?_)
      refine pm_R_ifc pm_M189 (t := 37) (pc' := 24) rfl rfl rfl (fun c2989 => ?_) (fun c2989 => ?_)
      · have B2990 : sf_B 0 0 z2987 := sf_eqL c2989 sf_k0
        have B2991 : lf_B 1635213689 1635213689 a0 := lf_eqB e2988 B2990 (⟨by decide, by decide⟩ : lf_B 1635213689 1635213689 1635213689)
        refine pm_R_lo pm_M189 (pc' := 38) rfl rfl rfl ?_
        refine pm_R_ldc2 pm_M189 (pc' := 41) rfl rfl rfl ?_
        refine pm_R_op pm_M189 (pc' := 42) (st' := [.int z7]) rfl (by show some (Value.int (lg_cmp a0 495622124659) :: _) = _; rw [← e8]) rfl ?_
        refine pm_R_ifc pm_M189 (t := 62) (pc' := 45) rfl rfl rfl (fun c2994 => absurd c2994 c9) (fun c2994 => ?_)
        have k2995 := sf_lneC e8 c2994
        refine pm_R_lo pm_M189 (pc' := 46) rfl rfl rfl ?_
        refine rf_R_get pm_M189 T (pc' := 49) (v := .ref 51) rfl rfl rfl rfl ?_
        refine pm_R_op pm_M189 (pc' := 50) (st' := [.int 1, .ref 51]) rfl rfl rfl ?_
        refine pm_R_iald pm_M189 (pc' := 51) (v := (f2 1)) rfl e3 (Nat.lt_of_lt_of_le (by decide) T.1) rfl rfl rfl ?_
        refine pm_R_op pm_M189 (pc' := 53) (st' := [.int 50, .int (f2 1)]) rfl rfl rfl ?_
        refine pm_R_icmp pm_M189 (t := 62) (pc' := 56) rfl rfl rfl (fun c2998 => ?_) (fun c2998 => ?_)
        · have B2999 : sf_B 0 49 (f2 1) := sf_neH0 c2998 sf_k50 ct4
          refine pm_R_lo pm_M189 (pc' := 63) rfl rfl rfl ?_
          refine pm_R_cv pm_M189 (pc' := 66) (a := 41) (ra := []) (rest := []) (ls' := [.ref 41, pm_no, pm_no]) rfl rfl (Or.inl rfl) pm_M179 T.2.1 rfl (by decide) (Nat.lt_of_lt_of_le (by decide) T.1) rfl rfl (Nat.le_of_ble_eq_true rfl) rfl rfl ?_
          refine rf_c179 (d := d + 2) T  (fun m3002 w3003 h3004 T3005 F3006 W3007 X3008 X3009 => ?_)
          have F3010 := (rf_G.refl [41, 51, 52] h).trans F3006 (by decide)
          have B3011 : sf_B 0 4 (m3002 17) := by rw [W3007 17 (by decide)]; exact B6
          have ek3012 : (m3002 17).toInt = ((m 17)).toInt := by rw [W3007 17 (by decide)]
          have W3013 : rf_W [10, 12, 13, 14, 16, 17, 18, 21, 22] m m3002 := (rf_W.refl [10, 12, 13, 14, 16, 17, 18, 21, 22] m).trans W3007 (by decide)
          have B3014 : sf_B 0 600 (m3002 10) := T3005.2.2.1 10
          have B3015 : sf_B 0 1 (m3002 22) := T3005.2.2.1 22
          show pm_R _ 189 66 [.ref 41, .long a0, pm_no, .int a1, pm_no] [] _ _
          have R3016 : (m 10).toInt ≤ (m3002 10).toInt := (sf_aux51 _ _ X3008)
          refine pm_R_lo pm_M189 (pc' := 67) rfl rfl rfl ?_
          refine pm_R_ldc2 pm_M189 (pc' := 70) rfl rfl rfl ?_
          refine pm_R_op pm_M189 (pc' := 71) (st' := [.int z7]) rfl (by show some (Value.int (lg_cmp a0 495622124659) :: _) = _; rw [← e8]) rfl ?_
          refine pm_R_ifc pm_M189 (t := 137) (pc' := 74) rfl rfl rfl (fun c3019 => ?_) (fun c3019 => absurd (Classical.not_not.mp c3019) c9)
          have k3020 := sf_lneC e8 c3019
          refine pm_R_lo pm_M189 (pc' := 138) (pm_q189_1 (Nat.le_of_ble_eq_true rfl)) rfl rfl ?_
          refine pm_R_cv pm_M189 (pc' := 141) (a := 41) (ra := []) (rest := []) (ls' := [.ref 41, pm_no]) (pm_q189_1 (Nat.le_of_ble_eq_true rfl)) rfl (Or.inl rfl) pm_M190 T3005.2.1 rfl (by decide) (Nat.lt_of_lt_of_le (by decide) T3005.1) rfl rfl (Nat.le_of_ble_eq_true rfl) rfl rfl ?_
          refine pm_R_op pm_M190 (pc' := 1) (st' := [.int 0]) rfl rfl rfl ?_
          refine pm_R_lo pm_M190 (pc' := 2) (ls' := [.ref 41, .int 0]) (st' := []) rfl rfl rfl ?_
          refine pm_R_lo pm_M190 (pc' := 3) rfl rfl rfl ?_
          refine pm_R_op pm_M190 (pc' := 4) (st' := [.int 4, .int 0]) rfl rfl rfl ?_
          refine pm_R_br pm_M190 (pc' := 7) (st' := []) rfl rfl ?_
          refine pm_R_lo pm_M190 (pc' := 8) rfl rfl rfl ?_
          refine rf_R_get pm_M190 T3005 (pc' := 11) (v := .ref 52) rfl rfl rfl rfl ?_
          refine pm_R_lo pm_M190 (pc' := 12) rfl rfl rfl ?_
          refine pm_R_op pm_M190 (pc' := 13) (st' := [.int (-1), .int 0, .ref 52]) rfl rfl rfl ?_
          obtain ⟨f3021, e3022, b3023⟩ := T3005.2.2.2.1 52 (by decide) (by decide)
          refine rf_R_ist pm_M190 T3005 (pc' := 14) rfl e3022 (by decide) (by decide) rfl ⟨_, rfl, sf_upd b3023 (sf_weak sf_kn1 (by decide) (by decide)) _⟩ rfl (fun h3024 T3025 F3026 e3027 => ?_)
          have F3028 := F3010.trans F3026 (by decide)
          refine pm_R_lo pm_M190 (pc' := 17) (ls' := [.ref 41, .int 1]) (st' := []) rfl rfl rfl ?_
          refine pm_R_br pm_M190 (pc' := 2) rfl rfl ?_
          refine pm_R_lo pm_M190 (pc' := 3) rfl rfl rfl ?_
          refine pm_R_op pm_M190 (pc' := 4) (st' := [.int 4, .int 1]) rfl rfl rfl ?_
          refine pm_R_br pm_M190 (pc' := 7) (st' := []) rfl rfl ?_
          refine pm_R_lo pm_M190 (pc' := 8) rfl rfl rfl ?_
          refine rf_R_get pm_M190 T3025 (pc' := 11) (v := .ref 52) rfl rfl rfl rfl ?_
          refine pm_R_lo pm_M190 (pc' := 12) rfl rfl rfl ?_
          refine pm_R_op pm_M190 (pc' := 13) (st' := [.int (-1), .int 1, .ref 52]) rfl rfl rfl ?_
          refine rf_R_ist pm_M190 T3025 (pc' := 14) rfl e3027 (by decide) (by decide) rfl ⟨_, rfl, sf_upd (sf_upd b3023 (sf_weak sf_kn1 (by decide) (by decide)) _) (sf_weak sf_kn1 (by decide) (by decide)) _⟩ rfl (fun h3029 T3030 F3031 e3032 => ?_)
          have F3033 := F3028.trans F3031 (by decide)
          refine pm_R_lo pm_M190 (pc' := 17) (ls' := [.ref 41, .int 2]) (st' := []) rfl rfl rfl ?_
          refine pm_R_br pm_M190 (pc' := 2) rfl rfl ?_
          refine pm_R_lo pm_M190 (pc' := 3) rfl rfl rfl ?_
          refine pm_R_op pm_M190 (pc' := 4) (st' := [.int 4, .int 2]) rfl rfl rfl ?_
          refine pm_R_br pm_M190 (pc' := 7) (st' := []) rfl rfl ?_
          refine pm_R_lo pm_M190 (pc' := 8) rfl rfl rfl ?_
          refine rf_R_get pm_M190 T3030 (pc' := 11) (v := .ref 52) rfl rfl rfl rfl ?_
          refine pm_R_lo pm_M190 (pc' := 12) rfl rfl rfl ?_
          refine pm_R_op pm_M190 (pc' := 13) (st' := [.int (-1), .int 2, .ref 52]) rfl rfl rfl ?_
          refine rf_R_ist pm_M190 T3030 (pc' := 14) rfl e3032 (by decide) (by decide) rfl ⟨_, rfl, sf_upd (sf_upd (sf_upd b3023 (sf_weak sf_kn1 (by decide) (by decide)) _) (sf_weak sf_kn1 (by decide) (by decide)) _) (sf_weak sf_kn1 (by decide) (by decide)) _⟩ rfl (fun h3034 T3035 F3036 e3037 => ?_)
          have F3038 := F3033.trans F3036 (by decide)
          refine pm_R_lo pm_M190 (pc' := 17) (ls' := [.ref 41, .int 3]) (st' := []) rfl rfl rfl ?_
          refine pm_R_br pm_M190 (pc' := 2) rfl rfl ?_
          refine pm_R_lo pm_M190 (pc' := 3) rfl rfl rfl ?_
          refine pm_R_op pm_M190 (pc' := 4) (st' := [.int 4, .int 3]) rfl rfl rfl ?_
          refine pm_R_br pm_M190 (pc' := 7) (st' := []) rfl rfl ?_
          refine pm_R_lo pm_M190 (pc' := 8) rfl rfl rfl ?_
          refine rf_R_get pm_M190 T3035 (pc' := 11) (v := .ref 52) rfl rfl rfl rfl ?_
          refine pm_R_lo pm_M190 (pc' := 12) rfl rfl rfl ?_
          refine pm_R_op pm_M190 (pc' := 13) (st' := [.int (-1), .int 3, .ref 52]) rfl rfl rfl ?_
          refine rf_R_ist pm_M190 T3035 (pc' := 14) rfl e3037 (by decide) (by decide) rfl ⟨_, rfl, sf_upd (sf_upd (sf_upd (sf_upd b3023 (sf_weak sf_kn1 (by decide) (by decide)) _) (sf_weak sf_kn1 (by decide) (by decide)) _) (sf_weak sf_kn1 (by decide) (by decide)) _) (sf_weak sf_kn1 (by decide) (by decide)) _⟩ rfl (fun h3039 T3040 F3041 e3042 => ?_)
          have F3043 := F3038.trans F3041 (by decide)
          refine pm_R_lo pm_M190 (pc' := 17) (ls' := [.ref 41, .int 4]) (st' := []) rfl rfl rfl ?_
          refine pm_R_br pm_M190 (pc' := 2) rfl rfl ?_
          refine pm_R_lo pm_M190 (pc' := 3) rfl rfl rfl ?_
          refine pm_R_op pm_M190 (pc' := 4) (st' := [.int 4, .int 4]) rfl rfl rfl ?_
          refine pm_R_br pm_M190 (pc' := 20) (st' := []) rfl rfl ?_
          refine pm_R_ret pm_M190 (r := none) rfl rfl ?_
          show pm_R _ 189 141 [.ref 41, .long a0, pm_no, .int a1, pm_no] [] _ _
          refine pm_R_lo pm_M189 (pc' := 142) (pm_q189_1 (Nat.le_of_ble_eq_true rfl)) rfl rfl ?_
          refine rf_R_get pm_M189 T3040 (pc' := 145) (v := .ref 52) (pm_q189_1 (Nat.le_of_ble_eq_true rfl)) rfl rfl rfl ?_
          refine pm_R_op pm_M189 (pc' := 146) (st' := [.int 0, .ref 52]) (pm_q189_1 (Nat.le_of_ble_eq_true rfl)) rfl rfl ?_
          refine pm_R_lo pm_M189 (pc' := 147) (pm_q189_1 (Nat.le_of_ble_eq_true rfl)) rfl rfl ?_
          refine pm_R_ldc2 pm_M189 (pc' := 150) (pm_q189_1 (Nat.le_of_ble_eq_true rfl)) rfl rfl ?_
          refine pm_R_op pm_M189 (pc' := 151) (st' := [.int z338, .int 0, .ref 52]) (pm_q189_1 (Nat.le_of_ble_eq_true rfl)) (by show some (Value.int (lg_cmp a0 1819242347) :: _) = _; rw [← e339]) rfl ?_
          refine pm_R_ifc pm_M189 (t := 158) (pc' := 154) (pm_q189_1 (Nat.le_of_ble_eq_true rfl)) rfl rfl (fun c3046 => ?_) (fun c3046 => absurd (Classical.not_not.mp c3046) c340)
          have k3047 := sf_lneC e339 c3046
          refine pm_R_lo pm_M189 (pc' := 159) (pm_q189_1 (Nat.le_of_ble_eq_true rfl)) rfl rfl ?_
          refine pm_R_ldc2 pm_M189 (pc' := 162) (pm_q189_1 (Nat.le_of_ble_eq_true rfl)) rfl rfl ?_
          refine pm_R_op pm_M189 (pc' := 163) (st' := [.int z2987, .int 0, .ref 52]) (pm_q189_1 (Nat.le_of_ble_eq_true rfl)) (by show some (Value.int (lg_cmp a0 1635213689) :: _) = _; rw [← e2988]) rfl ?_
          refine pm_R_ifc pm_M189 (t := 170) (pc' := 166) (pm_q189_1 (Nat.le_of_ble_eq_true rfl)) rfl rfl (fun c3050 => absurd (sf_pt2 B2990 sf_k0) c3050) (fun c3050 => ?_)
          refine pm_R_op pm_M189 (pc' := 167) (st' := [.int 1, .int 0, .ref 52]) (pm_q189_1 (Nat.le_of_ble_eq_true rfl)) rfl rfl ?_
          refine pm_R_br pm_M189 (pc' := 171) (pm_q189_1 (Nat.le_of_ble_eq_true rfl)) rfl ?_
          refine rf_R_ist pm_M189 T3040 (pc' := 172) (pm_q189_1 (Nat.le_of_ble_eq_true rfl)) e3042 (by decide) (by decide) rfl ⟨_, rfl, sf_upd (sf_upd (sf_upd (sf_upd (sf_upd b3023 (sf_weak sf_kn1 (by decide) (by decide)) _) (sf_weak sf_kn1 (by decide) (by decide)) _) (sf_weak sf_kn1 (by decide) (by decide)) _) (sf_weak sf_kn1 (by decide) (by decide)) _) (sf_weak sf_k1 (by decide) (by decide)) _⟩ rfl (fun h3051 T3052 F3053 e3054 => ?_)
          have F3055 := F3043.trans F3053 (by decide)
          refine pm_R_lo pm_M189 (pc' := 173) (pm_q189_1 (Nat.le_of_ble_eq_true rfl)) rfl rfl ?_
          refine pm_R_op pm_M189 (pc' := 174) (st' := [.int 1, .ref 41]) (pm_q189_1 (Nat.le_of_ble_eq_true rfl)) rfl rfl ?_
          refine pm_R_op pm_M189 (pc' := 175) (st' := [.int (-1), .int 1, .ref 41]) (pm_q189_1 (Nat.le_of_ble_eq_true rfl)) rfl rfl ?_
          refine pm_R_cv pm_M189 (pc' := 178) (a := 41) (ra := [.int (-1), .int 1]) (rest := []) (ls' := [.ref 41, .int 1, .int (-1), pm_no]) (pm_q189_1 (Nat.le_of_ble_eq_true rfl)) rfl (Or.inl rfl) pm_M191 T3052.2.1 rfl (by decide) (Nat.lt_of_lt_of_le (by decide) T3052.1) rfl rfl (Nat.le_of_ble_eq_true rfl) rfl rfl ?_
          refine pm_R_lo pm_M191 (pc' := 1) rfl rfl rfl ?_
          refine pm_R_lo pm_M191 (pc' := 2) rfl rfl rfl ?_
          refine pm_R_op pm_M191 (pc' := 3) (st' := [.int 5, .int 1, .ref 41]) rfl rfl rfl ?_
          refine pm_R_lo pm_M191 (pc' := 4) rfl rfl rfl ?_
          refine pm_R_cv pm_M191 (pc' := 7) (a := 41) (ra := [.int (-1), .int 5, .int 1]) (rest := []) (ls' := [.ref 41, .int 1, .int 5, .int (-1)]) rfl rfl (Or.inl rfl) pm_M183 T3052.2.1 rfl (by decide) (Nat.lt_of_lt_of_le (by decide) T3052.1) rfl rfl (Nat.le_of_ble_eq_true rfl) rfl rfl ?_
          refine rf_c183_1_5 (d := d + 0) T3052  (fun m3058 w3059 h3060 T3061 F3062 W3063 X3064 => ?_) (fun m3067 w3068 h3069 T3070 F3071 W3072 X3073 X3074 X3075 X3076 X3077 => ?_) (fun m3080 w3081 h3082 T3083 F3084 W3085 X3086 X3087 X3088 B3089 B3090 => ?_)
          · have F3091 := F3055.trans F3062 (by decide)
            have W3092 : rf_W [10, 12, 13, 14, 16, 17, 18, 21, 22] m m3058 := W3013.trans W3063 (by decide)
            have B3093 : sf_B 0 600 (m3058 10) := T3061.2.2.1 10
            have B3094 : sf_B 0 4 (m3058 17) := T3061.2.2.1 17
            have B3095 : sf_B 0 1 (m3058 22) := T3061.2.2.1 22
            show pm_R _ 191 7 [.ref 41, .int 1, .int (-1), pm_no] [.int 0] _ _
            have R3096 : (m 10).toInt ≤ (m3058 10).toInt := (sf_aux70 _ _ _ R3016 X3064)
            refine pm_R_lo pm_M191 (pc' := 8) (ls' := [.ref 41, .int 1, .int (-1), .int 0]) (st' := []) rfl rfl rfl ?_
            refine pm_R_lo pm_M191 (pc' := 9) rfl rfl rfl ?_
            refine pm_R_lo pm_M191 (pc' := 10) rfl rfl rfl ?_
            refine pm_R_br pm_M191 (pc' := 35) (st' := [.ref 41]) rfl rfl ?_
            refine pm_R_lo pm_M191 (pc' := 36) rfl rfl rfl ?_
            have B3097 : sf_B (-1) 99 (m3058 21) := T3061.2.2.1 21
            refine rf_R_get pm_M191 T3061 (pc' := 39) (v := .int (m3058 21)) rfl rfl rfl rfl ?_
            refine rf_R_put pm_M191 T3061 (pc' := 42) rfl rfl rfl (by decide) rfl rfl B3097 rfl rfl (fun h3098 m3101 em3102 T3099 F3100 => ?_)
            have F3103 := F3091.trans F3100 (by decide)
            have B3104 : sf_B 0 600 (m3101 10) := by rw [em3102]; exact B3093
            have ek3105 : (m3101 10).toInt = ((m3058 10)).toInt := by rw [em3102]; rfl
            have B3106 : sf_B 0 4 (m3101 17) := by rw [em3102]; exact B3094
            have ek3107 : (m3101 17).toInt = ((m3058 17)).toInt := by rw [em3102]; rfl
            have B3108 : sf_B 0 1 (m3101 22) := by rw [em3102]; exact B3095
            have ek3109 : (m3101 22).toInt = ((m3058 22)).toInt := by rw [em3102]; rfl
            have B3110 : sf_B (-1) 99 (m3101 21) := by rw [em3102]; exact B3097
            have ek3111 : (m3101 21).toInt = ((m3058 21)).toInt := by rw [em3102]; rfl
            have W3112 : rf_W [10, 12, 13, 14, 16, 17, 18, 21, 22] m m3101 := by rw [em3102]; exact W3092.put (by decide)
            refine pm_R_lo pm_M191 (pc' := 43) rfl rfl rfl ?_
            refine pm_R_ret pm_M191 (r := some (.int 0)) rfl rfl ?_
            show pm_R _ 189 178 [.ref 41, .long a0, pm_no, .int a1, pm_no] [.int 0] _ _
            refine pm_R_br pm_M189 (pc' := 181) (st' := []) (pm_q189_1 (Nat.le_of_ble_eq_true rfl)) rfl ?_
            refine pm_R_op pm_M189 (pc' := 182) (st' := [.int 0]) (pm_q189_1 (Nat.le_of_ble_eq_true rfl)) rfl rfl ?_
            exact pm_R_ret pm_M189 (r := some (.int 0)) (pm_q189_1 (Nat.le_of_ble_eq_true rfl)) rfl (K0 m3101 w3059 h3098 T3099 F3103 W3112 (sf_aux39 _ _ _ ek3105 R3096))
          · have F3113 := F3055.trans F3071 (by decide)
            have W3114 : rf_W [10, 12, 13, 14, 16, 17, 18, 21, 22] m m3067 := W3013.trans W3072 (by decide)
            have B3115 : sf_B 0 600 (m3067 10) := T3070.2.2.1 10
            have B3116 : sf_B 0 4 (m3067 17) := T3070.2.2.1 17
            have B3117 : sf_B 0 1 (m3067 22) := T3070.2.2.1 22
            show pm_R _ 191 7 [.ref 41, .int 1, .int (-1), pm_no] [.int 1] _ _
            have R3118 : (m 10).toInt ≤ (m3067 10).toInt := (sf_aux70 _ _ _ R3016 X3077)
            obtain ⟨v3119, B3120, e3121⟩ := X3073 _ e3054
            refine pm_R_lo pm_M191 (pc' := 8) (ls' := [.ref 41, .int 1, .int (-1), .int 1]) (st' := []) rfl rfl rfl ?_
            refine pm_R_lo pm_M191 (pc' := 9) rfl rfl rfl ?_
            refine pm_R_lo pm_M191 (pc' := 10) rfl rfl rfl ?_
            refine pm_R_br pm_M191 (pc' := 13) (st' := [.ref 41]) rfl rfl ?_
            refine pm_R_lo pm_M191 (pc' := 14) rfl rfl rfl ?_
            refine rf_R_get pm_M191 T3070 (pc' := 17) (v := .ref 52) rfl rfl rfl rfl ?_
            refine pm_R_lo pm_M191 (pc' := 18) rfl rfl rfl ?_
            refine pm_R_iald pm_M191 (pc' := 19) (v := v3119) rfl e3121 (Nat.lt_of_lt_of_le (by decide) T3070.1) rfl sf_upd_eq rfl ?_
            refine pm_R_lo pm_M191 (pc' := 20) rfl rfl rfl ?_
            have B3124 : sf_B (-1) 99 (m3067 21) := T3070.2.2.1 21
            refine rf_R_get pm_M191 T3070 (pc' := 23) (v := .int (m3067 21)) rfl rfl rfl rfl ?_
            refine pm_R_icmp pm_M191 (t := 35) (pc' := 26) rfl rfl rfl (fun c3125 => ?_) (fun c3125 => ?_)
            · have B3126 : sf_B 0 99 (m3067 21) := sf_leR c3125 B3120 B3124
              refine pm_R_lo pm_M191 (pc' := 36) rfl rfl rfl ?_
              refine rf_R_get pm_M191 T3070 (pc' := 39) (v := .int (m3067 21)) rfl rfl rfl rfl ?_
              refine rf_R_put pm_M191 T3070 (pc' := 42) rfl rfl rfl (by decide) rfl rfl (sf_weak B3126 (by decide) (by decide)) rfl rfl (fun h3127 m3130 em3131 T3128 F3129 => ?_)
              have F3132 := F3113.trans F3129 (by decide)
              have B3133 : sf_B 0 600 (m3130 10) := by rw [em3131]; exact B3115
              have ek3134 : (m3130 10).toInt = ((m3067 10)).toInt := by rw [em3131]; rfl
              have B3135 : sf_B 0 4 (m3130 17) := by rw [em3131]; exact (sf_eqT X3074 B3011)
              have ek3136 : (m3130 17).toInt = ((m3002 17)).toInt := by rw [em3131]; exact X3074
              have B3137 : sf_B 0 1 (m3130 22) := by rw [em3131]; exact (sf_eqT X3075 B3015)
              have ek3138 : (m3130 22).toInt = ((m3002 22)).toInt := by rw [em3131]; exact X3075
              have B3139 : sf_B 0 99 (m3130 21) := by rw [em3131]; exact B3126
              have ek3140 : (m3130 21).toInt = ((m3067 21)).toInt := by rw [em3131]; rfl
              have W3141 : rf_W [10, 12, 13, 14, 16, 17, 18, 21, 22] m m3130 := by rw [em3131]; exact W3114.put (by decide)
              refine pm_R_lo pm_M191 (pc' := 43) rfl rfl rfl ?_
              refine pm_R_ret pm_M191 (r := some (.int 1)) rfl rfl ?_
              show pm_R _ 189 178 [.ref 41, .long a0, pm_no, .int a1, pm_no] [.int 1] _ _
              refine pm_R_br pm_M189 (pc' := 183) (st' := []) (pm_q189_1 (Nat.le_of_ble_eq_true rfl)) rfl ?_
              refine pm_R_lo pm_M189 (pc' := 184) (pm_q189_1 (Nat.le_of_ble_eq_true rfl)) rfl rfl ?_
              refine pm_R_ldc2 pm_M189 (pc' := 187) (pm_q189_1 (Nat.le_of_ble_eq_true rfl)) rfl rfl ?_
              refine pm_R_op pm_M189 (pc' := 188) (st' := [.int z338]) (pm_q189_1 (Nat.le_of_ble_eq_true rfl)) (by show some (Value.int (lg_cmp a0 1819242347) :: _) = _; rw [← e339]) rfl ?_
              refine pm_R_ifc pm_M189 (t := 205) (pc' := 191) (pm_q189_1 (Nat.le_of_ble_eq_true rfl)) rfl rfl (fun c3144 => ?_) (fun c3144 => absurd (Classical.not_not.mp c3144) c340)
              have k3145 := sf_lneC e339 c3144
              refine pm_R_lo pm_M189 (pc' := 206) (pm_q189_1 (Nat.le_of_ble_eq_true rfl)) rfl rfl ?_
              refine pm_R_ldc2 pm_M189 (pc' := 209) (pm_q189_1 (Nat.le_of_ble_eq_true rfl)) rfl rfl ?_
              refine sf_R_lcmp pm_M189 (pc' := 210) (pm_q189_1 (Nat.le_of_ble_eq_true rfl)) rfl (fun z3146 e3147 => ?_)
              have B3148 : sf_B (-2147483648) (-1) z3146 := lf_cmpLt e3147 B2991 (⟨by decide, by decide⟩ : lf_B 1935767923 1935767923 1935767923) (by decide)
              refine pm_R_ifc pm_M189 (t := 226) (pc' := 213) (pm_q189_1 (Nat.le_of_ble_eq_true rfl)) rfl rfl (fun c3149 => ?_) (fun c3149 => absurd (Classical.not_not.mp c3149) (sf_neq2 B3148 sf_k0 (by decide)))
              have k3150 := sf_lneC e3147 c3149
              refine pm_R_lo pm_M189 (pc' := 227) (pm_q189_2 (Nat.le_of_ble_eq_true rfl)) rfl rfl ?_
              refine pm_R_op pm_M189 (pc' := 228) (st' := [.int 1, .ref 41]) (pm_q189_2 (Nat.le_of_ble_eq_true rfl)) rfl rfl ?_
              refine pm_R_op pm_M189 (pc' := 229) (st' := [.int 2, .int 1, .ref 41]) (pm_q189_2 (Nat.le_of_ble_eq_true rfl)) rfl rfl ?_
              refine pm_R_op pm_M189 (pc' := 230) (st' := [.int 3, .int 2, .int 1, .ref 41]) (pm_q189_2 (Nat.le_of_ble_eq_true rfl)) rfl rfl ?_
              refine pm_R_op pm_M189 (pc' := 232) (st' := [.int 50, .int 3, .int 2, .int 1, .ref 41]) (pm_q189_2 (Nat.le_of_ble_eq_true rfl)) rfl rfl ?_
              refine pm_R_op pm_M189 (pc' := 233) (st' := [.int 0, .int 50, .int 3, .int 2, .int 1, .ref 41]) (pm_q189_2 (Nat.le_of_ble_eq_true rfl)) rfl rfl ?_
              refine pm_R_cv pm_M189 (pc' := 236) (a := 41) (ra := [.int 0, .int 50, .int 3, .int 2, .int 1]) (rest := []) (ls' := [.ref 41, .int 1, .int 2, .int 3, .int 50, .int 0, pm_no, pm_no]) (pm_q189_2 (Nat.le_of_ble_eq_true rfl)) rfl (Or.inl rfl) pm_M185 T3128.2.1 rfl (by decide) (Nat.lt_of_lt_of_le (by decide) T3128.1) rfl rfl (Nat.le_of_ble_eq_true rfl) rfl rfl ?_
              have e3151 := (F3129.cell (by decide) (F3071.cell (by decide) (F3053.cell (by decide) (F3041.cell (by decide) (F3036.cell (by decide) (F3031.cell (by decide) (F3026.cell (by decide) (F3006.cell (by decide) e3))))))))
              have e3152 := (F3129.cell (by decide) e3121)
              refine rf_c185_d (d := d + 3) T3128 (⟨f2, e3151, ct4, fun z => (bd5 (sf_aux76 _ _ _ ek3012 ek3136 z))⟩) (fun _ g eg => by rw [e3152] at eg; cases eg; exact ⟨sf_eqL (Eq.trans (sf_upd_nec (k := Int32.toNatClampNeg 1) (j := Int32.toNatClampNeg 0) (by decide)) sf_upd_eq) (sf_weak sf_k1 (by decide) (by decide)), sf_eqL sf_upd_eq B3120, sf_eqL (Eq.trans (sf_upd_nec (k := Int32.toNatClampNeg 1) (j := Int32.toNatClampNeg 2) (by decide)) (Eq.trans (sf_upd_nec (k := Int32.toNatClampNeg 0) (j := Int32.toNatClampNeg 2) (by decide)) (Eq.trans (sf_upd_nec (k := Int32.toNatClampNeg 3) (j := Int32.toNatClampNeg 2) (by decide)) sf_upd_eq))) (sf_weak sf_kn1 (by decide) (by decide))⟩) (fun m3155 w3156 h3157 T3158 F3159 W3160 X3161 => ?_)
              have F3162 := F3132.trans F3159 (by decide)
              have B3163 : sf_B 0 600 (m3155 10) := by rw [W3160 10 (by decide)]; exact B3133
              have ek3164 : (m3155 10).toInt = ((m3067 10)).toInt := by rw [W3160 10 (by decide)]; exact ek3134
              have B3165 : sf_B 0 4 (m3155 17) := by rw [W3160 17 (by decide)]; exact B3135
              have ek3166 : (m3155 17).toInt = ((m3002 17)).toInt := by rw [W3160 17 (by decide)]; exact ek3136
              have B3167 : sf_B 0 1 (m3155 22) := by rw [W3160 22 (by decide)]; exact B3137
              have ek3168 : (m3155 22).toInt = ((m3002 22)).toInt := by rw [W3160 22 (by decide)]; exact ek3138
              have B3169 : sf_B 0 99 (m3155 21) := by rw [W3160 21 (by decide)]; exact B3139
              have ek3170 : (m3155 21).toInt = ((m3067 21)).toInt := by rw [W3160 21 (by decide)]; exact ek3140
              have W3171 : rf_W [10, 12, 13, 14, 16, 17, 18, 21, 22] m m3155 := W3141.trans W3160 (by decide)
              show pm_R _ 189 236 [.ref 41, .long a0, pm_no, .int a1, pm_no] [] _ _
              obtain ⟨f3172, e3173, ct3174, bd3175⟩ := X3161
              refine pm_R_op pm_M189 (pc' := 237) (st' := [.int 1]) (pm_q189_2 (Nat.le_of_ble_eq_true rfl)) rfl rfl ?_
              exact pm_R_ret pm_M189 (r := some (.int 1)) (pm_q189_2 (Nat.le_of_ble_eq_true rfl)) rfl (K1 m3155 w3156 h3157 T3158 F3162 W3171 (⟨f3172, e3173, ct3174, fun z => (bd3175 z)⟩) (sf_aux39 _ _ _ ek3164 R3118))
            · have B3176 : sf_B (-1) 4 (m3067 21) := sf_ltL (Int32.not_le.mp c3125) B3124 B3120
              refine pm_R_lo pm_M191 (pc' := 27) rfl rfl rfl ?_
              refine rf_R_get pm_M191 T3070 (pc' := 30) (v := .ref 52) rfl rfl rfl rfl ?_
              refine pm_R_lo pm_M191 (pc' := 31) rfl rfl rfl ?_
              refine pm_R_iald pm_M191 (pc' := 32) (v := v3119) rfl e3121 (Nat.lt_of_lt_of_le (by decide) T3070.1) rfl sf_upd_eq rfl ?_
              refine pm_R_br pm_M191 (pc' := 39) rfl rfl ?_
              refine rf_R_put pm_M191 T3070 (pc' := 42) rfl rfl rfl (by decide) rfl rfl (sf_weak B3120 (by decide) (by decide)) rfl rfl (fun h3179 m3182 em3183 T3180 F3181 => ?_)
              have F3184 := F3113.trans F3181 (by decide)
              have B3185 : sf_B 0 600 (m3182 10) := by rw [em3183]; exact B3115
              have ek3186 : (m3182 10).toInt = ((m3067 10)).toInt := by rw [em3183]; rfl
              have B3187 : sf_B 0 4 (m3182 17) := by rw [em3183]; exact (sf_eqT X3074 B3011)
              have ek3188 : (m3182 17).toInt = ((m3002 17)).toInt := by rw [em3183]; exact X3074
              have B3189 : sf_B 0 1 (m3182 22) := by rw [em3183]; exact (sf_eqT X3075 B3015)
              have ek3190 : (m3182 22).toInt = ((m3002 22)).toInt := by rw [em3183]; exact X3075
              have B3191 : sf_B 0 5 (m3182 21) := by rw [em3183]; exact B3120
              have ek3192 : (m3182 21).toInt = (v3119).toInt := by rw [em3183]; rfl
              have W3193 : rf_W [10, 12, 13, 14, 16, 17, 18, 21, 22] m m3182 := by rw [em3183]; exact W3114.put (by decide)
              refine pm_R_lo pm_M191 (pc' := 43) rfl rfl rfl ?_
              refine pm_R_ret pm_M191 (r := some (.int 1)) rfl rfl ?_
              show pm_R _ 189 178 [.ref 41, .long a0, pm_no, .int a1, pm_no] [.int 1] _ _
              refine pm_R_br pm_M189 (pc' := 183) (st' := []) (pm_q189_1 (Nat.le_of_ble_eq_true rfl)) rfl ?_
              refine pm_R_lo pm_M189 (pc' := 184) (pm_q189_1 (Nat.le_of_ble_eq_true rfl)) rfl rfl ?_
              refine pm_R_ldc2 pm_M189 (pc' := 187) (pm_q189_1 (Nat.le_of_ble_eq_true rfl)) rfl rfl ?_
              refine pm_R_op pm_M189 (pc' := 188) (st' := [.int z338]) (pm_q189_1 (Nat.le_of_ble_eq_true rfl)) (by show some (Value.int (lg_cmp a0 1819242347) :: _) = _; rw [← e339]) rfl ?_
              refine pm_R_ifc pm_M189 (t := 205) (pc' := 191) (pm_q189_1 (Nat.le_of_ble_eq_true rfl)) rfl rfl (fun c3196 => ?_) (fun c3196 => absurd (Classical.not_not.mp c3196) c340)
              have k3197 := sf_lneC e339 c3196
              refine pm_R_lo pm_M189 (pc' := 206) (pm_q189_1 (Nat.le_of_ble_eq_true rfl)) rfl rfl ?_
              refine pm_R_ldc2 pm_M189 (pc' := 209) (pm_q189_1 (Nat.le_of_ble_eq_true rfl)) rfl rfl ?_
              refine sf_R_lcmp pm_M189 (pc' := 210) (pm_q189_1 (Nat.le_of_ble_eq_true rfl)) rfl (fun z3198 e3199 => ?_)
              have B3200 : sf_B (-2147483648) (-1) z3198 := lf_cmpLt e3199 B2991 (⟨by decide, by decide⟩ : lf_B 1935767923 1935767923 1935767923) (by decide)
              refine pm_R_ifc pm_M189 (t := 226) (pc' := 213) (pm_q189_1 (Nat.le_of_ble_eq_true rfl)) rfl rfl (fun c3201 => ?_) (fun c3201 => absurd (Classical.not_not.mp c3201) (sf_neq2 B3200 sf_k0 (by decide)))
              have k3202 := sf_lneC e3199 c3201
              refine pm_R_lo pm_M189 (pc' := 227) (pm_q189_2 (Nat.le_of_ble_eq_true rfl)) rfl rfl ?_
              refine pm_R_op pm_M189 (pc' := 228) (st' := [.int 1, .ref 41]) (pm_q189_2 (Nat.le_of_ble_eq_true rfl)) rfl rfl ?_
              refine pm_R_op pm_M189 (pc' := 229) (st' := [.int 2, .int 1, .ref 41]) (pm_q189_2 (Nat.le_of_ble_eq_true rfl)) rfl rfl ?_
              refine pm_R_op pm_M189 (pc' := 230) (st' := [.int 3, .int 2, .int 1, .ref 41]) (pm_q189_2 (Nat.le_of_ble_eq_true rfl)) rfl rfl ?_
              refine pm_R_op pm_M189 (pc' := 232) (st' := [.int 50, .int 3, .int 2, .int 1, .ref 41]) (pm_q189_2 (Nat.le_of_ble_eq_true rfl)) rfl rfl ?_
              refine pm_R_op pm_M189 (pc' := 233) (st' := [.int 0, .int 50, .int 3, .int 2, .int 1, .ref 41]) (pm_q189_2 (Nat.le_of_ble_eq_true rfl)) rfl rfl ?_
              refine pm_R_cv pm_M189 (pc' := 236) (a := 41) (ra := [.int 0, .int 50, .int 3, .int 2, .int 1]) (rest := []) (ls' := [.ref 41, .int 1, .int 2, .int 3, .int 50, .int 0, pm_no, pm_no]) (pm_q189_2 (Nat.le_of_ble_eq_true rfl)) rfl (Or.inl rfl) pm_M185 T3180.2.1 rfl (by decide) (Nat.lt_of_lt_of_le (by decide) T3180.1) rfl rfl (Nat.le_of_ble_eq_true rfl) rfl rfl ?_
              have e3203 := (F3181.cell (by decide) (F3071.cell (by decide) (F3053.cell (by decide) (F3041.cell (by decide) (F3036.cell (by decide) (F3031.cell (by decide) (F3026.cell (by decide) (F3006.cell (by decide) e3))))))))
              have e3204 := (F3181.cell (by decide) e3121)
              refine rf_c185_d (d := d + 3) T3180 (⟨f2, e3203, ct4, fun z => (bd5 (sf_aux76 _ _ _ ek3012 ek3188 z))⟩) (fun _ g eg => by rw [e3204] at eg; cases eg; exact ⟨sf_eqL (Eq.trans (sf_upd_nec (k := Int32.toNatClampNeg 1) (j := Int32.toNatClampNeg 0) (by decide)) sf_upd_eq) (sf_weak sf_k1 (by decide) (by decide)), sf_eqL sf_upd_eq B3120, sf_eqL (Eq.trans (sf_upd_nec (k := Int32.toNatClampNeg 1) (j := Int32.toNatClampNeg 2) (by decide)) (Eq.trans (sf_upd_nec (k := Int32.toNatClampNeg 0) (j := Int32.toNatClampNeg 2) (by decide)) (Eq.trans (sf_upd_nec (k := Int32.toNatClampNeg 3) (j := Int32.toNatClampNeg 2) (by decide)) sf_upd_eq))) (sf_weak sf_kn1 (by decide) (by decide))⟩) (fun m3207 w3208 h3209 T3210 F3211 W3212 X3213 => ?_)
              have F3214 := F3184.trans F3211 (by decide)
              have B3215 : sf_B 0 600 (m3207 10) := by rw [W3212 10 (by decide)]; exact B3185
              have ek3216 : (m3207 10).toInt = ((m3067 10)).toInt := by rw [W3212 10 (by decide)]; exact ek3186
              have B3217 : sf_B 0 4 (m3207 17) := by rw [W3212 17 (by decide)]; exact B3187
              have ek3218 : (m3207 17).toInt = ((m3002 17)).toInt := by rw [W3212 17 (by decide)]; exact ek3188
              have B3219 : sf_B 0 1 (m3207 22) := by rw [W3212 22 (by decide)]; exact B3189
              have ek3220 : (m3207 22).toInt = ((m3002 22)).toInt := by rw [W3212 22 (by decide)]; exact ek3190
              have B3221 : sf_B 0 5 (m3207 21) := by rw [W3212 21 (by decide)]; exact B3191
              have ek3222 : (m3207 21).toInt = (v3119).toInt := by rw [W3212 21 (by decide)]; exact ek3192
              have W3223 : rf_W [10, 12, 13, 14, 16, 17, 18, 21, 22] m m3207 := W3193.trans W3212 (by decide)
              show pm_R _ 189 236 [.ref 41, .long a0, pm_no, .int a1, pm_no] [] _ _
              obtain ⟨f3224, e3225, ct3226, bd3227⟩ := X3213
              refine pm_R_op pm_M189 (pc' := 237) (st' := [.int 1]) (pm_q189_2 (Nat.le_of_ble_eq_true rfl)) rfl rfl ?_
              exact pm_R_ret pm_M189 (r := some (.int 1)) (pm_q189_2 (Nat.le_of_ble_eq_true rfl)) rfl (K1 m3207 w3208 h3209 T3210 F3214 W3223 (⟨f3224, e3225, ct3226, fun z => (bd3227 z)⟩) (sf_aux39 _ _ _ ek3216 R3118))
          · have F3228 := F3055.trans F3084 (by decide)
            have W3229 : rf_W [10, 12, 13, 14, 16, 17, 18, 21, 22] m m3080 := W3013.trans W3085 (by decide)
            have B3230 : sf_B 0 600 (m3080 10) := T3083.2.2.1 10
            have B3231 : sf_B 0 4 (m3080 17) := T3083.2.2.1 17
            have B3232 : sf_B 0 1 (m3080 22) := T3083.2.2.1 22
            show pm_R _ 191 7 [.ref 41, .int 1, .int (-1), pm_no] [.int 1] _ _
            have R3233 : (m 10).toInt ≤ (m3080 10).toInt := (sf_aux70 _ _ _ R3016 X3088)
            obtain ⟨v3234, B3235, e3236⟩ := X3086 _ e3054
            refine pm_R_lo pm_M191 (pc' := 8) (ls' := [.ref 41, .int 1, .int (-1), .int 1]) (st' := []) rfl rfl rfl ?_
            refine pm_R_lo pm_M191 (pc' := 9) rfl rfl rfl ?_
            refine pm_R_lo pm_M191 (pc' := 10) rfl rfl rfl ?_
            refine pm_R_br pm_M191 (pc' := 13) (st' := [.ref 41]) rfl rfl ?_
            refine pm_R_lo pm_M191 (pc' := 14) rfl rfl rfl ?_
            refine rf_R_get pm_M191 T3083 (pc' := 17) (v := .ref 52) rfl rfl rfl rfl ?_
            refine pm_R_lo pm_M191 (pc' := 18) rfl rfl rfl ?_
            refine pm_R_iald pm_M191 (pc' := 19) (v := v3234) rfl e3236 (Nat.lt_of_lt_of_le (by decide) T3083.1) rfl sf_upd_eq rfl ?_
            refine pm_R_lo pm_M191 (pc' := 20) rfl rfl rfl ?_
            have B3239 : sf_B (-1) 99 (m3080 21) := T3083.2.2.1 21
            refine rf_R_get pm_M191 T3083 (pc' := 23) (v := .int (m3080 21)) rfl rfl rfl rfl ?_
            refine pm_R_icmp pm_M191 (t := 35) (pc' := 26) rfl rfl rfl (fun c3240 => ?_) (fun c3240 => ?_)
            · have B3241 : sf_B 0 99 (m3080 21) := sf_leR c3240 B3235 B3239
              refine pm_R_lo pm_M191 (pc' := 36) rfl rfl rfl ?_
              refine rf_R_get pm_M191 T3083 (pc' := 39) (v := .int (m3080 21)) rfl rfl rfl rfl ?_
              refine rf_R_put pm_M191 T3083 (pc' := 42) rfl rfl rfl (by decide) rfl rfl (sf_weak B3241 (by decide) (by decide)) rfl rfl (fun h3242 m3245 em3246 T3243 F3244 => ?_)
              have F3247 := F3228.trans F3244 (by decide)
              have B3248 : sf_B 0 600 (m3245 10) := by rw [em3246]; exact B3230
              have ek3249 : (m3245 10).toInt = ((m3080 10)).toInt := by rw [em3246]; rfl
              have B3250 : sf_B 1 4 (m3245 17) := by rw [em3246]; exact B3089
              have ek3251 : (m3245 17).toInt = ((m3080 17)).toInt := by rw [em3246]; rfl
              have B3252 : sf_B 0 0 (m3245 22) := by rw [em3246]; exact B3090
              have ek3253 : (m3245 22).toInt = ((m3080 22)).toInt := by rw [em3246]; rfl
              have B3254 : sf_B 0 99 (m3245 21) := by rw [em3246]; exact B3241
              have ek3255 : (m3245 21).toInt = ((m3080 21)).toInt := by rw [em3246]; rfl
              have W3256 : rf_W [10, 12, 13, 14, 16, 17, 18, 21, 22] m m3245 := by rw [em3246]; exact W3229.put (by decide)
              refine pm_R_lo pm_M191 (pc' := 43) rfl rfl rfl ?_
              refine pm_R_ret pm_M191 (r := some (.int 1)) rfl rfl ?_
              show pm_R _ 189 178 [.ref 41, .long a0, pm_no, .int a1, pm_no] [.int 1] _ _
              refine pm_R_br pm_M189 (pc' := 183) (st' := []) (pm_q189_1 (Nat.le_of_ble_eq_true rfl)) rfl ?_
              refine pm_R_lo pm_M189 (pc' := 184) (pm_q189_1 (Nat.le_of_ble_eq_true rfl)) rfl rfl ?_
              refine pm_R_ldc2 pm_M189 (pc' := 187) (pm_q189_1 (Nat.le_of_ble_eq_true rfl)) rfl rfl ?_
              refine pm_R_op pm_M189 (pc' := 188) (st' := [.int z338]) (pm_q189_1 (Nat.le_of_ble_eq_true rfl)) (by show some (Value.int (lg_cmp a0 1819242347) :: _) = _; rw [← e339]) rfl ?_
              refine pm_R_ifc pm_M189 (t := 205) (pc' := 191) (pm_q189_1 (Nat.le_of_ble_eq_true rfl)) rfl rfl (fun c3259 => ?_) (fun c3259 => absurd (Classical.not_not.mp c3259) c340)
              have k3260 := sf_lneC e339 c3259
              refine pm_R_lo pm_M189 (pc' := 206) (pm_q189_1 (Nat.le_of_ble_eq_true rfl)) rfl rfl ?_
              refine pm_R_ldc2 pm_M189 (pc' := 209) (pm_q189_1 (Nat.le_of_ble_eq_true rfl)) rfl rfl ?_
              refine sf_R_lcmp pm_M189 (pc' := 210) (pm_q189_1 (Nat.le_of_ble_eq_true rfl)) rfl (fun z3261 e3262 => ?_)
              have B3263 : sf_B (-2147483648) (-1) z3261 := lf_cmpLt e3262 B2991 (⟨by decide, by decide⟩ : lf_B 1935767923 1935767923 1935767923) (by decide)
              refine pm_R_ifc pm_M189 (t := 226) (pc' := 213) (pm_q189_1 (Nat.le_of_ble_eq_true rfl)) rfl rfl (fun c3264 => ?_) (fun c3264 => absurd (Classical.not_not.mp c3264) (sf_neq2 B3263 sf_k0 (by decide)))
              have k3265 := sf_lneC e3262 c3264
              refine pm_R_lo pm_M189 (pc' := 227) (pm_q189_2 (Nat.le_of_ble_eq_true rfl)) rfl rfl ?_
              refine pm_R_op pm_M189 (pc' := 228) (st' := [.int 1, .ref 41]) (pm_q189_2 (Nat.le_of_ble_eq_true rfl)) rfl rfl ?_
              refine pm_R_op pm_M189 (pc' := 229) (st' := [.int 2, .int 1, .ref 41]) (pm_q189_2 (Nat.le_of_ble_eq_true rfl)) rfl rfl ?_
              refine pm_R_op pm_M189 (pc' := 230) (st' := [.int 3, .int 2, .int 1, .ref 41]) (pm_q189_2 (Nat.le_of_ble_eq_true rfl)) rfl rfl ?_
              refine pm_R_op pm_M189 (pc' := 232) (st' := [.int 50, .int 3, .int 2, .int 1, .ref 41]) (pm_q189_2 (Nat.le_of_ble_eq_true rfl)) rfl rfl ?_
              refine pm_R_op pm_M189 (pc' := 233) (st' := [.int 0, .int 50, .int 3, .int 2, .int 1, .ref 41]) (pm_q189_2 (Nat.le_of_ble_eq_true rfl)) rfl rfl ?_
              refine pm_R_cv pm_M189 (pc' := 236) (a := 41) (ra := [.int 0, .int 50, .int 3, .int 2, .int 1]) (rest := []) (ls' := [.ref 41, .int 1, .int 2, .int 3, .int 50, .int 0, pm_no, pm_no]) (pm_q189_2 (Nat.le_of_ble_eq_true rfl)) rfl (Or.inl rfl) pm_M185 T3243.2.1 rfl (by decide) (Nat.lt_of_lt_of_le (by decide) T3243.1) rfl rfl (Nat.le_of_ble_eq_true rfl) rfl rfl ?_
              have e3266 := (F3244.cell (by decide) (F3084.cell (by decide) (F3053.cell (by decide) (F3041.cell (by decide) (F3036.cell (by decide) (F3031.cell (by decide) (F3026.cell (by decide) (F3006.cell (by decide) e3))))))))
              refine rf_c185_d (d := d + 3) T3243 (⟨f2, e3266, ct4, fun z => (sf_pos B3250 (by decide) z)⟩) (fun z => sf_pos B3250 (by decide) z) (fun m3269 w3270 h3271 T3272 F3273 W3274 X3275 => ?_)
              have F3276 := F3247.trans F3273 (by decide)
              have B3277 : sf_B 0 600 (m3269 10) := by rw [W3274 10 (by decide)]; exact B3248
              have ek3278 : (m3269 10).toInt = ((m3080 10)).toInt := by rw [W3274 10 (by decide)]; exact ek3249
              have B3279 : sf_B 1 4 (m3269 17) := by rw [W3274 17 (by decide)]; exact B3250
              have ek3280 : (m3269 17).toInt = ((m3080 17)).toInt := by rw [W3274 17 (by decide)]; exact ek3251
              have B3281 : sf_B 0 0 (m3269 22) := by rw [W3274 22 (by decide)]; exact B3252
              have ek3282 : (m3269 22).toInt = ((m3080 22)).toInt := by rw [W3274 22 (by decide)]; exact ek3253
              have B3283 : sf_B 0 99 (m3269 21) := by rw [W3274 21 (by decide)]; exact B3254
              have ek3284 : (m3269 21).toInt = ((m3080 21)).toInt := by rw [W3274 21 (by decide)]; exact ek3255
              have W3285 : rf_W [10, 12, 13, 14, 16, 17, 18, 21, 22] m m3269 := W3256.trans W3274 (by decide)
              show pm_R _ 189 236 [.ref 41, .long a0, pm_no, .int a1, pm_no] [] _ _
              obtain ⟨f3286, e3287, ct3288, bd3289⟩ := X3275
              refine pm_R_op pm_M189 (pc' := 237) (st' := [.int 1]) (pm_q189_2 (Nat.le_of_ble_eq_true rfl)) rfl rfl ?_
              exact pm_R_ret pm_M189 (r := some (.int 1)) (pm_q189_2 (Nat.le_of_ble_eq_true rfl)) rfl (K1 m3269 w3270 h3271 T3272 F3276 W3285 (⟨f3286, e3287, ct3288, fun z => (sf_pos B3279 (by decide) z)⟩) (sf_aux39 _ _ _ ek3278 R3233))
            · have B3290 : sf_B (-1) 98 (m3080 21) := sf_ltL (Int32.not_le.mp c3240) B3239 B3235
              refine pm_R_lo pm_M191 (pc' := 27) rfl rfl rfl ?_
              refine rf_R_get pm_M191 T3083 (pc' := 30) (v := .ref 52) rfl rfl rfl rfl ?_
              refine pm_R_lo pm_M191 (pc' := 31) rfl rfl rfl ?_
              refine pm_R_iald pm_M191 (pc' := 32) (v := v3234) rfl e3236 (Nat.lt_of_lt_of_le (by decide) T3083.1) rfl sf_upd_eq rfl ?_
              refine pm_R_br pm_M191 (pc' := 39) rfl rfl ?_
              refine rf_R_put pm_M191 T3083 (pc' := 42) rfl rfl rfl (by decide) rfl rfl (sf_weak B3235 (by decide) (by decide)) rfl rfl (fun h3293 m3296 em3297 T3294 F3295 => ?_)
              have F3298 := F3228.trans F3295 (by decide)
              have B3299 : sf_B 0 600 (m3296 10) := by rw [em3297]; exact B3230
              have ek3300 : (m3296 10).toInt = ((m3080 10)).toInt := by rw [em3297]; rfl
              have B3301 : sf_B 1 4 (m3296 17) := by rw [em3297]; exact B3089
              have ek3302 : (m3296 17).toInt = ((m3080 17)).toInt := by rw [em3297]; rfl
              have B3303 : sf_B 0 0 (m3296 22) := by rw [em3297]; exact B3090
              have ek3304 : (m3296 22).toInt = ((m3080 22)).toInt := by rw [em3297]; rfl
              have B3305 : sf_B 0 99 (m3296 21) := by rw [em3297]; exact B3235
              have ek3306 : (m3296 21).toInt = (v3234).toInt := by rw [em3297]; rfl
              have W3307 : rf_W [10, 12, 13, 14, 16, 17, 18, 21, 22] m m3296 := by rw [em3297]; exact W3229.put (by decide)
              refine pm_R_lo pm_M191 (pc' := 43) rfl rfl rfl ?_
              refine pm_R_ret pm_M191 (r := some (.int 1)) rfl rfl ?_
              show pm_R _ 189 178 [.ref 41, .long a0, pm_no, .int a1, pm_no] [.int 1] _ _
              refine pm_R_br pm_M189 (pc' := 183) (st' := []) (pm_q189_1 (Nat.le_of_ble_eq_true rfl)) rfl ?_
              refine pm_R_lo pm_M189 (pc' := 184) (pm_q189_1 (Nat.le_of_ble_eq_true rfl)) rfl rfl ?_
              refine pm_R_ldc2 pm_M189 (pc' := 187) (pm_q189_1 (Nat.le_of_ble_eq_true rfl)) rfl rfl ?_
              refine pm_R_op pm_M189 (pc' := 188) (st' := [.int z338]) (pm_q189_1 (Nat.le_of_ble_eq_true rfl)) (by show some (Value.int (lg_cmp a0 1819242347) :: _) = _; rw [← e339]) rfl ?_
              refine pm_R_ifc pm_M189 (t := 205) (pc' := 191) (pm_q189_1 (Nat.le_of_ble_eq_true rfl)) rfl rfl (fun c3310 => ?_) (fun c3310 => absurd (Classical.not_not.mp c3310) c340)
              have k3311 := sf_lneC e339 c3310
              refine pm_R_lo pm_M189 (pc' := 206) (pm_q189_1 (Nat.le_of_ble_eq_true rfl)) rfl rfl ?_
              refine pm_R_ldc2 pm_M189 (pc' := 209) (pm_q189_1 (Nat.le_of_ble_eq_true rfl)) rfl rfl ?_
              refine sf_R_lcmp pm_M189 (pc' := 210) (pm_q189_1 (Nat.le_of_ble_eq_true rfl)) rfl (fun z3312 e3313 => ?_)
              have B3314 : sf_B (-2147483648) (-1) z3312 := lf_cmpLt e3313 B2991 (⟨by decide, by decide⟩ : lf_B 1935767923 1935767923 1935767923) (by decide)
              refine pm_R_ifc pm_M189 (t := 226) (pc' := 213) (pm_q189_1 (Nat.le_of_ble_eq_true rfl)) rfl rfl (fun c3315 => ?_) (fun c3315 => absurd (Classical.not_not.mp c3315) (sf_neq2 B3314 sf_k0 (by decide)))
              have k3316 := sf_lneC e3313 c3315
              refine pm_R_lo pm_M189 (pc' := 227) (pm_q189_2 (Nat.le_of_ble_eq_true rfl)) rfl rfl ?_
              refine pm_R_op pm_M189 (pc' := 228) (st' := [.int 1, .ref 41]) (pm_q189_2 (Nat.le_of_ble_eq_true rfl)) rfl rfl ?_
              refine pm_R_op pm_M189 (pc' := 229) (st' := [.int 2, .int 1, .ref 41]) (pm_q189_2 (Nat.le_of_ble_eq_true rfl)) rfl rfl ?_
              refine pm_R_op pm_M189 (pc' := 230) (st' := [.int 3, .int 2, .int 1, .ref 41]) (pm_q189_2 (Nat.le_of_ble_eq_true rfl)) rfl rfl ?_
              refine pm_R_op pm_M189 (pc' := 232) (st' := [.int 50, .int 3, .int 2, .int 1, .ref 41]) (pm_q189_2 (Nat.le_of_ble_eq_true rfl)) rfl rfl ?_
              refine pm_R_op pm_M189 (pc' := 233) (st' := [.int 0, .int 50, .int 3, .int 2, .int 1, .ref 41]) (pm_q189_2 (Nat.le_of_ble_eq_true rfl)) rfl rfl ?_
              refine pm_R_cv pm_M189 (pc' := 236) (a := 41) (ra := [.int 0, .int 50, .int 3, .int 2, .int 1]) (rest := []) (ls' := [.ref 41, .int 1, .int 2, .int 3, .int 50, .int 0, pm_no, pm_no]) (pm_q189_2 (Nat.le_of_ble_eq_true rfl)) rfl (Or.inl rfl) pm_M185 T3294.2.1 rfl (by decide) (Nat.lt_of_lt_of_le (by decide) T3294.1) rfl rfl (Nat.le_of_ble_eq_true rfl) rfl rfl ?_
              have e3317 := (F3295.cell (by decide) (F3084.cell (by decide) (F3053.cell (by decide) (F3041.cell (by decide) (F3036.cell (by decide) (F3031.cell (by decide) (F3026.cell (by decide) (F3006.cell (by decide) e3))))))))
              refine rf_c185_d (d := d + 3) T3294 (⟨f2, e3317, ct4, fun z => (sf_pos B3301 (by decide) z)⟩) (fun z => sf_pos B3301 (by decide) z) (fun m3320 w3321 h3322 T3323 F3324 W3325 X3326 => ?_)
              have F3327 := F3298.trans F3324 (by decide)
              have B3328 : sf_B 0 600 (m3320 10) := by rw [W3325 10 (by decide)]; exact B3299
              have ek3329 : (m3320 10).toInt = ((m3080 10)).toInt := by rw [W3325 10 (by decide)]; exact ek3300
              have B3330 : sf_B 1 4 (m3320 17) := by rw [W3325 17 (by decide)]; exact B3301
              have ek3331 : (m3320 17).toInt = ((m3080 17)).toInt := by rw [W3325 17 (by decide)]; exact ek3302
              have B3332 : sf_B 0 0 (m3320 22) := by rw [W3325 22 (by decide)]; exact B3303
              have ek3333 : (m3320 22).toInt = ((m3080 22)).toInt := by rw [W3325 22 (by decide)]; exact ek3304
              have B3334 : sf_B 0 99 (m3320 21) := by rw [W3325 21 (by decide)]; exact B3305
              have ek3335 : (m3320 21).toInt = (v3234).toInt := by rw [W3325 21 (by decide)]; exact ek3306
              have W3336 : rf_W [10, 12, 13, 14, 16, 17, 18, 21, 22] m m3320 := W3307.trans W3325 (by decide)
              show pm_R _ 189 236 [.ref 41, .long a0, pm_no, .int a1, pm_no] [] _ _
              obtain ⟨f3337, e3338, ct3339, bd3340⟩ := X3326
              refine pm_R_op pm_M189 (pc' := 237) (st' := [.int 1]) (pm_q189_2 (Nat.le_of_ble_eq_true rfl)) rfl rfl ?_
              exact pm_R_ret pm_M189 (r := some (.int 1)) (pm_q189_2 (Nat.le_of_ble_eq_true rfl)) rfl (K1 m3320 w3321 h3322 T3323 F3327 W3336 (⟨f3337, e3338, ct3339, fun z => (sf_pos B3330 (by decide) z)⟩) (sf_aux39 _ _ _ ek3329 R3233))
        · have B3341 : sf_B 50 50 (f2 1) := sf_eqL (Classical.not_not.mp c2998) sf_k50
          refine pm_R_lo pm_M189 (pc' := 57) rfl rfl rfl ?_
          refine pm_R_op pm_M189 (pc' := 58) (st' := [.int 3, .ref 41]) rfl rfl rfl ?_
          refine pm_R_lo pm_M189 (pc' := 59) rfl rfl rfl ?_
          refine pm_R_cv pm_M189 (pc' := 62) (a := 41) (ra := [.int a1, .int 3]) (rest := []) (ls' := [.ref 41, .int 3, .int a1]) rfl rfl (Or.inl rfl) pm_M182 T.2.1 rfl (by decide) (Nat.lt_of_lt_of_le (by decide) T.1) rfl rfl (Nat.le_of_ble_eq_true rfl) rfl rfl ?_
          refine rf_c182 (d := d + 3) T (sf_weak sf_k3 (by decide) (by decide)) Ba1 (fun m3344 w3345 h3346 T3347 F3348 W3349 B3350 => ?_)
          have F3351 := (rf_G.refl [41, 51, 52] h).trans F3348 (by decide)
          have B3352 : sf_B 0 600 (m3344 10) := by rw [W3349 10 (by decide)]; exact B1
          have ek3353 : (m3344 10).toInt = ((m 10)).toInt := by rw [W3349 10 (by decide)]
          have W3354 : rf_W [10, 12, 13, 14, 16, 17, 18, 21, 22] m m3344 := (rf_W.refl [10, 12, 13, 14, 16, 17, 18, 21, 22] m).trans W3349 (by decide)
          have B3355 : sf_B 0 4 (m3344 17) := T3347.2.2.1 17
          have B3356 : sf_B 0 1 (m3344 22) := T3347.2.2.1 22
          show pm_R _ 189 62 [.ref 41, .long a0, pm_no, .int a1, pm_no] [] _ _
          refine pm_R_lo pm_M189 (pc' := 63) rfl rfl rfl ?_
          refine pm_R_cv pm_M189 (pc' := 66) (a := 41) (ra := []) (rest := []) (ls' := [.ref 41, pm_no, pm_no]) rfl rfl (Or.inl rfl) pm_M179 T3347.2.1 rfl (by decide) (Nat.lt_of_lt_of_le (by decide) T3347.1) rfl rfl (Nat.le_of_ble_eq_true rfl) rfl rfl ?_
          refine rf_c179 (d := d + 2) T3347  (fun m3359 w3360 h3361 T3362 F3363 W3364 X3365 X3366 => ?_)
          have F3367 := F3351.trans F3363 (by decide)
          have B3368 : sf_B 1 4 (m3359 17) := by rw [W3364 17 (by decide)]; exact B3350
          have ek3369 : (m3359 17).toInt = ((m3344 17)).toInt := by rw [W3364 17 (by decide)]
          have B3370 : sf_B 0 1 (m3359 22) := by rw [W3364 22 (by decide)]; exact B3356
          have ek3371 : (m3359 22).toInt = ((m3344 22)).toInt := by rw [W3364 22 (by decide)]
          have W3372 : rf_W [10, 12, 13, 14, 16, 17, 18, 21, 22] m m3359 := W3354.trans W3364 (by decide)
          have B3373 : sf_B 0 600 (m3359 10) := T3362.2.2.1 10
          show pm_R _ 189 66 [.ref 41, .long a0, pm_no, .int a1, pm_no] [] _ _
          have R3374 : (m 10).toInt ≤ (m3359 10).toInt := (sf_aux53 _ _ _ ek3353 X3365)
          refine pm_R_lo pm_M189 (pc' := 67) rfl rfl rfl ?_
          refine pm_R_ldc2 pm_M189 (pc' := 70) rfl rfl rfl ?_
          refine pm_R_op pm_M189 (pc' := 71) (st' := [.int z7]) rfl (by show some (Value.int (lg_cmp a0 495622124659) :: _) = _; rw [← e8]) rfl ?_
          refine pm_R_ifc pm_M189 (t := 137) (pc' := 74) rfl rfl rfl (fun c3377 => ?_) (fun c3377 => absurd (Classical.not_not.mp c3377) c9)
          have k3378 := sf_lneC e8 c3377
          refine pm_R_lo pm_M189 (pc' := 138) (pm_q189_1 (Nat.le_of_ble_eq_true rfl)) rfl rfl ?_
          refine pm_R_cv pm_M189 (pc' := 141) (a := 41) (ra := []) (rest := []) (ls' := [.ref 41, pm_no]) (pm_q189_1 (Nat.le_of_ble_eq_true rfl)) rfl (Or.inl rfl) pm_M190 T3362.2.1 rfl (by decide) (Nat.lt_of_lt_of_le (by decide) T3362.1) rfl rfl (Nat.le_of_ble_eq_true rfl) rfl rfl ?_
          refine pm_R_op pm_M190 (pc' := 1) (st' := [.int 0]) rfl rfl rfl ?_
          refine pm_R_lo pm_M190 (pc' := 2) (ls' := [.ref 41, .int 0]) (st' := []) rfl rfl rfl ?_
          refine pm_R_lo pm_M190 (pc' := 3) rfl rfl rfl ?_
          refine pm_R_op pm_M190 (pc' := 4) (st' := [.int 4, .int 0]) rfl rfl rfl ?_
          refine pm_R_br pm_M190 (pc' := 7) (st' := []) rfl rfl ?_
          refine pm_R_lo pm_M190 (pc' := 8) rfl rfl rfl ?_
          refine rf_R_get pm_M190 T3362 (pc' := 11) (v := .ref 52) rfl rfl rfl rfl ?_
          refine pm_R_lo pm_M190 (pc' := 12) rfl rfl rfl ?_
          refine pm_R_op pm_M190 (pc' := 13) (st' := [.int (-1), .int 0, .ref 52]) rfl rfl rfl ?_
          obtain ⟨f3379, e3380, b3381⟩ := T3362.2.2.2.1 52 (by decide) (by decide)
          refine rf_R_ist pm_M190 T3362 (pc' := 14) rfl e3380 (by decide) (by decide) rfl ⟨_, rfl, sf_upd b3381 (sf_weak sf_kn1 (by decide) (by decide)) _⟩ rfl (fun h3382 T3383 F3384 e3385 => ?_)
          have F3386 := F3367.trans F3384 (by decide)
          refine pm_R_lo pm_M190 (pc' := 17) (ls' := [.ref 41, .int 1]) (st' := []) rfl rfl rfl ?_
          refine pm_R_br pm_M190 (pc' := 2) rfl rfl ?_
          refine pm_R_lo pm_M190 (pc' := 3) rfl rfl rfl ?_
          refine pm_R_op pm_M190 (pc' := 4) (st' := [.int 4, .int 1]) rfl rfl rfl ?_
          refine pm_R_br pm_M190 (pc' := 7) (st' := []) rfl rfl ?_
          refine pm_R_lo pm_M190 (pc' := 8) rfl rfl rfl ?_
          refine rf_R_get pm_M190 T3383 (pc' := 11) (v := .ref 52) rfl rfl rfl rfl ?_
          refine pm_R_lo pm_M190 (pc' := 12) rfl rfl rfl ?_
          refine pm_R_op pm_M190 (pc' := 13) (st' := [.int (-1), .int 1, .ref 52]) rfl rfl rfl ?_
          refine rf_R_ist pm_M190 T3383 (pc' := 14) rfl e3385 (by decide) (by decide) rfl ⟨_, rfl, sf_upd (sf_upd b3381 (sf_weak sf_kn1 (by decide) (by decide)) _) (sf_weak sf_kn1 (by decide) (by decide)) _⟩ rfl (fun h3387 T3388 F3389 e3390 => ?_)
          have F3391 := F3386.trans F3389 (by decide)
          refine pm_R_lo pm_M190 (pc' := 17) (ls' := [.ref 41, .int 2]) (st' := []) rfl rfl rfl ?_
          refine pm_R_br pm_M190 (pc' := 2) rfl rfl ?_
          refine pm_R_lo pm_M190 (pc' := 3) rfl rfl rfl ?_
          refine pm_R_op pm_M190 (pc' := 4) (st' := [.int 4, .int 2]) rfl rfl rfl ?_
          refine pm_R_br pm_M190 (pc' := 7) (st' := []) rfl rfl ?_
          refine pm_R_lo pm_M190 (pc' := 8) rfl rfl rfl ?_
          refine rf_R_get pm_M190 T3388 (pc' := 11) (v := .ref 52) rfl rfl rfl rfl ?_
          refine pm_R_lo pm_M190 (pc' := 12) rfl rfl rfl ?_
          refine pm_R_op pm_M190 (pc' := 13) (st' := [.int (-1), .int 2, .ref 52]) rfl rfl rfl ?_
          refine rf_R_ist pm_M190 T3388 (pc' := 14) rfl e3390 (by decide) (by decide) rfl ⟨_, rfl, sf_upd (sf_upd (sf_upd b3381 (sf_weak sf_kn1 (by decide) (by decide)) _) (sf_weak sf_kn1 (by decide) (by decide)) _) (sf_weak sf_kn1 (by decide) (by decide)) _⟩ rfl (fun h3392 T3393 F3394 e3395 => ?_)
          have F3396 := F3391.trans F3394 (by decide)
          refine pm_R_lo pm_M190 (pc' := 17) (ls' := [.ref 41, .int 3]) (st' := []) rfl rfl rfl ?_
          refine pm_R_br pm_M190 (pc' := 2) rfl rfl ?_
          refine pm_R_lo pm_M190 (pc' := 3) rfl rfl rfl ?_
          refine pm_R_op pm_M190 (pc' := 4) (st' := [.int 4, .int 3]) rfl rfl rfl ?_
          refine pm_R_br pm_M190 (pc' := 7) (st' := []) rfl rfl ?_
          refine pm_R_lo pm_M190 (pc' := 8) rfl rfl rfl ?_
          refine rf_R_get pm_M190 T3393 (pc' := 11) (v := .ref 52) rfl rfl rfl rfl ?_
          refine pm_R_lo pm_M190 (pc' := 12) rfl rfl rfl ?_
          refine pm_R_op pm_M190 (pc' := 13) (st' := [.int (-1), .int 3, .ref 52]) rfl rfl rfl ?_
          refine rf_R_ist pm_M190 T3393 (pc' := 14) rfl e3395 (by decide) (by decide) rfl ⟨_, rfl, sf_upd (sf_upd (sf_upd (sf_upd b3381 (sf_weak sf_kn1 (by decide) (by decide)) _) (sf_weak sf_kn1 (by decide) (by decide)) _) (sf_weak sf_kn1 (by decide) (by decide)) _) (sf_weak sf_kn1 (by decide) (by decide)) _⟩ rfl (fun h3397 T3398 F3399 e3400 => ?_)
          have F3401 := F3396.trans F3399 (by decide)
          refine pm_R_lo pm_M190 (pc' := 17) (ls' := [.ref 41, .int 4]) (st' := []) rfl rfl rfl ?_
          refine pm_R_br pm_M190 (pc' := 2) rfl rfl ?_
          refine pm_R_lo pm_M190 (pc' := 3) rfl rfl rfl ?_
          refine pm_R_op pm_M190 (pc' := 4) (st' := [.int 4, .int 4]) rfl rfl rfl ?_
          refine pm_R_br pm_M190 (pc' := 20) (st' := []) rfl rfl ?_
          refine pm_R_ret pm_M190 (r := none) rfl rfl ?_
          show pm_R _ 189 141 [.ref 41, .long a0, pm_no, .int a1, pm_no] [] _ _
          refine pm_R_lo pm_M189 (pc' := 142) (pm_q189_1 (Nat.le_of_ble_eq_true rfl)) rfl rfl ?_
          refine rf_R_get pm_M189 T3398 (pc' := 145) (v := .ref 52) (pm_q189_1 (Nat.le_of_ble_eq_true rfl)) rfl rfl rfl ?_
          refine pm_R_op pm_M189 (pc' := 146) (st' := [.int 0, .ref 52]) (pm_q189_1 (Nat.le_of_ble_eq_true rfl)) rfl rfl ?_
          refine pm_R_lo pm_M189 (pc' := 147) (pm_q189_1 (Nat.le_of_ble_eq_true rfl)) rfl rfl ?_
          refine pm_R_ldc2 pm_M189 (pc' := 150) (pm_q189_1 (Nat.le_of_ble_eq_true rfl)) rfl rfl ?_
          refine pm_R_op pm_M189 (pc' := 151) (st' := [.int z338, .int 0, .ref 52]) (pm_q189_1 (Nat.le_of_ble_eq_true rfl)) (by show some (Value.int (lg_cmp a0 1819242347) :: _) = _; rw [← e339]) rfl ?_
          refine pm_R_ifc pm_M189 (t := 158) (pc' := 154) (pm_q189_1 (Nat.le_of_ble_eq_true rfl)) rfl rfl (fun c3404 => ?_) (fun c3404 => absurd (Classical.not_not.mp c3404) c340)
          have k3405 := sf_lneC e339 c3404
          refine pm_R_lo pm_M189 (pc' := 159) (pm_q189_1 (Nat.le_of_ble_eq_true rfl)) rfl rfl ?_
          refine pm_R_ldc2 pm_M189 (pc' := 162) (pm_q189_1 (Nat.le_of_ble_eq_true rfl)) rfl rfl ?_
          refine pm_R_op pm_M189 (pc' := 163) (st' := [.int z2987, .int 0, .ref 52]) (pm_q189_1 (Nat.le_of_ble_eq_true rfl)) (by show some (Value.int (lg_cmp a0 1635213689) :: _) = _; rw [← e2988]) rfl ?_
          refine pm_R_ifc pm_M189 (t := 170) (pc' := 166) (pm_q189_1 (Nat.le_of_ble_eq_true rfl)) rfl rfl (fun c3408 => absurd (sf_pt2 B2990 sf_k0) c3408) (fun c3408 => ?_)
          refine pm_R_op pm_M189 (pc' := 167) (st' := [.int 1, .int 0, .ref 52]) (pm_q189_1 (Nat.le_of_ble_eq_true rfl)) rfl rfl ?_
          refine pm_R_br pm_M189 (pc' := 171) (pm_q189_1 (Nat.le_of_ble_eq_true rfl)) rfl ?_
          refine rf_R_ist pm_M189 T3398 (pc' := 172) (pm_q189_1 (Nat.le_of_ble_eq_true rfl)) e3400 (by decide) (by decide) rfl ⟨_, rfl, sf_upd (sf_upd (sf_upd (sf_upd (sf_upd b3381 (sf_weak sf_kn1 (by decide) (by decide)) _) (sf_weak sf_kn1 (by decide) (by decide)) _) (sf_weak sf_kn1 (by decide) (by decide)) _) (sf_weak sf_kn1 (by decide) (by decide)) _) (sf_weak sf_k1 (by decide) (by decide)) _⟩ rfl (fun h3409 T3410 F3411 e3412 => ?_)
          have F3413 := F3401.trans F3411 (by decide)
          refine pm_R_lo pm_M189 (pc' := 173) (pm_q189_1 (Nat.le_of_ble_eq_true rfl)) rfl rfl ?_
          refine pm_R_op pm_M189 (pc' := 174) (st' := [.int 1, .ref 41]) (pm_q189_1 (Nat.le_of_ble_eq_true rfl)) rfl rfl ?_
          refine pm_R_op pm_M189 (pc' := 175) (st' := [.int (-1), .int 1, .ref 41]) (pm_q189_1 (Nat.le_of_ble_eq_true rfl)) rfl rfl ?_
          refine pm_R_cv pm_M189 (pc' := 178) (a := 41) (ra := [.int (-1), .int 1]) (rest := []) (ls' := [.ref 41, .int 1, .int (-1), pm_no]) (pm_q189_1 (Nat.le_of_ble_eq_true rfl)) rfl (Or.inl rfl) pm_M191 T3410.2.1 rfl (by decide) (Nat.lt_of_lt_of_le (by decide) T3410.1) rfl rfl (Nat.le_of_ble_eq_true rfl) rfl rfl ?_
          refine pm_R_lo pm_M191 (pc' := 1) rfl rfl rfl ?_
          refine pm_R_lo pm_M191 (pc' := 2) rfl rfl rfl ?_
          refine pm_R_op pm_M191 (pc' := 3) (st' := [.int 5, .int 1, .ref 41]) rfl rfl rfl ?_
          refine pm_R_lo pm_M191 (pc' := 4) rfl rfl rfl ?_
          refine pm_R_cv pm_M191 (pc' := 7) (a := 41) (ra := [.int (-1), .int 5, .int 1]) (rest := []) (ls' := [.ref 41, .int 1, .int 5, .int (-1)]) rfl rfl (Or.inl rfl) pm_M183 T3410.2.1 rfl (by decide) (Nat.lt_of_lt_of_le (by decide) T3410.1) rfl rfl (Nat.le_of_ble_eq_true rfl) rfl rfl ?_
          refine rf_c183_1_5 (d := d + 0) T3410  (fun m3416 w3417 h3418 T3419 F3420 W3421 X3422 => ?_) (fun m3425 w3426 h3427 T3428 F3429 W3430 X3431 X3432 X3433 X3434 X3435 => ?_) (fun m3438 w3439 h3440 T3441 F3442 W3443 X3444 X3445 X3446 B3447 B3448 => ?_)
          · have F3449 := F3413.trans F3420 (by decide)
            have W3450 : rf_W [10, 12, 13, 14, 16, 17, 18, 21, 22] m m3416 := W3372.trans W3421 (by decide)
            have B3451 : sf_B 0 600 (m3416 10) := T3419.2.2.1 10
            have B3452 : sf_B 0 4 (m3416 17) := T3419.2.2.1 17
            have B3453 : sf_B 0 1 (m3416 22) := T3419.2.2.1 22
            show pm_R _ 191 7 [.ref 41, .int 1, .int (-1), pm_no] [.int 0] _ _
            have R3454 : (m 10).toInt ≤ (m3416 10).toInt := (sf_aux70 _ _ _ R3374 X3422)
            refine pm_R_lo pm_M191 (pc' := 8) (ls' := [.ref 41, .int 1, .int (-1), .int 0]) (st' := []) rfl rfl rfl ?_
            refine pm_R_lo pm_M191 (pc' := 9) rfl rfl rfl ?_
            refine pm_R_lo pm_M191 (pc' := 10) rfl rfl rfl ?_
            refine pm_R_br pm_M191 (pc' := 35) (st' := [.ref 41]) rfl rfl ?_
            refine pm_R_lo pm_M191 (pc' := 36) rfl rfl rfl ?_
            have B3455 : sf_B (-1) 99 (m3416 21) := T3419.2.2.1 21
            refine rf_R_get pm_M191 T3419 (pc' := 39) (v := .int (m3416 21)) rfl rfl rfl rfl ?_
            refine rf_R_put pm_M191 T3419 (pc' := 42) rfl rfl rfl (by decide) rfl rfl B3455 rfl rfl (fun h3456 m3459 em3460 T3457 F3458 => ?_)
            have F3461 := F3449.trans F3458 (by decide)
            have B3462 : sf_B 0 600 (m3459 10) := by rw [em3460]; exact B3451
            have ek3463 : (m3459 10).toInt = ((m3416 10)).toInt := by rw [em3460]; rfl
            have B3464 : sf_B 0 4 (m3459 17) := by rw [em3460]; exact B3452
            have ek3465 : (m3459 17).toInt = ((m3416 17)).toInt := by rw [em3460]; rfl
            have B3466 : sf_B 0 1 (m3459 22) := by rw [em3460]; exact B3453
            have ek3467 : (m3459 22).toInt = ((m3416 22)).toInt := by rw [em3460]; rfl
            have B3468 : sf_B (-1) 99 (m3459 21) := by rw [em3460]; exact B3455
            have ek3469 : (m3459 21).toInt = ((m3416 21)).toInt := by rw [em3460]; rfl
            have W3470 : rf_W [10, 12, 13, 14, 16, 17, 18, 21, 22] m m3459 := by rw [em3460]; exact W3450.put (by decide)
            refine pm_R_lo pm_M191 (pc' := 43) rfl rfl rfl ?_
            refine pm_R_ret pm_M191 (r := some (.int 0)) rfl rfl ?_
            show pm_R _ 189 178 [.ref 41, .long a0, pm_no, .int a1, pm_no] [.int 0] _ _
            refine pm_R_br pm_M189 (pc' := 181) (st' := []) (pm_q189_1 (Nat.le_of_ble_eq_true rfl)) rfl ?_
            refine pm_R_op pm_M189 (pc' := 182) (st' := [.int 0]) (pm_q189_1 (Nat.le_of_ble_eq_true rfl)) rfl rfl ?_
            exact pm_R_ret pm_M189 (r := some (.int 0)) (pm_q189_1 (Nat.le_of_ble_eq_true rfl)) rfl (K0 m3459 w3417 h3456 T3457 F3461 W3470 (sf_aux39 _ _ _ ek3463 R3454))
          · have F3471 := F3413.trans F3429 (by decide)
            have W3472 : rf_W [10, 12, 13, 14, 16, 17, 18, 21, 22] m m3425 := W3372.trans W3430 (by decide)
            have B3473 : sf_B 0 600 (m3425 10) := T3428.2.2.1 10
            have B3474 : sf_B 0 4 (m3425 17) := T3428.2.2.1 17
            have B3475 : sf_B 0 1 (m3425 22) := T3428.2.2.1 22
            show pm_R _ 191 7 [.ref 41, .int 1, .int (-1), pm_no] [.int 1] _ _
            have R3476 : (m 10).toInt ≤ (m3425 10).toInt := (sf_aux70 _ _ _ R3374 X3435)
            obtain ⟨v3477, B3478, e3479⟩ := X3431 _ e3412
            refine pm_R_lo pm_M191 (pc' := 8) (ls' := [.ref 41, .int 1, .int (-1), .int 1]) (st' := []) rfl rfl rfl ?_
            refine pm_R_lo pm_M191 (pc' := 9) rfl rfl rfl ?_
            refine pm_R_lo pm_M191 (pc' := 10) rfl rfl rfl ?_
            refine pm_R_br pm_M191 (pc' := 13) (st' := [.ref 41]) rfl rfl ?_
            refine pm_R_lo pm_M191 (pc' := 14) rfl rfl rfl ?_
            refine rf_R_get pm_M191 T3428 (pc' := 17) (v := .ref 52) rfl rfl rfl rfl ?_
            refine pm_R_lo pm_M191 (pc' := 18) rfl rfl rfl ?_
            refine pm_R_iald pm_M191 (pc' := 19) (v := v3477) rfl e3479 (Nat.lt_of_lt_of_le (by decide) T3428.1) rfl sf_upd_eq rfl ?_
            refine pm_R_lo pm_M191 (pc' := 20) rfl rfl rfl ?_
            have B3482 : sf_B (-1) 99 (m3425 21) := T3428.2.2.1 21
            refine rf_R_get pm_M191 T3428 (pc' := 23) (v := .int (m3425 21)) rfl rfl rfl rfl ?_
            refine pm_R_icmp pm_M191 (t := 35) (pc' := 26) rfl rfl rfl (fun c3483 => ?_) (fun c3483 => ?_)
            · have B3484 : sf_B 0 99 (m3425 21) := sf_leR c3483 B3478 B3482
              refine pm_R_lo pm_M191 (pc' := 36) rfl rfl rfl ?_
              refine rf_R_get pm_M191 T3428 (pc' := 39) (v := .int (m3425 21)) rfl rfl rfl rfl ?_
              refine rf_R_put pm_M191 T3428 (pc' := 42) rfl rfl rfl (by decide) rfl rfl (sf_weak B3484 (by decide) (by decide)) rfl rfl (fun h3485 m3488 em3489 T3486 F3487 => ?_)
              have F3490 := F3471.trans F3487 (by decide)
              have B3491 : sf_B 0 600 (m3488 10) := by rw [em3489]; exact B3473
              have ek3492 : (m3488 10).toInt = ((m3425 10)).toInt := by rw [em3489]; rfl
              have B3493 : sf_B 1 4 (m3488 17) := by rw [em3489]; exact (sf_eqT X3432 B3368)
              have ek3494 : (m3488 17).toInt = ((m3359 17)).toInt := by rw [em3489]; exact X3432
              have B3495 : sf_B 0 1 (m3488 22) := by rw [em3489]; exact (sf_eqT X3433 B3370)
              have ek3496 : (m3488 22).toInt = ((m3359 22)).toInt := by rw [em3489]; exact X3433
              have B3497 : sf_B 0 99 (m3488 21) := by rw [em3489]; exact B3484
              have ek3498 : (m3488 21).toInt = ((m3425 21)).toInt := by rw [em3489]; rfl
              have W3499 : rf_W [10, 12, 13, 14, 16, 17, 18, 21, 22] m m3488 := by rw [em3489]; exact W3472.put (by decide)
              refine pm_R_lo pm_M191 (pc' := 43) rfl rfl rfl ?_
              refine pm_R_ret pm_M191 (r := some (.int 1)) rfl rfl ?_
              show pm_R _ 189 178 [.ref 41, .long a0, pm_no, .int a1, pm_no] [.int 1] _ _
              refine pm_R_br pm_M189 (pc' := 183) (st' := []) (pm_q189_1 (Nat.le_of_ble_eq_true rfl)) rfl ?_
              refine pm_R_lo pm_M189 (pc' := 184) (pm_q189_1 (Nat.le_of_ble_eq_true rfl)) rfl rfl ?_
              refine pm_R_ldc2 pm_M189 (pc' := 187) (pm_q189_1 (Nat.le_of_ble_eq_true rfl)) rfl rfl ?_
              refine pm_R_op pm_M189 (pc' := 188) (st' := [.int z338]) (pm_q189_1 (Nat.le_of_ble_eq_true rfl)) (by show some (Value.int (lg_cmp a0 1819242347) :: _) = _; rw [← e339]) rfl ?_
              refine pm_R_ifc pm_M189 (t := 205) (pc' := 191) (pm_q189_1 (Nat.le_of_ble_eq_true rfl)) rfl rfl (fun c3502 => ?_) (fun c3502 => absurd (Classical.not_not.mp c3502) c340)
              have k3503 := sf_lneC e339 c3502
              refine pm_R_lo pm_M189 (pc' := 206) (pm_q189_1 (Nat.le_of_ble_eq_true rfl)) rfl rfl ?_
              refine pm_R_ldc2 pm_M189 (pc' := 209) (pm_q189_1 (Nat.le_of_ble_eq_true rfl)) rfl rfl ?_
              refine sf_R_lcmp pm_M189 (pc' := 210) (pm_q189_1 (Nat.le_of_ble_eq_true rfl)) rfl (fun z3504 e3505 => ?_)
              have B3506 : sf_B (-2147483648) (-1) z3504 := lf_cmpLt e3505 B2991 (⟨by decide, by decide⟩ : lf_B 1935767923 1935767923 1935767923) (by decide)
              refine pm_R_ifc pm_M189 (t := 226) (pc' := 213) (pm_q189_1 (Nat.le_of_ble_eq_true rfl)) rfl rfl (fun c3507 => ?_) (fun c3507 => absurd (Classical.not_not.mp c3507) (sf_neq2 B3506 sf_k0 (by decide)))
              have k3508 := sf_lneC e3505 c3507
              refine pm_R_lo pm_M189 (pc' := 227) (pm_q189_2 (Nat.le_of_ble_eq_true rfl)) rfl rfl ?_
              refine pm_R_op pm_M189 (pc' := 228) (st' := [.int 1, .ref 41]) (pm_q189_2 (Nat.le_of_ble_eq_true rfl)) rfl rfl ?_
              refine pm_R_op pm_M189 (pc' := 229) (st' := [.int 2, .int 1, .ref 41]) (pm_q189_2 (Nat.le_of_ble_eq_true rfl)) rfl rfl ?_
              refine pm_R_op pm_M189 (pc' := 230) (st' := [.int 3, .int 2, .int 1, .ref 41]) (pm_q189_2 (Nat.le_of_ble_eq_true rfl)) rfl rfl ?_
              refine pm_R_op pm_M189 (pc' := 232) (st' := [.int 50, .int 3, .int 2, .int 1, .ref 41]) (pm_q189_2 (Nat.le_of_ble_eq_true rfl)) rfl rfl ?_
              refine pm_R_op pm_M189 (pc' := 233) (st' := [.int 0, .int 50, .int 3, .int 2, .int 1, .ref 41]) (pm_q189_2 (Nat.le_of_ble_eq_true rfl)) rfl rfl ?_
              refine pm_R_cv pm_M189 (pc' := 236) (a := 41) (ra := [.int 0, .int 50, .int 3, .int 2, .int 1]) (rest := []) (ls' := [.ref 41, .int 1, .int 2, .int 3, .int 50, .int 0, pm_no, pm_no]) (pm_q189_2 (Nat.le_of_ble_eq_true rfl)) rfl (Or.inl rfl) pm_M185 T3486.2.1 rfl (by decide) (Nat.lt_of_lt_of_le (by decide) T3486.1) rfl rfl (Nat.le_of_ble_eq_true rfl) rfl rfl ?_
              have e3509 := (F3487.cell (by decide) (F3429.cell (by decide) (F3411.cell (by decide) (F3399.cell (by decide) (F3394.cell (by decide) (F3389.cell (by decide) (F3384.cell (by decide) (F3363.cell (by decide) (F3348.cell (by decide) e3)))))))))
              refine rf_c185_d (d := d + 3) T3486 (⟨f2, e3509, ct4, fun z => (sf_pos B3493 (by decide) z)⟩) (fun z => sf_pos B3493 (by decide) z) (fun m3512 w3513 h3514 T3515 F3516 W3517 X3518 => ?_)
              have F3519 := F3490.trans F3516 (by decide)
              have B3520 : sf_B 0 600 (m3512 10) := by rw [W3517 10 (by decide)]; exact B3491
              have ek3521 : (m3512 10).toInt = ((m3425 10)).toInt := by rw [W3517 10 (by decide)]; exact ek3492
              have B3522 : sf_B 1 4 (m3512 17) := by rw [W3517 17 (by decide)]; exact B3493
              have ek3523 : (m3512 17).toInt = ((m3359 17)).toInt := by rw [W3517 17 (by decide)]; exact ek3494
              have B3524 : sf_B 0 1 (m3512 22) := by rw [W3517 22 (by decide)]; exact B3495
              have ek3525 : (m3512 22).toInt = ((m3359 22)).toInt := by rw [W3517 22 (by decide)]; exact ek3496
              have B3526 : sf_B 0 99 (m3512 21) := by rw [W3517 21 (by decide)]; exact B3497
              have ek3527 : (m3512 21).toInt = ((m3425 21)).toInt := by rw [W3517 21 (by decide)]; exact ek3498
              have W3528 : rf_W [10, 12, 13, 14, 16, 17, 18, 21, 22] m m3512 := W3499.trans W3517 (by decide)
              show pm_R _ 189 236 [.ref 41, .long a0, pm_no, .int a1, pm_no] [] _ _
              obtain ⟨f3529, e3530, ct3531, bd3532⟩ := X3518
              refine pm_R_op pm_M189 (pc' := 237) (st' := [.int 1]) (pm_q189_2 (Nat.le_of_ble_eq_true rfl)) rfl rfl ?_
              exact pm_R_ret pm_M189 (r := some (.int 1)) (pm_q189_2 (Nat.le_of_ble_eq_true rfl)) rfl (K1 m3512 w3513 h3514 T3515 F3519 W3528 (⟨f3529, e3530, ct3531, fun z => (sf_pos B3522 (by decide) z)⟩) (sf_aux39 _ _ _ ek3521 R3476))
            · have B3533 : sf_B (-1) 4 (m3425 21) := sf_ltL (Int32.not_le.mp c3483) B3482 B3478
              refine pm_R_lo pm_M191 (pc' := 27) rfl rfl rfl ?_
              refine rf_R_get pm_M191 T3428 (pc' := 30) (v := .ref 52) rfl rfl rfl rfl ?_
              refine pm_R_lo pm_M191 (pc' := 31) rfl rfl rfl ?_
              refine pm_R_iald pm_M191 (pc' := 32) (v := v3477) rfl e3479 (Nat.lt_of_lt_of_le (by decide) T3428.1) rfl sf_upd_eq rfl ?_
              refine pm_R_br pm_M191 (pc' := 39) rfl rfl ?_
              refine rf_R_put pm_M191 T3428 (pc' := 42) rfl rfl rfl (by decide) rfl rfl (sf_weak B3478 (by decide) (by decide)) rfl rfl (fun h3536 m3539 em3540 T3537 F3538 => ?_)
              have F3541 := F3471.trans F3538 (by decide)
              have B3542 : sf_B 0 600 (m3539 10) := by rw [em3540]; exact B3473
              have ek3543 : (m3539 10).toInt = ((m3425 10)).toInt := by rw [em3540]; rfl
              have B3544 : sf_B 1 4 (m3539 17) := by rw [em3540]; exact (sf_eqT X3432 B3368)
              have ek3545 : (m3539 17).toInt = ((m3359 17)).toInt := by rw [em3540]; exact X3432
              have B3546 : sf_B 0 1 (m3539 22) := by rw [em3540]; exact (sf_eqT X3433 B3370)
              have ek3547 : (m3539 22).toInt = ((m3359 22)).toInt := by rw [em3540]; exact X3433
              have B3548 : sf_B 0 5 (m3539 21) := by rw [em3540]; exact B3478
              have ek3549 : (m3539 21).toInt = (v3477).toInt := by rw [em3540]; rfl
              have W3550 : rf_W [10, 12, 13, 14, 16, 17, 18, 21, 22] m m3539 := by rw [em3540]; exact W3472.put (by decide)
              refine pm_R_lo pm_M191 (pc' := 43) rfl rfl rfl ?_
              refine pm_R_ret pm_M191 (r := some (.int 1)) rfl rfl ?_
              show pm_R _ 189 178 [.ref 41, .long a0, pm_no, .int a1, pm_no] [.int 1] _ _
              refine pm_R_br pm_M189 (pc' := 183) (st' := []) (pm_q189_1 (Nat.le_of_ble_eq_true rfl)) rfl ?_
              refine pm_R_lo pm_M189 (pc' := 184) (pm_q189_1 (Nat.le_of_ble_eq_true rfl)) rfl rfl ?_
              refine pm_R_ldc2 pm_M189 (pc' := 187) (pm_q189_1 (Nat.le_of_ble_eq_true rfl)) rfl rfl ?_
              refine pm_R_op pm_M189 (pc' := 188) (st' := [.int z338]) (pm_q189_1 (Nat.le_of_ble_eq_true rfl)) (by show some (Value.int (lg_cmp a0 1819242347) :: _) = _; rw [← e339]) rfl ?_
              refine pm_R_ifc pm_M189 (t := 205) (pc' := 191) (pm_q189_1 (Nat.le_of_ble_eq_true rfl)) rfl rfl (fun c3553 => ?_) (fun c3553 => absurd (Classical.not_not.mp c3553) c340)
              have k3554 := sf_lneC e339 c3553
              refine pm_R_lo pm_M189 (pc' := 206) (pm_q189_1 (Nat.le_of_ble_eq_true rfl)) rfl rfl ?_
              refine pm_R_ldc2 pm_M189 (pc' := 209) (pm_q189_1 (Nat.le_of_ble_eq_true rfl)) rfl rfl ?_
              refine sf_R_lcmp pm_M189 (pc' := 210) (pm_q189_1 (Nat.le_of_ble_eq_true rfl)) rfl (fun z3555 e3556 => ?_)
              have B3557 : sf_B (-2147483648) (-1) z3555 := lf_cmpLt e3556 B2991 (⟨by decide, by decide⟩ : lf_B 1935767923 1935767923 1935767923) (by decide)
              refine pm_R_ifc pm_M189 (t := 226) (pc' := 213) (pm_q189_1 (Nat.le_of_ble_eq_true rfl)) rfl rfl (fun c3558 => ?_) (fun c3558 => absurd (Classical.not_not.mp c3558) (sf_neq2 B3557 sf_k0 (by decide)))
              have k3559 := sf_lneC e3556 c3558
              refine pm_R_lo pm_M189 (pc' := 227) (pm_q189_2 (Nat.le_of_ble_eq_true rfl)) rfl rfl ?_
              refine pm_R_op pm_M189 (pc' := 228) (st' := [.int 1, .ref 41]) (pm_q189_2 (Nat.le_of_ble_eq_true rfl)) rfl rfl ?_
              refine pm_R_op pm_M189 (pc' := 229) (st' := [.int 2, .int 1, .ref 41]) (pm_q189_2 (Nat.le_of_ble_eq_true rfl)) rfl rfl ?_
              refine pm_R_op pm_M189 (pc' := 230) (st' := [.int 3, .int 2, .int 1, .ref 41]) (pm_q189_2 (Nat.le_of_ble_eq_true rfl)) rfl rfl ?_
              refine pm_R_op pm_M189 (pc' := 232) (st' := [.int 50, .int 3, .int 2, .int 1, .ref 41]) (pm_q189_2 (Nat.le_of_ble_eq_true rfl)) rfl rfl ?_
              refine pm_R_op pm_M189 (pc' := 233) (st' := [.int 0, .int 50, .int 3, .int 2, .int 1, .ref 41]) (pm_q189_2 (Nat.le_of_ble_eq_true rfl)) rfl rfl ?_
              refine pm_R_cv pm_M189 (pc' := 236) (a := 41) (ra := [.int 0, .int 50, .int 3, .int 2, .int 1]) (rest := []) (ls' := [.ref 41, .int 1, .int 2, .int 3, .int 50, .int 0, pm_no, pm_no]) (pm_q189_2 (Nat.le_of_ble_eq_true rfl)) rfl (Or.inl rfl) pm_M185 T3537.2.1 rfl (by decide) (Nat.lt_of_lt_of_le (by decide) T3537.1) rfl rfl (Nat.le_of_ble_eq_true rfl) rfl rfl ?_
              have e3560 := (F3538.cell (by decide) (F3429.cell (by decide) (F3411.cell (by decide) (F3399.cell (by decide) (F3394.cell (by decide) (F3389.cell (by decide) (F3384.cell (by decide) (F3363.cell (by decide) (F3348.cell (by decide) e3)))))))))
              refine rf_c185_d (d := d + 3) T3537 (⟨f2, e3560, ct4, fun z => (sf_pos B3544 (by decide) z)⟩) (fun z => sf_pos B3544 (by decide) z) (fun m3563 w3564 h3565 T3566 F3567 W3568 X3569 => ?_)
              have F3570 := F3541.trans F3567 (by decide)
              have B3571 : sf_B 0 600 (m3563 10) := by rw [W3568 10 (by decide)]; exact B3542
              have ek3572 : (m3563 10).toInt = ((m3425 10)).toInt := by rw [W3568 10 (by decide)]; exact ek3543
              have B3573 : sf_B 1 4 (m3563 17) := by rw [W3568 17 (by decide)]; exact B3544
              have ek3574 : (m3563 17).toInt = ((m3359 17)).toInt := by rw [W3568 17 (by decide)]; exact ek3545
              have B3575 : sf_B 0 1 (m3563 22) := by rw [W3568 22 (by decide)]; exact B3546
              have ek3576 : (m3563 22).toInt = ((m3359 22)).toInt := by rw [W3568 22 (by decide)]; exact ek3547
              have B3577 : sf_B 0 5 (m3563 21) := by rw [W3568 21 (by decide)]; exact B3548
              have ek3578 : (m3563 21).toInt = (v3477).toInt := by rw [W3568 21 (by decide)]; exact ek3549
              have W3579 : rf_W [10, 12, 13, 14, 16, 17, 18, 21, 22] m m3563 := W3550.trans W3568 (by decide)
              show pm_R _ 189 236 [.ref 41, .long a0, pm_no, .int a1, pm_no] [] _ _
              obtain ⟨f3580, e3581, ct3582, bd3583⟩ := X3569
              refine pm_R_op pm_M189 (pc' := 237) (st' := [.int 1]) (pm_q189_2 (Nat.le_of_ble_eq_true rfl)) rfl rfl ?_
              exact pm_R_ret pm_M189 (r := some (.int 1)) (pm_q189_2 (Nat.le_of_ble_eq_true rfl)) rfl (K1 m3563 w3564 h3565 T3566 F3570 W3579 (⟨f3580, e3581, ct3582, fun z => (sf_pos B3573 (by decide) z)⟩) (sf_aux39 _ _ _ ek3572 R3476))
          · have F3584 := F3413.trans F3442 (by decide)
            have W3585 : rf_W [10, 12, 13, 14, 16, 17, 18, 21, 22] m m3438 := W3372.trans W3443 (by decide)
            have B3586 : sf_B 0 600 (m3438 10) := T3441.2.2.1 10
            have B3587 : sf_B 0 4 (m3438 17) := T3441.2.2.1 17
            have B3588 : sf_B 0 1 (m3438 22) := T3441.2.2.1 22
            show pm_R _ 191 7 [.ref 41, .int 1, .int (-1), pm_no] [.int 1] _ _
            have R3589 : (m 10).toInt ≤ (m3438 10).toInt := (sf_aux70 _ _ _ R3374 X3446)
            obtain ⟨v3590, B3591, e3592⟩ := X3444 _ e3412
            refine pm_R_lo pm_M191 (pc' := 8) (ls' := [.ref 41, .int 1, .int (-1), .int 1]) (st' := []) rfl rfl rfl ?_
            refine pm_R_lo pm_M191 (pc' := 9) rfl rfl rfl ?_
            refine pm_R_lo pm_M191 (pc' := 10) rfl rfl rfl ?_
            refine pm_R_br pm_M191 (pc' := 13) (st' := [.ref 41]) rfl rfl ?_
            refine pm_R_lo pm_M191 (pc' := 14) rfl rfl rfl ?_
            refine rf_R_get pm_M191 T3441 (pc' := 17) (v := .ref 52) rfl rfl rfl rfl ?_
            refine pm_R_lo pm_M191 (pc' := 18) rfl rfl rfl ?_
            refine pm_R_iald pm_M191 (pc' := 19) (v := v3590) rfl e3592 (Nat.lt_of_lt_of_le (by decide) T3441.1) rfl sf_upd_eq rfl ?_
            refine pm_R_lo pm_M191 (pc' := 20) rfl rfl rfl ?_
            have B3595 : sf_B (-1) 99 (m3438 21) := T3441.2.2.1 21
            refine rf_R_get pm_M191 T3441 (pc' := 23) (v := .int (m3438 21)) rfl rfl rfl rfl ?_
            refine pm_R_icmp pm_M191 (t := 35) (pc' := 26) rfl rfl rfl (fun c3596 => ?_) (fun c3596 => ?_)
            · have B3597 : sf_B 0 99 (m3438 21) := sf_leR c3596 B3591 B3595
              refine pm_R_lo pm_M191 (pc' := 36) rfl rfl rfl ?_
              refine rf_R_get pm_M191 T3441 (pc' := 39) (v := .int (m3438 21)) rfl rfl rfl rfl ?_
              refine rf_R_put pm_M191 T3441 (pc' := 42) rfl rfl rfl (by decide) rfl rfl (sf_weak B3597 (by decide) (by decide)) rfl rfl (fun h3598 m3601 em3602 T3599 F3600 => ?_)
              have F3603 := F3584.trans F3600 (by decide)
              have B3604 : sf_B 0 600 (m3601 10) := by rw [em3602]; exact B3586
              have ek3605 : (m3601 10).toInt = ((m3438 10)).toInt := by rw [em3602]; rfl
              have B3606 : sf_B 1 4 (m3601 17) := by rw [em3602]; exact B3447
              have ek3607 : (m3601 17).toInt = ((m3438 17)).toInt := by rw [em3602]; rfl
              have B3608 : sf_B 0 0 (m3601 22) := by rw [em3602]; exact B3448
              have ek3609 : (m3601 22).toInt = ((m3438 22)).toInt := by rw [em3602]; rfl
              have B3610 : sf_B 0 99 (m3601 21) := by rw [em3602]; exact B3597
              have ek3611 : (m3601 21).toInt = ((m3438 21)).toInt := by rw [em3602]; rfl
              have W3612 : rf_W [10, 12, 13, 14, 16, 17, 18, 21, 22] m m3601 := by rw [em3602]; exact W3585.put (by decide)
              refine pm_R_lo pm_M191 (pc' := 43) rfl rfl rfl ?_
              refine pm_R_ret pm_M191 (r := some (.int 1)) rfl rfl ?_
              show pm_R _ 189 178 [.ref 41, .long a0, pm_no, .int a1, pm_no] [.int 1] _ _
              refine pm_R_br pm_M189 (pc' := 183) (st' := []) (pm_q189_1 (Nat.le_of_ble_eq_true rfl)) rfl ?_
              refine pm_R_lo pm_M189 (pc' := 184) (pm_q189_1 (Nat.le_of_ble_eq_true rfl)) rfl rfl ?_
              refine pm_R_ldc2 pm_M189 (pc' := 187) (pm_q189_1 (Nat.le_of_ble_eq_true rfl)) rfl rfl ?_
              refine pm_R_op pm_M189 (pc' := 188) (st' := [.int z338]) (pm_q189_1 (Nat.le_of_ble_eq_true rfl)) (by show some (Value.int (lg_cmp a0 1819242347) :: _) = _; rw [← e339]) rfl ?_
              refine pm_R_ifc pm_M189 (t := 205) (pc' := 191) (pm_q189_1 (Nat.le_of_ble_eq_true rfl)) rfl rfl (fun c3615 => ?_) (fun c3615 => absurd (Classical.not_not.mp c3615) c340)
              have k3616 := sf_lneC e339 c3615
              refine pm_R_lo pm_M189 (pc' := 206) (pm_q189_1 (Nat.le_of_ble_eq_true rfl)) rfl rfl ?_
              refine pm_R_ldc2 pm_M189 (pc' := 209) (pm_q189_1 (Nat.le_of_ble_eq_true rfl)) rfl rfl ?_
              refine sf_R_lcmp pm_M189 (pc' := 210) (pm_q189_1 (Nat.le_of_ble_eq_true rfl)) rfl (fun z3617 e3618 => ?_)
              have B3619 : sf_B (-2147483648) (-1) z3617 := lf_cmpLt e3618 B2991 (⟨by decide, by decide⟩ : lf_B 1935767923 1935767923 1935767923) (by decide)
              refine pm_R_ifc pm_M189 (t := 226) (pc' := 213) (pm_q189_1 (Nat.le_of_ble_eq_true rfl)) rfl rfl (fun c3620 => ?_) (fun c3620 => absurd (Classical.not_not.mp c3620) (sf_neq2 B3619 sf_k0 (by decide)))
              have k3621 := sf_lneC e3618 c3620
              refine pm_R_lo pm_M189 (pc' := 227) (pm_q189_2 (Nat.le_of_ble_eq_true rfl)) rfl rfl ?_
              refine pm_R_op pm_M189 (pc' := 228) (st' := [.int 1, .ref 41]) (pm_q189_2 (Nat.le_of_ble_eq_true rfl)) rfl rfl ?_
              refine pm_R_op pm_M189 (pc' := 229) (st' := [.int 2, .int 1, .ref 41]) (pm_q189_2 (Nat.le_of_ble_eq_true rfl)) rfl rfl ?_
              refine pm_R_op pm_M189 (pc' := 230) (st' := [.int 3, .int 2, .int 1, .ref 41]) (pm_q189_2 (Nat.le_of_ble_eq_true rfl)) rfl rfl ?_
              refine pm_R_op pm_M189 (pc' := 232) (st' := [.int 50, .int 3, .int 2, .int 1, .ref 41]) (pm_q189_2 (Nat.le_of_ble_eq_true rfl)) rfl rfl ?_
              refine pm_R_op pm_M189 (pc' := 233) (st' := [.int 0, .int 50, .int 3, .int 2, .int 1, .ref 41]) (pm_q189_2 (Nat.le_of_ble_eq_true rfl)) rfl rfl ?_
              refine pm_R_cv pm_M189 (pc' := 236) (a := 41) (ra := [.int 0, .int 50, .int 3, .int 2, .int 1]) (rest := []) (ls' := [.ref 41, .int 1, .int 2, .int 3, .int 50, .int 0, pm_no, pm_no]) (pm_q189_2 (Nat.le_of_ble_eq_true rfl)) rfl (Or.inl rfl) pm_M185 T3599.2.1 rfl (by decide) (Nat.lt_of_lt_of_le (by decide) T3599.1) rfl rfl (Nat.le_of_ble_eq_true rfl) rfl rfl ?_
              have e3622 := (F3600.cell (by decide) (F3442.cell (by decide) (F3411.cell (by decide) (F3399.cell (by decide) (F3394.cell (by decide) (F3389.cell (by decide) (F3384.cell (by decide) (F3363.cell (by decide) (F3348.cell (by decide) e3)))))))))
              refine rf_c185_d (d := d + 3) T3599 (⟨f2, e3622, ct4, fun z => (sf_pos B3606 (by decide) z)⟩) (fun z => sf_pos B3606 (by decide) z) (fun m3625 w3626 h3627 T3628 F3629 W3630 X3631 => ?_)
              have F3632 := F3603.trans F3629 (by decide)
              have B3633 : sf_B 0 600 (m3625 10) := by rw [W3630 10 (by decide)]; exact B3604
              have ek3634 : (m3625 10).toInt = ((m3438 10)).toInt := by rw [W3630 10 (by decide)]; exact ek3605
              have B3635 : sf_B 1 4 (m3625 17) := by rw [W3630 17 (by decide)]; exact B3606
              have ek3636 : (m3625 17).toInt = ((m3438 17)).toInt := by rw [W3630 17 (by decide)]; exact ek3607
              have B3637 : sf_B 0 0 (m3625 22) := by rw [W3630 22 (by decide)]; exact B3608
              have ek3638 : (m3625 22).toInt = ((m3438 22)).toInt := by rw [W3630 22 (by decide)]; exact ek3609
              have B3639 : sf_B 0 99 (m3625 21) := by rw [W3630 21 (by decide)]; exact B3610
              have ek3640 : (m3625 21).toInt = ((m3438 21)).toInt := by rw [W3630 21 (by decide)]; exact ek3611
              have W3641 : rf_W [10, 12, 13, 14, 16, 17, 18, 21, 22] m m3625 := W3612.trans W3630 (by decide)
              show pm_R _ 189 236 [.ref 41, .long a0, pm_no, .int a1, pm_no] [] _ _
              obtain ⟨f3642, e3643, ct3644, bd3645⟩ := X3631
              refine pm_R_op pm_M189 (pc' := 237) (st' := [.int 1]) (pm_q189_2 (Nat.le_of_ble_eq_true rfl)) rfl rfl ?_
              exact pm_R_ret pm_M189 (r := some (.int 1)) (pm_q189_2 (Nat.le_of_ble_eq_true rfl)) rfl (K1 m3625 w3626 h3627 T3628 F3632 W3641 (⟨f3642, e3643, ct3644, fun z => (sf_pos B3635 (by decide) z)⟩) (sf_aux39 _ _ _ ek3634 R3589))
            · have B3646 : sf_B (-1) 98 (m3438 21) := sf_ltL (Int32.not_le.mp c3596) B3595 B3591
              refine pm_R_lo pm_M191 (pc' := 27) rfl rfl rfl ?_
              refine rf_R_get pm_M191 T3441 (pc' := 30) (v := .ref 52) rfl rfl rfl rfl ?_
              refine pm_R_lo pm_M191 (pc' := 31) rfl rfl rfl ?_
              refine pm_R_iald pm_M191 (pc' := 32) (v := v3590) rfl e3592 (Nat.lt_of_lt_of_le (by decide) T3441.1) rfl sf_upd_eq rfl ?_
              refine pm_R_br pm_M191 (pc' := 39) rfl rfl ?_
              refine rf_R_put pm_M191 T3441 (pc' := 42) rfl rfl rfl (by decide) rfl rfl (sf_weak B3591 (by decide) (by decide)) rfl rfl (fun h3649 m3652 em3653 T3650 F3651 => ?_)
              have F3654 := F3584.trans F3651 (by decide)
              have B3655 : sf_B 0 600 (m3652 10) := by rw [em3653]; exact B3586
              have ek3656 : (m3652 10).toInt = ((m3438 10)).toInt := by rw [em3653]; rfl
              have B3657 : sf_B 1 4 (m3652 17) := by rw [em3653]; exact B3447
              have ek3658 : (m3652 17).toInt = ((m3438 17)).toInt := by rw [em3653]; rfl
              have B3659 : sf_B 0 0 (m3652 22) := by rw [em3653]; exact B3448
              have ek3660 : (m3652 22).toInt = ((m3438 22)).toInt := by rw [em3653]; rfl
              have B3661 : sf_B 0 99 (m3652 21) := by rw [em3653]; exact B3591
              have ek3662 : (m3652 21).toInt = (v3590).toInt := by rw [em3653]; rfl
              have W3663 : rf_W [10, 12, 13, 14, 16, 17, 18, 21, 22] m m3652 := by rw [em3653]; exact W3585.put (by decide)
              refine pm_R_lo pm_M191 (pc' := 43) rfl rfl rfl ?_
              refine pm_R_ret pm_M191 (r := some (.int 1)) rfl rfl ?_
              show pm_R _ 189 178 [.ref 41, .long a0, pm_no, .int a1, pm_no] [.int 1] _ _
              refine pm_R_br pm_M189 (pc' := 183) (st' := []) (pm_q189_1 (Nat.le_of_ble_eq_true rfl)) rfl ?_
              refine pm_R_lo pm_M189 (pc' := 184) (pm_q189_1 (Nat.le_of_ble_eq_true rfl)) rfl rfl ?_
              refine pm_R_ldc2 pm_M189 (pc' := 187) (pm_q189_1 (Nat.le_of_ble_eq_true rfl)) rfl rfl ?_
              refine pm_R_op pm_M189 (pc' := 188) (st' := [.int z338]) (pm_q189_1 (Nat.le_of_ble_eq_true rfl)) (by show some (Value.int (lg_cmp a0 1819242347) :: _) = _; rw [← e339]) rfl ?_
              refine pm_R_ifc pm_M189 (t := 205) (pc' := 191) (pm_q189_1 (Nat.le_of_ble_eq_true rfl)) rfl rfl (fun c3666 => ?_) (fun c3666 => absurd (Classical.not_not.mp c3666) c340)
              have k3667 := sf_lneC e339 c3666
              refine pm_R_lo pm_M189 (pc' := 206) (pm_q189_1 (Nat.le_of_ble_eq_true rfl)) rfl rfl ?_
              refine pm_R_ldc2 pm_M189 (pc' := 209) (pm_q189_1 (Nat.le_of_ble_eq_true rfl)) rfl rfl ?_
              refine sf_R_lcmp pm_M189 (pc' := 210) (pm_q189_1 (Nat.le_of_ble_eq_true rfl)) rfl (fun z3668 e3669 => ?_)
              have B3670 : sf_B (-2147483648) (-1) z3668 := lf_cmpLt e3669 B2991 (⟨by decide, by decide⟩ : lf_B 1935767923 1935767923 1935767923) (by decide)
              refine pm_R_ifc pm_M189 (t := 226) (pc' := 213) (pm_q189_1 (Nat.le_of_ble_eq_true rfl)) rfl rfl (fun c3671 => ?_) (fun c3671 => absurd (Classical.not_not.mp c3671) (sf_neq2 B3670 sf_k0 (by decide)))
              have k3672 := sf_lneC e3669 c3671
              refine pm_R_lo pm_M189 (pc' := 227) (pm_q189_2 (Nat.le_of_ble_eq_true rfl)) rfl rfl ?_
              refine pm_R_op pm_M189 (pc' := 228) (st' := [.int 1, .ref 41]) (pm_q189_2 (Nat.le_of_ble_eq_true rfl)) rfl rfl ?_
              refine pm_R_op pm_M189 (pc' := 229) (st' := [.int 2, .int 1, .ref 41]) (pm_q189_2 (Nat.le_of_ble_eq_true rfl)) rfl rfl ?_
              refine pm_R_op pm_M189 (pc' := 230) (st' := [.int 3, .int 2, .int 1, .ref 41]) (pm_q189_2 (Nat.le_of_ble_eq_true rfl)) rfl rfl ?_
              refine pm_R_op pm_M189 (pc' := 232) (st' := [.int 50, .int 3, .int 2, .int 1, .ref 41]) (pm_q189_2 (Nat.le_of_ble_eq_true rfl)) rfl rfl ?_
              refine pm_R_op pm_M189 (pc' := 233) (st' := [.int 0, .int 50, .int 3, .int 2, .int 1, .ref 41]) (pm_q189_2 (Nat.le_of_ble_eq_true rfl)) rfl rfl ?_
              refine pm_R_cv pm_M189 (pc' := 236) (a := 41) (ra := [.int 0, .int 50, .int 3, .int 2, .int 1]) (rest := []) (ls' := [.ref 41, .int 1, .int 2, .int 3, .int 50, .int 0, pm_no, pm_no]) (pm_q189_2 (Nat.le_of_ble_eq_true rfl)) rfl (Or.inl rfl) pm_M185 T3650.2.1 rfl (by decide) (Nat.lt_of_lt_of_le (by decide) T3650.1) rfl rfl (Nat.le_of_ble_eq_true rfl) rfl rfl ?_
              have e3673 := (F3651.cell (by decide) (F3442.cell (by decide) (F3411.cell (by decide) (F3399.cell (by decide) (F3394.cell (by decide) (F3389.cell (by decide) (F3384.cell (by decide) (F3363.cell (by decide) (F3348.cell (by decide) e3)))))))))
              refine rf_c185_d (d := d + 3) T3650 (⟨f2, e3673, ct4, fun z => (sf_pos B3657 (by decide) z)⟩) (fun z => sf_pos B3657 (by decide) z) (fun m3676 w3677 h3678 T3679 F3680 W3681 X3682 => ?_)
              have F3683 := F3654.trans F3680 (by decide)
              have B3684 : sf_B 0 600 (m3676 10) := by rw [W3681 10 (by decide)]; exact B3655
              have ek3685 : (m3676 10).toInt = ((m3438 10)).toInt := by rw [W3681 10 (by decide)]; exact ek3656
              have B3686 : sf_B 1 4 (m3676 17) := by rw [W3681 17 (by decide)]; exact B3657
              have ek3687 : (m3676 17).toInt = ((m3438 17)).toInt := by rw [W3681 17 (by decide)]; exact ek3658
              have B3688 : sf_B 0 0 (m3676 22) := by rw [W3681 22 (by decide)]; exact B3659
              have ek3689 : (m3676 22).toInt = ((m3438 22)).toInt := by rw [W3681 22 (by decide)]; exact ek3660
              have B3690 : sf_B 0 99 (m3676 21) := by rw [W3681 21 (by decide)]; exact B3661
              have ek3691 : (m3676 21).toInt = (v3590).toInt := by rw [W3681 21 (by decide)]; exact ek3662
              have W3692 : rf_W [10, 12, 13, 14, 16, 17, 18, 21, 22] m m3676 := W3663.trans W3681 (by decide)
              show pm_R _ 189 236 [.ref 41, .long a0, pm_no, .int a1, pm_no] [] _ _
              obtain ⟨f3693, e3694, ct3695, bd3696⟩ := X3682
              refine pm_R_op pm_M189 (pc' := 237) (st' := [.int 1]) (pm_q189_2 (Nat.le_of_ble_eq_true rfl)) rfl rfl ?_
              exact pm_R_ret pm_M189 (r := some (.int 1)) (pm_q189_2 (Nat.le_of_ble_eq_true rfl)) rfl (K1 m3676 w3677 h3678 T3679 F3683 W3692 (⟨f3693, e3694, ct3695, fun z => (sf_pos B3686 (by decide) z)⟩) (sf_aux39 _ _ _ ek3685 R3589))
      · have k3697 := sf_lneC e2988 c2989
        refine pm_R_lo pm_M189 (pc' := 25) rfl rfl rfl ?_
        refine pm_R_ldc2 pm_M189 (pc' := 28) rfl rfl rfl ?_
        refine sf_R_lcmp pm_M189 (pc' := 29) rfl rfl (fun z3698 e3699 => ?_)
        refine pm_R_ifc pm_M189 (t := 37) (pc' := 32) rfl rfl rfl (fun c3700 => ?_) (fun c3700 => ?_)
        · have B3701 : sf_B 0 0 z3698 := sf_eqL c3700 sf_k0
          have B3702 : lf_B 1935767923 1935767923 a0 := lf_eqB e3699 B3701 (⟨by decide, by decide⟩ : lf_B 1935767923 1935767923 1935767923)
          refine pm_R_lo pm_M189 (pc' := 38) rfl rfl rfl ?_
          refine pm_R_ldc2 pm_M189 (pc' := 41) rfl rfl rfl ?_
          refine pm_R_op pm_M189 (pc' := 42) (st' := [.int z7]) rfl (by show some (Value.int (lg_cmp a0 495622124659) :: _) = _; rw [← e8]) rfl ?_
          refine pm_R_ifc pm_M189 (t := 62) (pc' := 45) rfl rfl rfl (fun c3705 => absurd c3705 c9) (fun c3705 => ?_)
          have k3706 := sf_lneC e8 c3705
          refine pm_R_lo pm_M189 (pc' := 46) rfl rfl rfl ?_
          refine rf_R_get pm_M189 T (pc' := 49) (v := .ref 51) rfl rfl rfl rfl ?_
          refine pm_R_op pm_M189 (pc' := 50) (st' := [.int 1, .ref 51]) rfl rfl rfl ?_
          refine pm_R_iald pm_M189 (pc' := 51) (v := (f2 1)) rfl e3 (Nat.lt_of_lt_of_le (by decide) T.1) rfl rfl rfl ?_
          refine pm_R_op pm_M189 (pc' := 53) (st' := [.int 50, .int (f2 1)]) rfl rfl rfl ?_
          refine pm_R_icmp pm_M189 (t := 62) (pc' := 56) rfl rfl rfl (fun c3709 => ?_) (fun c3709 => ?_)
          · have B3710 : sf_B 0 49 (f2 1) := sf_neH0 c3709 sf_k50 ct4
            refine pm_R_lo pm_M189 (pc' := 63) rfl rfl rfl ?_
            refine pm_R_cv pm_M189 (pc' := 66) (a := 41) (ra := []) (rest := []) (ls' := [.ref 41, pm_no, pm_no]) rfl rfl (Or.inl rfl) pm_M179 T.2.1 rfl (by decide) (Nat.lt_of_lt_of_le (by decide) T.1) rfl rfl (Nat.le_of_ble_eq_true rfl) rfl rfl ?_
            refine rf_c179 (d := d + 2) T  (fun m3713 w3714 h3715 T3716 F3717 W3718 X3719 X3720 => ?_)
            have F3721 := (rf_G.refl [41, 51, 52] h).trans F3717 (by decide)
            have B3722 : sf_B 0 4 (m3713 17) := by rw [W3718 17 (by decide)]; exact B6
            have ek3723 : (m3713 17).toInt = ((m 17)).toInt := by rw [W3718 17 (by decide)]
            have W3724 : rf_W [10, 12, 13, 14, 16, 17, 18, 21, 22] m m3713 := (rf_W.refl [10, 12, 13, 14, 16, 17, 18, 21, 22] m).trans W3718 (by decide)
            have B3725 : sf_B 0 600 (m3713 10) := T3716.2.2.1 10
            have B3726 : sf_B 0 1 (m3713 22) := T3716.2.2.1 22
            show pm_R _ 189 66 [.ref 41, .long a0, pm_no, .int a1, pm_no] [] _ _
            have R3727 : (m 10).toInt ≤ (m3713 10).toInt := (sf_aux51 _ _ X3719)
            refine pm_R_lo pm_M189 (pc' := 67) rfl rfl rfl ?_
            refine pm_R_ldc2 pm_M189 (pc' := 70) rfl rfl rfl ?_
            refine pm_R_op pm_M189 (pc' := 71) (st' := [.int z7]) rfl (by show some (Value.int (lg_cmp a0 495622124659) :: _) = _; rw [← e8]) rfl ?_
            refine pm_R_ifc pm_M189 (t := 137) (pc' := 74) rfl rfl rfl (fun c3730 => ?_) (fun c3730 => absurd (Classical.not_not.mp c3730) c9)
            have k3731 := sf_lneC e8 c3730
            refine pm_R_lo pm_M189 (pc' := 138) (pm_q189_1 (Nat.le_of_ble_eq_true rfl)) rfl rfl ?_
            refine pm_R_cv pm_M189 (pc' := 141) (a := 41) (ra := []) (rest := []) (ls' := [.ref 41, pm_no]) (pm_q189_1 (Nat.le_of_ble_eq_true rfl)) rfl (Or.inl rfl) pm_M190 T3716.2.1 rfl (by decide) (Nat.lt_of_lt_of_le (by decide) T3716.1) rfl rfl (Nat.le_of_ble_eq_true rfl) rfl rfl ?_
            refine pm_R_op pm_M190 (pc' := 1) (st' := [.int 0]) rfl rfl rfl ?_
            refine pm_R_lo pm_M190 (pc' := 2) (ls' := [.ref 41, .int 0]) (st' := []) rfl rfl rfl ?_
            refine pm_R_lo pm_M190 (pc' := 3) rfl rfl rfl ?_
            refine pm_R_op pm_M190 (pc' := 4) (st' := [.int 4, .int 0]) rfl rfl rfl ?_
            refine pm_R_br pm_M190 (pc' := 7) (st' := []) rfl rfl ?_
            refine pm_R_lo pm_M190 (pc' := 8) rfl rfl rfl ?_
            refine rf_R_get pm_M190 T3716 (pc' := 11) (v := .ref 52) rfl rfl rfl rfl ?_
            refine pm_R_lo pm_M190 (pc' := 12) rfl rfl rfl ?_
            refine pm_R_op pm_M190 (pc' := 13) (st' := [.int (-1), .int 0, .ref 52]) rfl rfl rfl ?_
            obtain ⟨f3732, e3733, b3734⟩ := T3716.2.2.2.1 52 (by decide) (by decide)
            refine rf_R_ist pm_M190 T3716 (pc' := 14) rfl e3733 (by decide) (by decide) rfl ⟨_, rfl, sf_upd b3734 (sf_weak sf_kn1 (by decide) (by decide)) _⟩ rfl (fun h3735 T3736 F3737 e3738 => ?_)
            have F3739 := F3721.trans F3737 (by decide)
            refine pm_R_lo pm_M190 (pc' := 17) (ls' := [.ref 41, .int 1]) (st' := []) rfl rfl rfl ?_
            refine pm_R_br pm_M190 (pc' := 2) rfl rfl ?_
            refine pm_R_lo pm_M190 (pc' := 3) rfl rfl rfl ?_
            refine pm_R_op pm_M190 (pc' := 4) (st' := [.int 4, .int 1]) rfl rfl rfl ?_
            refine pm_R_br pm_M190 (pc' := 7) (st' := []) rfl rfl ?_
            refine pm_R_lo pm_M190 (pc' := 8) rfl rfl rfl ?_
            refine rf_R_get pm_M190 T3736 (pc' := 11) (v := .ref 52) rfl rfl rfl rfl ?_
            refine pm_R_lo pm_M190 (pc' := 12) rfl rfl rfl ?_
            refine pm_R_op pm_M190 (pc' := 13) (st' := [.int (-1), .int 1, .ref 52]) rfl rfl rfl ?_
            refine rf_R_ist pm_M190 T3736 (pc' := 14) rfl e3738 (by decide) (by decide) rfl ⟨_, rfl, sf_upd (sf_upd b3734 (sf_weak sf_kn1 (by decide) (by decide)) _) (sf_weak sf_kn1 (by decide) (by decide)) _⟩ rfl (fun h3740 T3741 F3742 e3743 => ?_)
            have F3744 := F3739.trans F3742 (by decide)
            refine pm_R_lo pm_M190 (pc' := 17) (ls' := [.ref 41, .int 2]) (st' := []) rfl rfl rfl ?_
            refine pm_R_br pm_M190 (pc' := 2) rfl rfl ?_
            refine pm_R_lo pm_M190 (pc' := 3) rfl rfl rfl ?_
            refine pm_R_op pm_M190 (pc' := 4) (st' := [.int 4, .int 2]) rfl rfl rfl ?_
            refine pm_R_br pm_M190 (pc' := 7) (st' := []) rfl rfl ?_
            refine pm_R_lo pm_M190 (pc' := 8) rfl rfl rfl ?_
            refine rf_R_get pm_M190 T3741 (pc' := 11) (v := .ref 52) rfl rfl rfl rfl ?_
            refine pm_R_lo pm_M190 (pc' := 12) rfl rfl rfl ?_
            refine pm_R_op pm_M190 (pc' := 13) (st' := [.int (-1), .int 2, .ref 52]) rfl rfl rfl ?_
            refine rf_R_ist pm_M190 T3741 (pc' := 14) rfl e3743 (by decide) (by decide) rfl ⟨_, rfl, sf_upd (sf_upd (sf_upd b3734 (sf_weak sf_kn1 (by decide) (by decide)) _) (sf_weak sf_kn1 (by decide) (by decide)) _) (sf_weak sf_kn1 (by decide) (by decide)) _⟩ rfl (fun h3745 T3746 F3747 e3748 => ?_)
            have F3749 := F3744.trans F3747 (by decide)
            refine pm_R_lo pm_M190 (pc' := 17) (ls' := [.ref 41, .int 3]) (st' := []) rfl rfl rfl ?_
            refine pm_R_br pm_M190 (pc' := 2) rfl rfl ?_
            refine pm_R_lo pm_M190 (pc' := 3) rfl rfl rfl ?_
            refine pm_R_op pm_M190 (pc' := 4) (st' := [.int 4, .int 3]) rfl rfl rfl ?_
            refine pm_R_br pm_M190 (pc' := 7) (st' := []) rfl rfl ?_
            refine pm_R_lo pm_M190 (pc' := 8) rfl rfl rfl ?_
            refine rf_R_get pm_M190 T3746 (pc' := 11) (v := .ref 52) rfl rfl rfl rfl ?_
            refine pm_R_lo pm_M190 (pc' := 12) rfl rfl rfl ?_
            refine pm_R_op pm_M190 (pc' := 13) (st' := [.int (-1), .int 3, .ref 52]) rfl rfl rfl ?_
            refine rf_R_ist pm_M190 T3746 (pc' := 14) rfl e3748 (by decide) (by decide) rfl ⟨_, rfl, sf_upd (sf_upd (sf_upd (sf_upd b3734 (sf_weak sf_kn1 (by decide) (by decide)) _) (sf_weak sf_kn1 (by decide) (by decide)) _) (sf_weak sf_kn1 (by decide) (by decide)) _) (sf_weak sf_kn1 (by decide) (by decide)) _⟩ rfl (fun h3750 T3751 F3752 e3753 => ?_)
            have F3754 := F3749.trans F3752 (by decide)
            refine pm_R_lo pm_M190 (pc' := 17) (ls' := [.ref 41, .int 4]) (st' := []) rfl rfl rfl ?_
            refine pm_R_br pm_M190 (pc' := 2) rfl rfl ?_
            refine pm_R_lo pm_M190 (pc' := 3) rfl rfl rfl ?_
            refine pm_R_op pm_M190 (pc' := 4) (st' := [.int 4, .int 4]) rfl rfl rfl ?_
            refine pm_R_br pm_M190 (pc' := 20) (st' := []) rfl rfl ?_
            refine pm_R_ret pm_M190 (r := none) rfl rfl ?_
            show pm_R _ 189 141 [.ref 41, .long a0, pm_no, .int a1, pm_no] [] _ _
            refine pm_R_lo pm_M189 (pc' := 142) (pm_q189_1 (Nat.le_of_ble_eq_true rfl)) rfl rfl ?_
            refine rf_R_get pm_M189 T3751 (pc' := 145) (v := .ref 52) (pm_q189_1 (Nat.le_of_ble_eq_true rfl)) rfl rfl rfl ?_
            refine pm_R_op pm_M189 (pc' := 146) (st' := [.int 0, .ref 52]) (pm_q189_1 (Nat.le_of_ble_eq_true rfl)) rfl rfl ?_
            refine pm_R_lo pm_M189 (pc' := 147) (pm_q189_1 (Nat.le_of_ble_eq_true rfl)) rfl rfl ?_
            refine pm_R_ldc2 pm_M189 (pc' := 150) (pm_q189_1 (Nat.le_of_ble_eq_true rfl)) rfl rfl ?_
            refine pm_R_op pm_M189 (pc' := 151) (st' := [.int z338, .int 0, .ref 52]) (pm_q189_1 (Nat.le_of_ble_eq_true rfl)) (by show some (Value.int (lg_cmp a0 1819242347) :: _) = _; rw [← e339]) rfl ?_
            refine pm_R_ifc pm_M189 (t := 158) (pc' := 154) (pm_q189_1 (Nat.le_of_ble_eq_true rfl)) rfl rfl (fun c3757 => ?_) (fun c3757 => absurd (Classical.not_not.mp c3757) c340)
            have k3758 := sf_lneC e339 c3757
            refine pm_R_lo pm_M189 (pc' := 159) (pm_q189_1 (Nat.le_of_ble_eq_true rfl)) rfl rfl ?_
            refine pm_R_ldc2 pm_M189 (pc' := 162) (pm_q189_1 (Nat.le_of_ble_eq_true rfl)) rfl rfl ?_
            refine pm_R_op pm_M189 (pc' := 163) (st' := [.int z2987, .int 0, .ref 52]) (pm_q189_1 (Nat.le_of_ble_eq_true rfl)) (by show some (Value.int (lg_cmp a0 1635213689) :: _) = _; rw [← e2988]) rfl ?_
            refine pm_R_ifc pm_M189 (t := 170) (pc' := 166) (pm_q189_1 (Nat.le_of_ble_eq_true rfl)) rfl rfl (fun c3761 => ?_) (fun c3761 => absurd (Classical.not_not.mp c3761) c2989)
            have k3762 := sf_lneC e2988 c3761
            refine pm_R_op pm_M189 (pc' := 171) (st' := [.int 2, .int 0, .ref 52]) (pm_q189_1 (Nat.le_of_ble_eq_true rfl)) rfl rfl ?_
            refine rf_R_ist pm_M189 T3751 (pc' := 172) (pm_q189_1 (Nat.le_of_ble_eq_true rfl)) e3753 (by decide) (by decide) rfl ⟨_, rfl, sf_upd (sf_upd (sf_upd (sf_upd (sf_upd b3734 (sf_weak sf_kn1 (by decide) (by decide)) _) (sf_weak sf_kn1 (by decide) (by decide)) _) (sf_weak sf_kn1 (by decide) (by decide)) _) (sf_weak sf_kn1 (by decide) (by decide)) _) (sf_weak sf_k2 (by decide) (by decide)) _⟩ rfl (fun h3763 T3764 F3765 e3766 => ?_)
            have F3767 := F3754.trans F3765 (by decide)
            refine pm_R_lo pm_M189 (pc' := 173) (pm_q189_1 (Nat.le_of_ble_eq_true rfl)) rfl rfl ?_
            refine pm_R_op pm_M189 (pc' := 174) (st' := [.int 1, .ref 41]) (pm_q189_1 (Nat.le_of_ble_eq_true rfl)) rfl rfl ?_
            refine pm_R_op pm_M189 (pc' := 175) (st' := [.int (-1), .int 1, .ref 41]) (pm_q189_1 (Nat.le_of_ble_eq_true rfl)) rfl rfl ?_
            refine pm_R_cv pm_M189 (pc' := 178) (a := 41) (ra := [.int (-1), .int 1]) (rest := []) (ls' := [.ref 41, .int 1, .int (-1), pm_no]) (pm_q189_1 (Nat.le_of_ble_eq_true rfl)) rfl (Or.inl rfl) pm_M191 T3764.2.1 rfl (by decide) (Nat.lt_of_lt_of_le (by decide) T3764.1) rfl rfl (Nat.le_of_ble_eq_true rfl) rfl rfl ?_
            refine pm_R_lo pm_M191 (pc' := 1) rfl rfl rfl ?_
            refine pm_R_lo pm_M191 (pc' := 2) rfl rfl rfl ?_
            refine pm_R_op pm_M191 (pc' := 3) (st' := [.int 5, .int 1, .ref 41]) rfl rfl rfl ?_
            refine pm_R_lo pm_M191 (pc' := 4) rfl rfl rfl ?_
            refine pm_R_cv pm_M191 (pc' := 7) (a := 41) (ra := [.int (-1), .int 5, .int 1]) (rest := []) (ls' := [.ref 41, .int 1, .int 5, .int (-1)]) rfl rfl (Or.inl rfl) pm_M183 T3764.2.1 rfl (by decide) (Nat.lt_of_lt_of_le (by decide) T3764.1) rfl rfl (Nat.le_of_ble_eq_true rfl) rfl rfl ?_
            refine rf_c183_1_5 (d := d + 0) T3764  (fun m3770 w3771 h3772 T3773 F3774 W3775 X3776 => ?_) (fun m3779 w3780 h3781 T3782 F3783 W3784 X3785 X3786 X3787 X3788 X3789 => ?_) (fun m3792 w3793 h3794 T3795 F3796 W3797 X3798 X3799 X3800 B3801 B3802 => ?_)
            · have F3803 := F3767.trans F3774 (by decide)
              have W3804 : rf_W [10, 12, 13, 14, 16, 17, 18, 21, 22] m m3770 := W3724.trans W3775 (by decide)
              have B3805 : sf_B 0 600 (m3770 10) := T3773.2.2.1 10
              have B3806 : sf_B 0 4 (m3770 17) := T3773.2.2.1 17
              have B3807 : sf_B 0 1 (m3770 22) := T3773.2.2.1 22
              show pm_R _ 191 7 [.ref 41, .int 1, .int (-1), pm_no] [.int 0] _ _
              have R3808 : (m 10).toInt ≤ (m3770 10).toInt := (sf_aux70 _ _ _ R3727 X3776)
              refine pm_R_lo pm_M191 (pc' := 8) (ls' := [.ref 41, .int 1, .int (-1), .int 0]) (st' := []) rfl rfl rfl ?_
              refine pm_R_lo pm_M191 (pc' := 9) rfl rfl rfl ?_
              refine pm_R_lo pm_M191 (pc' := 10) rfl rfl rfl ?_
              refine pm_R_br pm_M191 (pc' := 35) (st' := [.ref 41]) rfl rfl ?_
              refine pm_R_lo pm_M191 (pc' := 36) rfl rfl rfl ?_
              have B3809 : sf_B (-1) 99 (m3770 21) := T3773.2.2.1 21
              refine rf_R_get pm_M191 T3773 (pc' := 39) (v := .int (m3770 21)) rfl rfl rfl rfl ?_
              refine rf_R_put pm_M191 T3773 (pc' := 42) rfl rfl rfl (by decide) rfl rfl B3809 rfl rfl (fun h3810 m3813 em3814 T3811 F3812 => ?_)
              have F3815 := F3803.trans F3812 (by decide)
              have B3816 : sf_B 0 600 (m3813 10) := by rw [em3814]; exact B3805
              have ek3817 : (m3813 10).toInt = ((m3770 10)).toInt := by rw [em3814]; rfl
              have B3818 : sf_B 0 4 (m3813 17) := by rw [em3814]; exact B3806
              have ek3819 : (m3813 17).toInt = ((m3770 17)).toInt := by rw [em3814]; rfl
              have B3820 : sf_B 0 1 (m3813 22) := by rw [em3814]; exact B3807
              have ek3821 : (m3813 22).toInt = ((m3770 22)).toInt := by rw [em3814]; rfl
              have B3822 : sf_B (-1) 99 (m3813 21) := by rw [em3814]; exact B3809
              have ek3823 : (m3813 21).toInt = ((m3770 21)).toInt := by rw [em3814]; rfl
              have W3824 : rf_W [10, 12, 13, 14, 16, 17, 18, 21, 22] m m3813 := by rw [em3814]; exact W3804.put (by decide)
              refine pm_R_lo pm_M191 (pc' := 43) rfl rfl rfl ?_
              refine pm_R_ret pm_M191 (r := some (.int 0)) rfl rfl ?_
              show pm_R _ 189 178 [.ref 41, .long a0, pm_no, .int a1, pm_no] [.int 0] _ _
              refine pm_R_br pm_M189 (pc' := 181) (st' := []) (pm_q189_1 (Nat.le_of_ble_eq_true rfl)) rfl ?_
              refine pm_R_op pm_M189 (pc' := 182) (st' := [.int 0]) (pm_q189_1 (Nat.le_of_ble_eq_true rfl)) rfl rfl ?_
              exact pm_R_ret pm_M189 (r := some (.int 0)) (pm_q189_1 (Nat.le_of_ble_eq_true rfl)) rfl (K0 m3813 w3771 h3810 T3811 F3815 W3824 (sf_aux39 _ _ _ ek3817 R3808))
            · have F3825 := F3767.trans F3783 (by decide)
              have W3826 : rf_W [10, 12, 13, 14, 16, 17, 18, 21, 22] m m3779 := W3724.trans W3784 (by decide)
              have B3827 : sf_B 0 600 (m3779 10) := T3782.2.2.1 10
              have B3828 : sf_B 0 4 (m3779 17) := T3782.2.2.1 17
              have B3829 : sf_B 0 1 (m3779 22) := T3782.2.2.1 22
              show pm_R _ 191 7 [.ref 41, .int 1, .int (-1), pm_no] [.int 1] _ _
              have R3830 : (m 10).toInt ≤ (m3779 10).toInt := (sf_aux70 _ _ _ R3727 X3789)
              obtain ⟨v3831, B3832, e3833⟩ := X3785 _ e3766
              refine pm_R_lo pm_M191 (pc' := 8) (ls' := [.ref 41, .int 1, .int (-1), .int 1]) (st' := []) rfl rfl rfl ?_
              refine pm_R_lo pm_M191 (pc' := 9) rfl rfl rfl ?_
              refine pm_R_lo pm_M191 (pc' := 10) rfl rfl rfl ?_
              refine pm_R_br pm_M191 (pc' := 13) (st' := [.ref 41]) rfl rfl ?_
              refine pm_R_lo pm_M191 (pc' := 14) rfl rfl rfl ?_
              refine rf_R_get pm_M191 T3782 (pc' := 17) (v := .ref 52) rfl rfl rfl rfl ?_
              refine pm_R_lo pm_M191 (pc' := 18) rfl rfl rfl ?_
              refine pm_R_iald pm_M191 (pc' := 19) (v := v3831) rfl e3833 (Nat.lt_of_lt_of_le (by decide) T3782.1) rfl sf_upd_eq rfl ?_
              refine pm_R_lo pm_M191 (pc' := 20) rfl rfl rfl ?_
              have B3836 : sf_B (-1) 99 (m3779 21) := T3782.2.2.1 21
              refine rf_R_get pm_M191 T3782 (pc' := 23) (v := .int (m3779 21)) rfl rfl rfl rfl ?_
              refine pm_R_icmp pm_M191 (t := 35) (pc' := 26) rfl rfl rfl (fun c3837 => ?_) (fun c3837 => ?_)
              · have B3838 : sf_B 0 99 (m3779 21) := sf_leR c3837 B3832 B3836
                refine pm_R_lo pm_M191 (pc' := 36) rfl rfl rfl ?_
                refine rf_R_get pm_M191 T3782 (pc' := 39) (v := .int (m3779 21)) rfl rfl rfl rfl ?_
                refine rf_R_put pm_M191 T3782 (pc' := 42) rfl rfl rfl (by decide) rfl rfl (sf_weak B3838 (by decide) (by decide)) rfl rfl (fun h3839 m3842 em3843 T3840 F3841 => ?_)
                have F3844 := F3825.trans F3841 (by decide)
                have B3845 : sf_B 0 600 (m3842 10) := by rw [em3843]; exact B3827
                have ek3846 : (m3842 10).toInt = ((m3779 10)).toInt := by rw [em3843]; rfl
                have B3847 : sf_B 0 4 (m3842 17) := by rw [em3843]; exact (sf_eqT X3786 B3722)
                have ek3848 : (m3842 17).toInt = ((m3713 17)).toInt := by rw [em3843]; exact X3786
                have B3849 : sf_B 0 1 (m3842 22) := by rw [em3843]; exact (sf_eqT X3787 B3726)
                have ek3850 : (m3842 22).toInt = ((m3713 22)).toInt := by rw [em3843]; exact X3787
                have B3851 : sf_B 0 99 (m3842 21) := by rw [em3843]; exact B3838
                have ek3852 : (m3842 21).toInt = ((m3779 21)).toInt := by rw [em3843]; rfl
                have W3853 : rf_W [10, 12, 13, 14, 16, 17, 18, 21, 22] m m3842 := by rw [em3843]; exact W3826.put (by decide)
                refine pm_R_lo pm_M191 (pc' := 43) rfl rfl rfl ?_
                refine pm_R_ret pm_M191 (r := some (.int 1)) rfl rfl ?_
                show pm_R _ 189 178 [.ref 41, .long a0, pm_no, .int a1, pm_no] [.int 1] _ _
                refine pm_R_br pm_M189 (pc' := 183) (st' := []) (pm_q189_1 (Nat.le_of_ble_eq_true rfl)) rfl ?_
                refine pm_R_lo pm_M189 (pc' := 184) (pm_q189_1 (Nat.le_of_ble_eq_true rfl)) rfl rfl ?_
                refine pm_R_ldc2 pm_M189 (pc' := 187) (pm_q189_1 (Nat.le_of_ble_eq_true rfl)) rfl rfl ?_
                refine pm_R_op pm_M189 (pc' := 188) (st' := [.int z338]) (pm_q189_1 (Nat.le_of_ble_eq_true rfl)) (by show some (Value.int (lg_cmp a0 1819242347) :: _) = _; rw [← e339]) rfl ?_
                refine pm_R_ifc pm_M189 (t := 205) (pc' := 191) (pm_q189_1 (Nat.le_of_ble_eq_true rfl)) rfl rfl (fun c3856 => ?_) (fun c3856 => absurd (Classical.not_not.mp c3856) c340)
                have k3857 := sf_lneC e339 c3856
                refine pm_R_lo pm_M189 (pc' := 206) (pm_q189_1 (Nat.le_of_ble_eq_true rfl)) rfl rfl ?_
                refine pm_R_ldc2 pm_M189 (pc' := 209) (pm_q189_1 (Nat.le_of_ble_eq_true rfl)) rfl rfl ?_
                refine pm_R_op pm_M189 (pc' := 210) (st' := [.int z3698]) (pm_q189_1 (Nat.le_of_ble_eq_true rfl)) (by show some (Value.int (lg_cmp a0 1935767923) :: _) = _; rw [← e3699]) rfl ?_
                refine pm_R_ifc pm_M189 (t := 226) (pc' := 213) (pm_q189_1 (Nat.le_of_ble_eq_true rfl)) rfl rfl (fun c3860 => absurd (sf_pt2 B3701 sf_k0) c3860) (fun c3860 => ?_)
                refine pm_R_lo pm_M189 (pc' := 214) (pm_q189_1 (Nat.le_of_ble_eq_true rfl)) rfl rfl ?_
                refine pm_R_op pm_M189 (pc' := 215) (st' := [.int 2, .ref 41]) (pm_q189_1 (Nat.le_of_ble_eq_true rfl)) rfl rfl ?_
                refine pm_R_op pm_M189 (pc' := 217) (st' := [.int 9, .int 2, .ref 41]) (pm_q189_1 (Nat.le_of_ble_eq_true rfl)) rfl rfl ?_
                refine pm_R_op pm_M189 (pc' := 218) (st' := [.int (-1), .int 9, .int 2, .ref 41]) (pm_q189_1 (Nat.le_of_ble_eq_true rfl)) rfl rfl ?_
                refine pm_R_cv pm_M189 (pc' := 221) (a := 41) (ra := [.int (-1), .int 9, .int 2]) (rest := []) (ls' := [.ref 41, .int 2, .int 9, .int (-1)]) (pm_q189_2 (Nat.le_of_ble_eq_true rfl)) rfl (Or.inl rfl) pm_M183 T3840.2.1 rfl (by decide) (Nat.lt_of_lt_of_le (by decide) T3840.1) rfl rfl (Nat.le_of_ble_eq_true rfl) rfl rfl ?_
                have e3861 := (F3841.cell (by decide) e3833)
                refine rf_c183_2_9 (d := d + 1) T3840  (fun m3864 w3865 h3866 T3867 F3868 W3869 X3870 => ?_) (fun m3873 w3874 h3875 T3876 F3877 W3878 X3879 X3880 X3881 X3882 X3883 => ?_) (fun m3886 w3887 h3888 T3889 F3890 W3891 X3892 X3893 X3894 B3895 B3896 => ?_)
                · have F3897 := F3844.trans F3868 (by decide)
                  have B3898 : sf_B 0 99 (m3864 21) := by rw [W3869 21 (by decide)]; exact B3851
                  have ek3899 : (m3864 21).toInt = ((m3779 21)).toInt := by rw [W3869 21 (by decide)]; exact ek3852
                  have W3900 : rf_W [10, 12, 13, 14, 16, 17, 18, 21, 22] m m3864 := W3853.trans W3869 (by decide)
                  have B3901 : sf_B 0 600 (m3864 10) := T3867.2.2.1 10
                  have B3902 : sf_B 0 4 (m3864 17) := T3867.2.2.1 17
                  have B3903 : sf_B 0 1 (m3864 22) := T3867.2.2.1 22
                  show pm_R _ 189 221 [.ref 41, .long a0, pm_no, .int a1, pm_no] [.int 0] _ _
                  have R3904 : (m 10).toInt ≤ (m3864 10).toInt := (sf_aux77 _ _ _ _ ek3846 R3830 X3870)
                  refine pm_R_br pm_M189 (pc' := 224) (st' := []) (pm_q189_2 (Nat.le_of_ble_eq_true rfl)) rfl ?_
                  refine pm_R_op pm_M189 (pc' := 225) (st' := [.int 0]) (pm_q189_2 (Nat.le_of_ble_eq_true rfl)) rfl rfl ?_
                  exact pm_R_ret pm_M189 (r := some (.int 0)) (pm_q189_2 (Nat.le_of_ble_eq_true rfl)) rfl (K0 m3864 w3865 h3866 T3867 F3897 W3900 (sf_aux51 _ _ R3904))
                · have F3905 := F3844.trans F3877 (by decide)
                  have B3906 : sf_B 0 99 (m3873 21) := by rw [W3878 21 (by decide)]; exact B3851
                  have ek3907 : (m3873 21).toInt = ((m3779 21)).toInt := by rw [W3878 21 (by decide)]; exact ek3852
                  have W3908 : rf_W [10, 12, 13, 14, 16, 17, 18, 21, 22] m m3873 := W3853.trans W3878 (by decide)
                  have B3909 : sf_B 0 600 (m3873 10) := T3876.2.2.1 10
                  have B3910 : sf_B 0 4 (m3873 17) := T3876.2.2.1 17
                  have B3911 : sf_B 0 1 (m3873 22) := T3876.2.2.1 22
                  show pm_R _ 189 221 [.ref 41, .long a0, pm_no, .int a1, pm_no] [.int 1] _ _
                  have R3912 : (m 10).toInt ≤ (m3873 10).toInt := (sf_aux77 _ _ _ _ ek3846 R3830 X3883)
                  obtain ⟨v3913, B3914, e3915⟩ := X3879 _ e3861
                  refine pm_R_br pm_M189 (pc' := 226) (st' := []) (pm_q189_2 (Nat.le_of_ble_eq_true rfl)) rfl ?_
                  refine pm_R_lo pm_M189 (pc' := 227) (pm_q189_2 (Nat.le_of_ble_eq_true rfl)) rfl rfl ?_
                  refine pm_R_op pm_M189 (pc' := 228) (st' := [.int 1, .ref 41]) (pm_q189_2 (Nat.le_of_ble_eq_true rfl)) rfl rfl ?_
                  refine pm_R_op pm_M189 (pc' := 229) (st' := [.int 2, .int 1, .ref 41]) (pm_q189_2 (Nat.le_of_ble_eq_true rfl)) rfl rfl ?_
                  refine pm_R_op pm_M189 (pc' := 230) (st' := [.int 3, .int 2, .int 1, .ref 41]) (pm_q189_2 (Nat.le_of_ble_eq_true rfl)) rfl rfl ?_
                  refine pm_R_op pm_M189 (pc' := 232) (st' := [.int 50, .int 3, .int 2, .int 1, .ref 41]) (pm_q189_2 (Nat.le_of_ble_eq_true rfl)) rfl rfl ?_
                  refine pm_R_op pm_M189 (pc' := 233) (st' := [.int 0, .int 50, .int 3, .int 2, .int 1, .ref 41]) (pm_q189_2 (Nat.le_of_ble_eq_true rfl)) rfl rfl ?_
                  refine pm_R_cv pm_M189 (pc' := 236) (a := 41) (ra := [.int 0, .int 50, .int 3, .int 2, .int 1]) (rest := []) (ls' := [.ref 41, .int 1, .int 2, .int 3, .int 50, .int 0, pm_no, pm_no]) (pm_q189_2 (Nat.le_of_ble_eq_true rfl)) rfl (Or.inl rfl) pm_M185 T3876.2.1 rfl (by decide) (Nat.lt_of_lt_of_le (by decide) T3876.1) rfl rfl (Nat.le_of_ble_eq_true rfl) rfl rfl ?_
                  have e3916 := (F3877.cell (by decide) (F3841.cell (by decide) (F3783.cell (by decide) (F3765.cell (by decide) (F3752.cell (by decide) (F3747.cell (by decide) (F3742.cell (by decide) (F3737.cell (by decide) (F3717.cell (by decide) e3)))))))))
                  refine rf_c185_d (d := d + 3) T3876 (⟨f2, e3916, ct4, fun z => (bd5 (sf_aux73 _ _ _ _ ek3723 ek3848 X3880 z))⟩) (fun _ g eg => by rw [e3915] at eg; cases eg; exact ⟨sf_eqL (Eq.trans (sf_upd_nec (k := Int32.toNatClampNeg 2) (j := Int32.toNatClampNeg 0) (by decide)) (Eq.trans (sf_upd_nec (k := Int32.toNatClampNeg 1) (j := Int32.toNatClampNeg 0) (by decide)) sf_upd_eq)) (sf_weak sf_k2 (by decide) (by decide)), sf_eqL (Eq.trans (sf_upd_nec (k := Int32.toNatClampNeg 2) (j := Int32.toNatClampNeg 1) (by decide)) sf_upd_eq) B3832, sf_eqL sf_upd_eq (sf_weak B3914 (by decide) (by decide))⟩) (fun m3919 w3920 h3921 T3922 F3923 W3924 X3925 => ?_)
                  have F3926 := F3905.trans F3923 (by decide)
                  have B3927 : sf_B 0 99 (m3919 21) := by rw [W3924 21 (by decide)]; exact B3906
                  have ek3928 : (m3919 21).toInt = ((m3779 21)).toInt := by rw [W3924 21 (by decide)]; exact ek3907
                  have B3929 : sf_B 0 600 (m3919 10) := by rw [W3924 10 (by decide)]; exact B3909
                  have ek3930 : (m3919 10).toInt = ((m3873 10)).toInt := by rw [W3924 10 (by decide)]
                  have B3931 : sf_B 0 4 (m3919 17) := by rw [W3924 17 (by decide)]; exact (sf_eqT X3880 B3847)
                  have ek3932 : (m3919 17).toInt = ((m3842 17)).toInt := by rw [W3924 17 (by decide)]; exact X3880
                  have B3933 : sf_B 0 1 (m3919 22) := by rw [W3924 22 (by decide)]; exact (sf_eqT X3881 B3849)
                  have ek3934 : (m3919 22).toInt = ((m3842 22)).toInt := by rw [W3924 22 (by decide)]; exact X3881
                  have W3935 : rf_W [10, 12, 13, 14, 16, 17, 18, 21, 22] m m3919 := W3908.trans W3924 (by decide)
                  show pm_R _ 189 236 [.ref 41, .long a0, pm_no, .int a1, pm_no] [] _ _
                  obtain ⟨f3936, e3937, ct3938, bd3939⟩ := X3925
                  refine pm_R_op pm_M189 (pc' := 237) (st' := [.int 1]) (pm_q189_2 (Nat.le_of_ble_eq_true rfl)) rfl rfl ?_
                  exact pm_R_ret pm_M189 (r := some (.int 1)) (pm_q189_2 (Nat.le_of_ble_eq_true rfl)) rfl (K1 m3919 w3920 h3921 T3922 F3926 W3935 (⟨f3936, e3937, ct3938, fun z => (bd3939 z)⟩) (sf_aux39 _ _ _ ek3930 R3912))
                · have F3940 := F3844.trans F3890 (by decide)
                  have B3941 : sf_B 0 99 (m3886 21) := by rw [W3891 21 (by decide)]; exact B3851
                  have ek3942 : (m3886 21).toInt = ((m3779 21)).toInt := by rw [W3891 21 (by decide)]; exact ek3852
                  have W3943 : rf_W [10, 12, 13, 14, 16, 17, 18, 21, 22] m m3886 := W3853.trans W3891 (by decide)
                  have B3944 : sf_B 0 600 (m3886 10) := T3889.2.2.1 10
                  have B3945 : sf_B 0 4 (m3886 17) := T3889.2.2.1 17
                  have B3946 : sf_B 0 1 (m3886 22) := T3889.2.2.1 22
                  show pm_R _ 189 221 [.ref 41, .long a0, pm_no, .int a1, pm_no] [.int 1] _ _
                  have R3947 : (m 10).toInt ≤ (m3886 10).toInt := (sf_aux77 _ _ _ _ ek3846 R3830 X3894)
                  obtain ⟨v3948, B3949, e3950⟩ := X3892 _ e3861
                  refine pm_R_br pm_M189 (pc' := 226) (st' := []) (pm_q189_2 (Nat.le_of_ble_eq_true rfl)) rfl ?_
                  refine pm_R_lo pm_M189 (pc' := 227) (pm_q189_2 (Nat.le_of_ble_eq_true rfl)) rfl rfl ?_
                  refine pm_R_op pm_M189 (pc' := 228) (st' := [.int 1, .ref 41]) (pm_q189_2 (Nat.le_of_ble_eq_true rfl)) rfl rfl ?_
                  refine pm_R_op pm_M189 (pc' := 229) (st' := [.int 2, .int 1, .ref 41]) (pm_q189_2 (Nat.le_of_ble_eq_true rfl)) rfl rfl ?_
                  refine pm_R_op pm_M189 (pc' := 230) (st' := [.int 3, .int 2, .int 1, .ref 41]) (pm_q189_2 (Nat.le_of_ble_eq_true rfl)) rfl rfl ?_
                  refine pm_R_op pm_M189 (pc' := 232) (st' := [.int 50, .int 3, .int 2, .int 1, .ref 41]) (pm_q189_2 (Nat.le_of_ble_eq_true rfl)) rfl rfl ?_
                  refine pm_R_op pm_M189 (pc' := 233) (st' := [.int 0, .int 50, .int 3, .int 2, .int 1, .ref 41]) (pm_q189_2 (Nat.le_of_ble_eq_true rfl)) rfl rfl ?_
                  refine pm_R_cv pm_M189 (pc' := 236) (a := 41) (ra := [.int 0, .int 50, .int 3, .int 2, .int 1]) (rest := []) (ls' := [.ref 41, .int 1, .int 2, .int 3, .int 50, .int 0, pm_no, pm_no]) (pm_q189_2 (Nat.le_of_ble_eq_true rfl)) rfl (Or.inl rfl) pm_M185 T3889.2.1 rfl (by decide) (Nat.lt_of_lt_of_le (by decide) T3889.1) rfl rfl (Nat.le_of_ble_eq_true rfl) rfl rfl ?_
                  have e3951 := (F3890.cell (by decide) (F3841.cell (by decide) (F3783.cell (by decide) (F3765.cell (by decide) (F3752.cell (by decide) (F3747.cell (by decide) (F3742.cell (by decide) (F3737.cell (by decide) (F3717.cell (by decide) e3)))))))))
                  refine rf_c185_d (d := d + 3) T3889 (⟨f2, e3951, ct4, fun z => (sf_pos B3895 (by decide) z)⟩) (fun z => sf_pos B3895 (by decide) z) (fun m3954 w3955 h3956 T3957 F3958 W3959 X3960 => ?_)
                  have F3961 := F3940.trans F3958 (by decide)
                  have B3962 : sf_B 0 99 (m3954 21) := by rw [W3959 21 (by decide)]; exact B3941
                  have ek3963 : (m3954 21).toInt = ((m3779 21)).toInt := by rw [W3959 21 (by decide)]; exact ek3942
                  have B3964 : sf_B 0 600 (m3954 10) := by rw [W3959 10 (by decide)]; exact B3944
                  have ek3965 : (m3954 10).toInt = ((m3886 10)).toInt := by rw [W3959 10 (by decide)]
                  have B3966 : sf_B 1 4 (m3954 17) := by rw [W3959 17 (by decide)]; exact B3895
                  have ek3967 : (m3954 17).toInt = ((m3886 17)).toInt := by rw [W3959 17 (by decide)]
                  have B3968 : sf_B 0 0 (m3954 22) := by rw [W3959 22 (by decide)]; exact B3896
                  have ek3969 : (m3954 22).toInt = ((m3886 22)).toInt := by rw [W3959 22 (by decide)]
                  have W3970 : rf_W [10, 12, 13, 14, 16, 17, 18, 21, 22] m m3954 := W3943.trans W3959 (by decide)
                  show pm_R _ 189 236 [.ref 41, .long a0, pm_no, .int a1, pm_no] [] _ _
                  obtain ⟨f3971, e3972, ct3973, bd3974⟩ := X3960
                  refine pm_R_op pm_M189 (pc' := 237) (st' := [.int 1]) (pm_q189_2 (Nat.le_of_ble_eq_true rfl)) rfl rfl ?_
                  exact pm_R_ret pm_M189 (r := some (.int 1)) (pm_q189_2 (Nat.le_of_ble_eq_true rfl)) rfl (K1 m3954 w3955 h3956 T3957 F3961 W3970 (⟨f3971, e3972, ct3973, fun z => (sf_pos B3966 (by decide) z)⟩) (sf_aux39 _ _ _ ek3965 R3947))
              · have B3975 : sf_B (-1) 4 (m3779 21) := sf_ltL (Int32.not_le.mp c3837) B3836 B3832
                refine pm_R_lo pm_M191 (pc' := 27) rfl rfl rfl ?_
                refine rf_R_get pm_M191 T3782 (pc' := 30) (v := .ref 52) rfl rfl rfl rfl ?_
                refine pm_R_lo pm_M191 (pc' := 31) rfl rfl rfl ?_
                refine pm_R_iald pm_M191 (pc' := 32) (v := v3831) rfl e3833 (Nat.lt_of_lt_of_le (by decide) T3782.1) rfl sf_upd_eq rfl ?_
                refine pm_R_br pm_M191 (pc' := 39) rfl rfl ?_
                refine rf_R_put pm_M191 T3782 (pc' := 42) rfl rfl rfl (by decide) rfl rfl (sf_weak B3832 (by decide) (by decide)) rfl rfl (fun h3978 m3981 em3982 T3979 F3980 => ?_)
                have F3983 := F3825.trans F3980 (by decide)
                have B3984 : sf_B 0 600 (m3981 10) := by rw [em3982]; exact B3827
                have ek3985 : (m3981 10).toInt = ((m3779 10)).toInt := by rw [em3982]; rfl
                have B3986 : sf_B 0 4 (m3981 17) := by rw [em3982]; exact (sf_eqT X3786 B3722)
                have ek3987 : (m3981 17).toInt = ((m3713 17)).toInt := by rw [em3982]; exact X3786
                have B3988 : sf_B 0 1 (m3981 22) := by rw [em3982]; exact (sf_eqT X3787 B3726)
                have ek3989 : (m3981 22).toInt = ((m3713 22)).toInt := by rw [em3982]; exact X3787
                have B3990 : sf_B 0 5 (m3981 21) := by rw [em3982]; exact B3832
                have ek3991 : (m3981 21).toInt = (v3831).toInt := by rw [em3982]; rfl
                have W3992 : rf_W [10, 12, 13, 14, 16, 17, 18, 21, 22] m m3981 := by rw [em3982]; exact W3826.put (by decide)
                refine pm_R_lo pm_M191 (pc' := 43) rfl rfl rfl ?_
                refine pm_R_ret pm_M191 (r := some (.int 1)) rfl rfl ?_
                show pm_R _ 189 178 [.ref 41, .long a0, pm_no, .int a1, pm_no] [.int 1] _ _
                refine pm_R_br pm_M189 (pc' := 183) (st' := []) (pm_q189_1 (Nat.le_of_ble_eq_true rfl)) rfl ?_
                refine pm_R_lo pm_M189 (pc' := 184) (pm_q189_1 (Nat.le_of_ble_eq_true rfl)) rfl rfl ?_
                refine pm_R_ldc2 pm_M189 (pc' := 187) (pm_q189_1 (Nat.le_of_ble_eq_true rfl)) rfl rfl ?_
                refine pm_R_op pm_M189 (pc' := 188) (st' := [.int z338]) (pm_q189_1 (Nat.le_of_ble_eq_true rfl)) (by show some (Value.int (lg_cmp a0 1819242347) :: _) = _; rw [← e339]) rfl ?_
                refine pm_R_ifc pm_M189 (t := 205) (pc' := 191) (pm_q189_1 (Nat.le_of_ble_eq_true rfl)) rfl rfl (fun c3995 => ?_) (fun c3995 => absurd (Classical.not_not.mp c3995) c340)
                have k3996 := sf_lneC e339 c3995
                refine pm_R_lo pm_M189 (pc' := 206) (pm_q189_1 (Nat.le_of_ble_eq_true rfl)) rfl rfl ?_
                refine pm_R_ldc2 pm_M189 (pc' := 209) (pm_q189_1 (Nat.le_of_ble_eq_true rfl)) rfl rfl ?_
                refine pm_R_op pm_M189 (pc' := 210) (st' := [.int z3698]) (pm_q189_1 (Nat.le_of_ble_eq_true rfl)) (by show some (Value.int (lg_cmp a0 1935767923) :: _) = _; rw [← e3699]) rfl ?_
                refine pm_R_ifc pm_M189 (t := 226) (pc' := 213) (pm_q189_1 (Nat.le_of_ble_eq_true rfl)) rfl rfl (fun c3999 => absurd (sf_pt2 B3701 sf_k0) c3999) (fun c3999 => ?_)
                refine pm_R_lo pm_M189 (pc' := 214) (pm_q189_1 (Nat.le_of_ble_eq_true rfl)) rfl rfl ?_
                refine pm_R_op pm_M189 (pc' := 215) (st' := [.int 2, .ref 41]) (pm_q189_1 (Nat.le_of_ble_eq_true rfl)) rfl rfl ?_
                refine pm_R_op pm_M189 (pc' := 217) (st' := [.int 9, .int 2, .ref 41]) (pm_q189_1 (Nat.le_of_ble_eq_true rfl)) rfl rfl ?_
                refine pm_R_op pm_M189 (pc' := 218) (st' := [.int (-1), .int 9, .int 2, .ref 41]) (pm_q189_1 (Nat.le_of_ble_eq_true rfl)) rfl rfl ?_
                refine pm_R_cv pm_M189 (pc' := 221) (a := 41) (ra := [.int (-1), .int 9, .int 2]) (rest := []) (ls' := [.ref 41, .int 2, .int 9, .int (-1)]) (pm_q189_2 (Nat.le_of_ble_eq_true rfl)) rfl (Or.inl rfl) pm_M183 T3979.2.1 rfl (by decide) (Nat.lt_of_lt_of_le (by decide) T3979.1) rfl rfl (Nat.le_of_ble_eq_true rfl) rfl rfl ?_
                have e4000 := (F3980.cell (by decide) e3833)
                refine rf_c183_2_9 (d := d + 1) T3979  (fun m4003 w4004 h4005 T4006 F4007 W4008 X4009 => ?_) (fun m4012 w4013 h4014 T4015 F4016 W4017 X4018 X4019 X4020 X4021 X4022 => ?_) (fun m4025 w4026 h4027 T4028 F4029 W4030 X4031 X4032 X4033 B4034 B4035 => ?_)
                · have F4036 := F3983.trans F4007 (by decide)
                  have B4037 : sf_B 0 5 (m4003 21) := by rw [W4008 21 (by decide)]; exact B3990
                  have ek4038 : (m4003 21).toInt = (v3831).toInt := by rw [W4008 21 (by decide)]; exact ek3991
                  have W4039 : rf_W [10, 12, 13, 14, 16, 17, 18, 21, 22] m m4003 := W3992.trans W4008 (by decide)
                  have B4040 : sf_B 0 600 (m4003 10) := T4006.2.2.1 10
                  have B4041 : sf_B 0 4 (m4003 17) := T4006.2.2.1 17
                  have B4042 : sf_B 0 1 (m4003 22) := T4006.2.2.1 22
                  show pm_R _ 189 221 [.ref 41, .long a0, pm_no, .int a1, pm_no] [.int 0] _ _
                  have R4043 : (m 10).toInt ≤ (m4003 10).toInt := (sf_aux77 _ _ _ _ ek3985 R3830 X4009)
                  refine pm_R_br pm_M189 (pc' := 224) (st' := []) (pm_q189_2 (Nat.le_of_ble_eq_true rfl)) rfl ?_
                  refine pm_R_op pm_M189 (pc' := 225) (st' := [.int 0]) (pm_q189_2 (Nat.le_of_ble_eq_true rfl)) rfl rfl ?_
                  exact pm_R_ret pm_M189 (r := some (.int 0)) (pm_q189_2 (Nat.le_of_ble_eq_true rfl)) rfl (K0 m4003 w4004 h4005 T4006 F4036 W4039 (sf_aux51 _ _ R4043))
                · have F4044 := F3983.trans F4016 (by decide)
                  have B4045 : sf_B 0 5 (m4012 21) := by rw [W4017 21 (by decide)]; exact B3990
                  have ek4046 : (m4012 21).toInt = (v3831).toInt := by rw [W4017 21 (by decide)]; exact ek3991
                  have W4047 : rf_W [10, 12, 13, 14, 16, 17, 18, 21, 22] m m4012 := W3992.trans W4017 (by decide)
                  have B4048 : sf_B 0 600 (m4012 10) := T4015.2.2.1 10
                  have B4049 : sf_B 0 4 (m4012 17) := T4015.2.2.1 17
                  have B4050 : sf_B 0 1 (m4012 22) := T4015.2.2.1 22
                  show pm_R _ 189 221 [.ref 41, .long a0, pm_no, .int a1, pm_no] [.int 1] _ _
                  have R4051 : (m 10).toInt ≤ (m4012 10).toInt := (sf_aux77 _ _ _ _ ek3985 R3830 X4022)
                  obtain ⟨v4052, B4053, e4054⟩ := X4018 _ e4000
                  refine pm_R_br pm_M189 (pc' := 226) (st' := []) (pm_q189_2 (Nat.le_of_ble_eq_true rfl)) rfl ?_
                  refine pm_R_lo pm_M189 (pc' := 227) (pm_q189_2 (Nat.le_of_ble_eq_true rfl)) rfl rfl ?_
                  refine pm_R_op pm_M189 (pc' := 228) (st' := [.int 1, .ref 41]) (pm_q189_2 (Nat.le_of_ble_eq_true rfl)) rfl rfl ?_
                  refine pm_R_op pm_M189 (pc' := 229) (st' := [.int 2, .int 1, .ref 41]) (pm_q189_2 (Nat.le_of_ble_eq_true rfl)) rfl rfl ?_
                  refine pm_R_op pm_M189 (pc' := 230) (st' := [.int 3, .int 2, .int 1, .ref 41]) (pm_q189_2 (Nat.le_of_ble_eq_true rfl)) rfl rfl ?_
                  refine pm_R_op pm_M189 (pc' := 232) (st' := [.int 50, .int 3, .int 2, .int 1, .ref 41]) (pm_q189_2 (Nat.le_of_ble_eq_true rfl)) rfl rfl ?_
                  refine pm_R_op pm_M189 (pc' := 233) (st' := [.int 0, .int 50, .int 3, .int 2, .int 1, .ref 41]) (pm_q189_2 (Nat.le_of_ble_eq_true rfl)) rfl rfl ?_
                  refine pm_R_cv pm_M189 (pc' := 236) (a := 41) (ra := [.int 0, .int 50, .int 3, .int 2, .int 1]) (rest := []) (ls' := [.ref 41, .int 1, .int 2, .int 3, .int 50, .int 0, pm_no, pm_no]) (pm_q189_2 (Nat.le_of_ble_eq_true rfl)) rfl (Or.inl rfl) pm_M185 T4015.2.1 rfl (by decide) (Nat.lt_of_lt_of_le (by decide) T4015.1) rfl rfl (Nat.le_of_ble_eq_true rfl) rfl rfl ?_
                  have e4055 := (F4016.cell (by decide) (F3980.cell (by decide) (F3783.cell (by decide) (F3765.cell (by decide) (F3752.cell (by decide) (F3747.cell (by decide) (F3742.cell (by decide) (F3737.cell (by decide) (F3717.cell (by decide) e3)))))))))
                  refine rf_c185_d (d := d + 3) T4015 (⟨f2, e4055, ct4, fun z => (bd5 (sf_aux73 _ _ _ _ ek3723 ek3987 X4019 z))⟩) (fun _ g eg => by rw [e4054] at eg; cases eg; exact ⟨sf_eqL (Eq.trans (sf_upd_nec (k := Int32.toNatClampNeg 2) (j := Int32.toNatClampNeg 0) (by decide)) (Eq.trans (sf_upd_nec (k := Int32.toNatClampNeg 1) (j := Int32.toNatClampNeg 0) (by decide)) sf_upd_eq)) (sf_weak sf_k2 (by decide) (by decide)), sf_eqL (Eq.trans (sf_upd_nec (k := Int32.toNatClampNeg 2) (j := Int32.toNatClampNeg 1) (by decide)) sf_upd_eq) B3832, sf_eqL sf_upd_eq (sf_weak B4053 (by decide) (by decide))⟩) (fun m4058 w4059 h4060 T4061 F4062 W4063 X4064 => ?_)
                  have F4065 := F4044.trans F4062 (by decide)
                  have B4066 : sf_B 0 5 (m4058 21) := by rw [W4063 21 (by decide)]; exact B4045
                  have ek4067 : (m4058 21).toInt = (v3831).toInt := by rw [W4063 21 (by decide)]; exact ek4046
                  have B4068 : sf_B 0 600 (m4058 10) := by rw [W4063 10 (by decide)]; exact B4048
                  have ek4069 : (m4058 10).toInt = ((m4012 10)).toInt := by rw [W4063 10 (by decide)]
                  have B4070 : sf_B 0 4 (m4058 17) := by rw [W4063 17 (by decide)]; exact (sf_eqT X4019 B3986)
                  have ek4071 : (m4058 17).toInt = ((m3981 17)).toInt := by rw [W4063 17 (by decide)]; exact X4019
                  have B4072 : sf_B 0 1 (m4058 22) := by rw [W4063 22 (by decide)]; exact (sf_eqT X4020 B3988)
                  have ek4073 : (m4058 22).toInt = ((m3981 22)).toInt := by rw [W4063 22 (by decide)]; exact X4020
                  have W4074 : rf_W [10, 12, 13, 14, 16, 17, 18, 21, 22] m m4058 := W4047.trans W4063 (by decide)
                  show pm_R _ 189 236 [.ref 41, .long a0, pm_no, .int a1, pm_no] [] _ _
                  obtain ⟨f4075, e4076, ct4077, bd4078⟩ := X4064
                  refine pm_R_op pm_M189 (pc' := 237) (st' := [.int 1]) (pm_q189_2 (Nat.le_of_ble_eq_true rfl)) rfl rfl ?_
                  exact pm_R_ret pm_M189 (r := some (.int 1)) (pm_q189_2 (Nat.le_of_ble_eq_true rfl)) rfl (K1 m4058 w4059 h4060 T4061 F4065 W4074 (⟨f4075, e4076, ct4077, fun z => (bd4078 z)⟩) (sf_aux39 _ _ _ ek4069 R4051))
                · have F4079 := F3983.trans F4029 (by decide)
                  have B4080 : sf_B 0 5 (m4025 21) := by rw [W4030 21 (by decide)]; exact B3990
                  have ek4081 : (m4025 21).toInt = (v3831).toInt := by rw [W4030 21 (by decide)]; exact ek3991
                  have W4082 : rf_W [10, 12, 13, 14, 16, 17, 18, 21, 22] m m4025 := W3992.trans W4030 (by decide)
                  have B4083 : sf_B 0 600 (m4025 10) := T4028.2.2.1 10
                  have B4084 : sf_B 0 4 (m4025 17) := T4028.2.2.1 17
                  have B4085 : sf_B 0 1 (m4025 22) := T4028.2.2.1 22
                  show pm_R _ 189 221 [.ref 41, .long a0, pm_no, .int a1, pm_no] [.int 1] _ _
                  have R4086 : (m 10).toInt ≤ (m4025 10).toInt := (sf_aux77 _ _ _ _ ek3985 R3830 X4033)
                  obtain ⟨v4087, B4088, e4089⟩ := X4031 _ e4000
                  refine pm_R_br pm_M189 (pc' := 226) (st' := []) (pm_q189_2 (Nat.le_of_ble_eq_true rfl)) rfl ?_
                  refine pm_R_lo pm_M189 (pc' := 227) (pm_q189_2 (Nat.le_of_ble_eq_true rfl)) rfl rfl ?_
                  refine pm_R_op pm_M189 (pc' := 228) (st' := [.int 1, .ref 41]) (pm_q189_2 (Nat.le_of_ble_eq_true rfl)) rfl rfl ?_
                  refine pm_R_op pm_M189 (pc' := 229) (st' := [.int 2, .int 1, .ref 41]) (pm_q189_2 (Nat.le_of_ble_eq_true rfl)) rfl rfl ?_
                  refine pm_R_op pm_M189 (pc' := 230) (st' := [.int 3, .int 2, .int 1, .ref 41]) (pm_q189_2 (Nat.le_of_ble_eq_true rfl)) rfl rfl ?_
                  refine pm_R_op pm_M189 (pc' := 232) (st' := [.int 50, .int 3, .int 2, .int 1, .ref 41]) (pm_q189_2 (Nat.le_of_ble_eq_true rfl)) rfl rfl ?_
                  refine pm_R_op pm_M189 (pc' := 233) (st' := [.int 0, .int 50, .int 3, .int 2, .int 1, .ref 41]) (pm_q189_2 (Nat.le_of_ble_eq_true rfl)) rfl rfl ?_
                  refine pm_R_cv pm_M189 (pc' := 236) (a := 41) (ra := [.int 0, .int 50, .int 3, .int 2, .int 1]) (rest := []) (ls' := [.ref 41, .int 1, .int 2, .int 3, .int 50, .int 0, pm_no, pm_no]) (pm_q189_2 (Nat.le_of_ble_eq_true rfl)) rfl (Or.inl rfl) pm_M185 T4028.2.1 rfl (by decide) (Nat.lt_of_lt_of_le (by decide) T4028.1) rfl rfl (Nat.le_of_ble_eq_true rfl) rfl rfl ?_
                  have e4090 := (F4029.cell (by decide) (F3980.cell (by decide) (F3783.cell (by decide) (F3765.cell (by decide) (F3752.cell (by decide) (F3747.cell (by decide) (F3742.cell (by decide) (F3737.cell (by decide) (F3717.cell (by decide) e3)))))))))
                  refine rf_c185_d (d := d + 3) T4028 (⟨f2, e4090, ct4, fun z => (sf_pos B4034 (by decide) z)⟩) (fun z => sf_pos B4034 (by decide) z) (fun m4093 w4094 h4095 T4096 F4097 W4098 X4099 => ?_)
                  have F4100 := F4079.trans F4097 (by decide)
                  have B4101 : sf_B 0 5 (m4093 21) := by rw [W4098 21 (by decide)]; exact B4080
                  have ek4102 : (m4093 21).toInt = (v3831).toInt := by rw [W4098 21 (by decide)]; exact ek4081
                  have B4103 : sf_B 0 600 (m4093 10) := by rw [W4098 10 (by decide)]; exact B4083
                  have ek4104 : (m4093 10).toInt = ((m4025 10)).toInt := by rw [W4098 10 (by decide)]
                  have B4105 : sf_B 1 4 (m4093 17) := by rw [W4098 17 (by decide)]; exact B4034
                  have ek4106 : (m4093 17).toInt = ((m4025 17)).toInt := by rw [W4098 17 (by decide)]
                  have B4107 : sf_B 0 0 (m4093 22) := by rw [W4098 22 (by decide)]; exact B4035
                  have ek4108 : (m4093 22).toInt = ((m4025 22)).toInt := by rw [W4098 22 (by decide)]
                  have W4109 : rf_W [10, 12, 13, 14, 16, 17, 18, 21, 22] m m4093 := W4082.trans W4098 (by decide)
                  show pm_R _ 189 236 [.ref 41, .long a0, pm_no, .int a1, pm_no] [] _ _
                  obtain ⟨f4110, e4111, ct4112, bd4113⟩ := X4099
                  refine pm_R_op pm_M189 (pc' := 237) (st' := [.int 1]) (pm_q189_2 (Nat.le_of_ble_eq_true rfl)) rfl rfl ?_
                  exact pm_R_ret pm_M189 (r := some (.int 1)) (pm_q189_2 (Nat.le_of_ble_eq_true rfl)) rfl (K1 m4093 w4094 h4095 T4096 F4100 W4109 (⟨f4110, e4111, ct4112, fun z => (sf_pos B4105 (by decide) z)⟩) (sf_aux39 _ _ _ ek4104 R4086))
            · have F4114 := F3767.trans F3796 (by decide)
              have W4115 : rf_W [10, 12, 13, 14, 16, 17, 18, 21, 22] m m3792 := W3724.trans W3797 (by decide)
              have B4116 : sf_B 0 600 (m3792 10) := T3795.2.2.1 10
              have B4117 : sf_B 0 4 (m3792 17) := T3795.2.2.1 17
              have B4118 : sf_B 0 1 (m3792 22) := T3795.2.2.1 22
              show pm_R _ 191 7 [.ref 41, .int 1, .int (-1), pm_no] [.int 1] _ _
              have R4119 : (m 10).toInt ≤ (m3792 10).toInt := (sf_aux70 _ _ _ R3727 X3800)
              obtain ⟨v4120, B4121, e4122⟩ := X3798 _ e3766
              refine pm_R_lo pm_M191 (pc' := 8) (ls' := [.ref 41, .int 1, .int (-1), .int 1]) (st' := []) rfl rfl rfl ?_
              refine pm_R_lo pm_M191 (pc' := 9) rfl rfl rfl ?_
              refine pm_R_lo pm_M191 (pc' := 10) rfl rfl rfl ?_
              refine pm_R_br pm_M191 (pc' := 13) (st' := [.ref 41]) rfl rfl ?_
              refine pm_R_lo pm_M191 (pc' := 14) rfl rfl rfl ?_
              refine rf_R_get pm_M191 T3795 (pc' := 17) (v := .ref 52) rfl rfl rfl rfl ?_
              refine pm_R_lo pm_M191 (pc' := 18) rfl rfl rfl ?_
              refine pm_R_iald pm_M191 (pc' := 19) (v := v4120) rfl e4122 (Nat.lt_of_lt_of_le (by decide) T3795.1) rfl sf_upd_eq rfl ?_
              refine pm_R_lo pm_M191 (pc' := 20) rfl rfl rfl ?_
              have B4125 : sf_B (-1) 99 (m3792 21) := T3795.2.2.1 21
              refine rf_R_get pm_M191 T3795 (pc' := 23) (v := .int (m3792 21)) rfl rfl rfl rfl ?_
              refine pm_R_icmp pm_M191 (t := 35) (pc' := 26) rfl rfl rfl (fun c4126 => ?_) (fun c4126 => ?_)
              · have B4127 : sf_B 0 99 (m3792 21) := sf_leR c4126 B4121 B4125
                refine pm_R_lo pm_M191 (pc' := 36) rfl rfl rfl ?_
                refine rf_R_get pm_M191 T3795 (pc' := 39) (v := .int (m3792 21)) rfl rfl rfl rfl ?_
                refine rf_R_put pm_M191 T3795 (pc' := 42) rfl rfl rfl (by decide) rfl rfl (sf_weak B4127 (by decide) (by decide)) rfl rfl (fun h4128 m4131 em4132 T4129 F4130 => ?_)
                have F4133 := F4114.trans F4130 (by decide)
                have B4134 : sf_B 0 600 (m4131 10) := by rw [em4132]; exact B4116
                have ek4135 : (m4131 10).toInt = ((m3792 10)).toInt := by rw [em4132]; rfl
                have B4136 : sf_B 1 4 (m4131 17) := by rw [em4132]; exact B3801
                have ek4137 : (m4131 17).toInt = ((m3792 17)).toInt := by rw [em4132]; rfl
                have B4138 : sf_B 0 0 (m4131 22) := by rw [em4132]; exact B3802
                have ek4139 : (m4131 22).toInt = ((m3792 22)).toInt := by rw [em4132]; rfl
                have B4140 : sf_B 0 99 (m4131 21) := by rw [em4132]; exact B4127
                have ek4141 : (m4131 21).toInt = ((m3792 21)).toInt := by rw [em4132]; rfl
                have W4142 : rf_W [10, 12, 13, 14, 16, 17, 18, 21, 22] m m4131 := by rw [em4132]; exact W4115.put (by decide)
                refine pm_R_lo pm_M191 (pc' := 43) rfl rfl rfl ?_
                refine pm_R_ret pm_M191 (r := some (.int 1)) rfl rfl ?_
                show pm_R _ 189 178 [.ref 41, .long a0, pm_no, .int a1, pm_no] [.int 1] _ _
                refine pm_R_br pm_M189 (pc' := 183) (st' := []) (pm_q189_1 (Nat.le_of_ble_eq_true rfl)) rfl ?_
                refine pm_R_lo pm_M189 (pc' := 184) (pm_q189_1 (Nat.le_of_ble_eq_true rfl)) rfl rfl ?_
                refine pm_R_ldc2 pm_M189 (pc' := 187) (pm_q189_1 (Nat.le_of_ble_eq_true rfl)) rfl rfl ?_
                refine pm_R_op pm_M189 (pc' := 188) (st' := [.int z338]) (pm_q189_1 (Nat.le_of_ble_eq_true rfl)) (by show some (Value.int (lg_cmp a0 1819242347) :: _) = _; rw [← e339]) rfl ?_
                refine pm_R_ifc pm_M189 (t := 205) (pc' := 191) (pm_q189_1 (Nat.le_of_ble_eq_true rfl)) rfl rfl (fun c4145 => ?_) (fun c4145 => absurd (Classical.not_not.mp c4145) c340)
                have k4146 := sf_lneC e339 c4145
                refine pm_R_lo pm_M189 (pc' := 206) (pm_q189_1 (Nat.le_of_ble_eq_true rfl)) rfl rfl ?_
                refine pm_R_ldc2 pm_M189 (pc' := 209) (pm_q189_1 (Nat.le_of_ble_eq_true rfl)) rfl rfl ?_
                refine pm_R_op pm_M189 (pc' := 210) (st' := [.int z3698]) (pm_q189_1 (Nat.le_of_ble_eq_true rfl)) (by show some (Value.int (lg_cmp a0 1935767923) :: _) = _; rw [← e3699]) rfl ?_
                refine pm_R_ifc pm_M189 (t := 226) (pc' := 213) (pm_q189_1 (Nat.le_of_ble_eq_true rfl)) rfl rfl (fun c4149 => absurd (sf_pt2 B3701 sf_k0) c4149) (fun c4149 => ?_)
                refine pm_R_lo pm_M189 (pc' := 214) (pm_q189_1 (Nat.le_of_ble_eq_true rfl)) rfl rfl ?_
                refine pm_R_op pm_M189 (pc' := 215) (st' := [.int 2, .ref 41]) (pm_q189_1 (Nat.le_of_ble_eq_true rfl)) rfl rfl ?_
                refine pm_R_op pm_M189 (pc' := 217) (st' := [.int 9, .int 2, .ref 41]) (pm_q189_1 (Nat.le_of_ble_eq_true rfl)) rfl rfl ?_
                refine pm_R_op pm_M189 (pc' := 218) (st' := [.int (-1), .int 9, .int 2, .ref 41]) (pm_q189_1 (Nat.le_of_ble_eq_true rfl)) rfl rfl ?_
                refine pm_R_cv pm_M189 (pc' := 221) (a := 41) (ra := [.int (-1), .int 9, .int 2]) (rest := []) (ls' := [.ref 41, .int 2, .int 9, .int (-1)]) (pm_q189_2 (Nat.le_of_ble_eq_true rfl)) rfl (Or.inl rfl) pm_M183 T4129.2.1 rfl (by decide) (Nat.lt_of_lt_of_le (by decide) T4129.1) rfl rfl (Nat.le_of_ble_eq_true rfl) rfl rfl ?_
                have e4150 := (F4130.cell (by decide) e4122)
                refine rf_c183_2_9 (d := d + 1) T4129  (fun m4153 w4154 h4155 T4156 F4157 W4158 X4159 => ?_) (fun m4162 w4163 h4164 T4165 F4166 W4167 X4168 X4169 X4170 X4171 X4172 => ?_) (fun m4175 w4176 h4177 T4178 F4179 W4180 X4181 X4182 X4183 B4184 B4185 => ?_)
                · have F4186 := F4133.trans F4157 (by decide)
                  have B4187 : sf_B 0 99 (m4153 21) := by rw [W4158 21 (by decide)]; exact B4140
                  have ek4188 : (m4153 21).toInt = ((m3792 21)).toInt := by rw [W4158 21 (by decide)]; exact ek4141
                  have W4189 : rf_W [10, 12, 13, 14, 16, 17, 18, 21, 22] m m4153 := W4142.trans W4158 (by decide)
                  have B4190 : sf_B 0 600 (m4153 10) := T4156.2.2.1 10
                  have B4191 : sf_B 0 4 (m4153 17) := T4156.2.2.1 17
                  have B4192 : sf_B 0 1 (m4153 22) := T4156.2.2.1 22
                  show pm_R _ 189 221 [.ref 41, .long a0, pm_no, .int a1, pm_no] [.int 0] _ _
                  have R4193 : (m 10).toInt ≤ (m4153 10).toInt := (sf_aux77 _ _ _ _ ek4135 R4119 X4159)
                  refine pm_R_br pm_M189 (pc' := 224) (st' := []) (pm_q189_2 (Nat.le_of_ble_eq_true rfl)) rfl ?_
                  refine pm_R_op pm_M189 (pc' := 225) (st' := [.int 0]) (pm_q189_2 (Nat.le_of_ble_eq_true rfl)) rfl rfl ?_
                  exact pm_R_ret pm_M189 (r := some (.int 0)) (pm_q189_2 (Nat.le_of_ble_eq_true rfl)) rfl (K0 m4153 w4154 h4155 T4156 F4186 W4189 (sf_aux51 _ _ R4193))
                · have F4194 := F4133.trans F4166 (by decide)
                  have B4195 : sf_B 0 99 (m4162 21) := by rw [W4167 21 (by decide)]; exact B4140
                  have ek4196 : (m4162 21).toInt = ((m3792 21)).toInt := by rw [W4167 21 (by decide)]; exact ek4141
                  have W4197 : rf_W [10, 12, 13, 14, 16, 17, 18, 21, 22] m m4162 := W4142.trans W4167 (by decide)
                  have B4198 : sf_B 0 600 (m4162 10) := T4165.2.2.1 10
                  have B4199 : sf_B 0 4 (m4162 17) := T4165.2.2.1 17
                  have B4200 : sf_B 0 1 (m4162 22) := T4165.2.2.1 22
                  show pm_R _ 189 221 [.ref 41, .long a0, pm_no, .int a1, pm_no] [.int 1] _ _
                  have R4201 : (m 10).toInt ≤ (m4162 10).toInt := (sf_aux77 _ _ _ _ ek4135 R4119 X4172)
                  obtain ⟨v4202, B4203, e4204⟩ := X4168 _ e4150
                  refine pm_R_br pm_M189 (pc' := 226) (st' := []) (pm_q189_2 (Nat.le_of_ble_eq_true rfl)) rfl ?_
                  refine pm_R_lo pm_M189 (pc' := 227) (pm_q189_2 (Nat.le_of_ble_eq_true rfl)) rfl rfl ?_
                  refine pm_R_op pm_M189 (pc' := 228) (st' := [.int 1, .ref 41]) (pm_q189_2 (Nat.le_of_ble_eq_true rfl)) rfl rfl ?_
                  refine pm_R_op pm_M189 (pc' := 229) (st' := [.int 2, .int 1, .ref 41]) (pm_q189_2 (Nat.le_of_ble_eq_true rfl)) rfl rfl ?_
                  refine pm_R_op pm_M189 (pc' := 230) (st' := [.int 3, .int 2, .int 1, .ref 41]) (pm_q189_2 (Nat.le_of_ble_eq_true rfl)) rfl rfl ?_
                  refine pm_R_op pm_M189 (pc' := 232) (st' := [.int 50, .int 3, .int 2, .int 1, .ref 41]) (pm_q189_2 (Nat.le_of_ble_eq_true rfl)) rfl rfl ?_
                  refine pm_R_op pm_M189 (pc' := 233) (st' := [.int 0, .int 50, .int 3, .int 2, .int 1, .ref 41]) (pm_q189_2 (Nat.le_of_ble_eq_true rfl)) rfl rfl ?_
                  refine pm_R_cv pm_M189 (pc' := 236) (a := 41) (ra := [.int 0, .int 50, .int 3, .int 2, .int 1]) (rest := []) (ls' := [.ref 41, .int 1, .int 2, .int 3, .int 50, .int 0, pm_no, pm_no]) (pm_q189_2 (Nat.le_of_ble_eq_true rfl)) rfl (Or.inl rfl) pm_M185 T4165.2.1 rfl (by decide) (Nat.lt_of_lt_of_le (by decide) T4165.1) rfl rfl (Nat.le_of_ble_eq_true rfl) rfl rfl ?_
                  have e4205 := (F4166.cell (by decide) (F4130.cell (by decide) (F3796.cell (by decide) (F3765.cell (by decide) (F3752.cell (by decide) (F3747.cell (by decide) (F3742.cell (by decide) (F3737.cell (by decide) (F3717.cell (by decide) e3)))))))))
                  refine rf_c185_d (d := d + 3) T4165 (⟨f2, e4205, ct4, fun z => (sf_pos (sf_eqT X4169 B4136) (by decide) z)⟩) (fun z => sf_pos (sf_eqT X4169 B4136) (by decide) z) (fun m4208 w4209 h4210 T4211 F4212 W4213 X4214 => ?_)
                  have F4215 := F4194.trans F4212 (by decide)
                  have B4216 : sf_B 0 99 (m4208 21) := by rw [W4213 21 (by decide)]; exact B4195
                  have ek4217 : (m4208 21).toInt = ((m3792 21)).toInt := by rw [W4213 21 (by decide)]; exact ek4196
                  have B4218 : sf_B 0 600 (m4208 10) := by rw [W4213 10 (by decide)]; exact B4198
                  have ek4219 : (m4208 10).toInt = ((m4162 10)).toInt := by rw [W4213 10 (by decide)]
                  have B4220 : sf_B 1 4 (m4208 17) := by rw [W4213 17 (by decide)]; exact (sf_eqT X4169 B4136)
                  have ek4221 : (m4208 17).toInt = ((m4131 17)).toInt := by rw [W4213 17 (by decide)]; exact X4169
                  have B4222 : sf_B 0 0 (m4208 22) := by rw [W4213 22 (by decide)]; exact (sf_eqT X4170 B4138)
                  have ek4223 : (m4208 22).toInt = ((m4131 22)).toInt := by rw [W4213 22 (by decide)]; exact X4170
                  have W4224 : rf_W [10, 12, 13, 14, 16, 17, 18, 21, 22] m m4208 := W4197.trans W4213 (by decide)
                  show pm_R _ 189 236 [.ref 41, .long a0, pm_no, .int a1, pm_no] [] _ _
                  obtain ⟨f4225, e4226, ct4227, bd4228⟩ := X4214
                  refine pm_R_op pm_M189 (pc' := 237) (st' := [.int 1]) (pm_q189_2 (Nat.le_of_ble_eq_true rfl)) rfl rfl ?_
                  exact pm_R_ret pm_M189 (r := some (.int 1)) (pm_q189_2 (Nat.le_of_ble_eq_true rfl)) rfl (K1 m4208 w4209 h4210 T4211 F4215 W4224 (⟨f4225, e4226, ct4227, fun z => (sf_pos B4220 (by decide) z)⟩) (sf_aux39 _ _ _ ek4219 R4201))
                · have F4229 := F4133.trans F4179 (by decide)
                  have B4230 : sf_B 0 99 (m4175 21) := by rw [W4180 21 (by decide)]; exact B4140
                  have ek4231 : (m4175 21).toInt = ((m3792 21)).toInt := by rw [W4180 21 (by decide)]; exact ek4141
                  have W4232 : rf_W [10, 12, 13, 14, 16, 17, 18, 21, 22] m m4175 := W4142.trans W4180 (by decide)
                  have B4233 : sf_B 0 600 (m4175 10) := T4178.2.2.1 10
                  have B4234 : sf_B 0 4 (m4175 17) := T4178.2.2.1 17
                  have B4235 : sf_B 0 1 (m4175 22) := T4178.2.2.1 22
                  show pm_R _ 189 221 [.ref 41, .long a0, pm_no, .int a1, pm_no] [.int 1] _ _
                  have R4236 : (m 10).toInt ≤ (m4175 10).toInt := (sf_aux77 _ _ _ _ ek4135 R4119 X4183)
                  obtain ⟨v4237, B4238, e4239⟩ := X4181 _ e4150
                  refine pm_R_br pm_M189 (pc' := 226) (st' := []) (pm_q189_2 (Nat.le_of_ble_eq_true rfl)) rfl ?_
                  refine pm_R_lo pm_M189 (pc' := 227) (pm_q189_2 (Nat.le_of_ble_eq_true rfl)) rfl rfl ?_
                  refine pm_R_op pm_M189 (pc' := 228) (st' := [.int 1, .ref 41]) (pm_q189_2 (Nat.le_of_ble_eq_true rfl)) rfl rfl ?_
                  refine pm_R_op pm_M189 (pc' := 229) (st' := [.int 2, .int 1, .ref 41]) (pm_q189_2 (Nat.le_of_ble_eq_true rfl)) rfl rfl ?_
                  refine pm_R_op pm_M189 (pc' := 230) (st' := [.int 3, .int 2, .int 1, .ref 41]) (pm_q189_2 (Nat.le_of_ble_eq_true rfl)) rfl rfl ?_
                  refine pm_R_op pm_M189 (pc' := 232) (st' := [.int 50, .int 3, .int 2, .int 1, .ref 41]) (pm_q189_2 (Nat.le_of_ble_eq_true rfl)) rfl rfl ?_
                  refine pm_R_op pm_M189 (pc' := 233) (st' := [.int 0, .int 50, .int 3, .int 2, .int 1, .ref 41]) (pm_q189_2 (Nat.le_of_ble_eq_true rfl)) rfl rfl ?_
                  refine pm_R_cv pm_M189 (pc' := 236) (a := 41) (ra := [.int 0, .int 50, .int 3, .int 2, .int 1]) (rest := []) (ls' := [.ref 41, .int 1, .int 2, .int 3, .int 50, .int 0, pm_no, pm_no]) (pm_q189_2 (Nat.le_of_ble_eq_true rfl)) rfl (Or.inl rfl) pm_M185 T4178.2.1 rfl (by decide) (Nat.lt_of_lt_of_le (by decide) T4178.1) rfl rfl (Nat.le_of_ble_eq_true rfl) rfl rfl ?_
                  have e4240 := (F4179.cell (by decide) (F4130.cell (by decide) (F3796.cell (by decide) (F3765.cell (by decide) (F3752.cell (by decide) (F3747.cell (by decide) (F3742.cell (by decide) (F3737.cell (by decide) (F3717.cell (by decide) e3)))))))))
                  refine rf_c185_d (d := d + 3) T4178 (⟨f2, e4240, ct4, fun z => (sf_pos B4184 (by decide) z)⟩) (fun z => sf_pos B4184 (by decide) z) (fun m4243 w4244 h4245 T4246 F4247 W4248 X4249 => ?_)
                  have F4250 := F4229.trans F4247 (by decide)
                  have B4251 : sf_B 0 99 (m4243 21) := by rw [W4248 21 (by decide)]; exact B4230
                  have ek4252 : (m4243 21).toInt = ((m3792 21)).toInt := by rw [W4248 21 (by decide)]; exact ek4231
                  have B4253 : sf_B 0 600 (m4243 10) := by rw [W4248 10 (by decide)]; exact B4233
                  have ek4254 : (m4243 10).toInt = ((m4175 10)).toInt := by rw [W4248 10 (by decide)]
                  have B4255 : sf_B 1 4 (m4243 17) := by rw [W4248 17 (by decide)]; exact B4184
                  have ek4256 : (m4243 17).toInt = ((m4175 17)).toInt := by rw [W4248 17 (by decide)]
                  have B4257 : sf_B 0 0 (m4243 22) := by rw [W4248 22 (by decide)]; exact B4185
                  have ek4258 : (m4243 22).toInt = ((m4175 22)).toInt := by rw [W4248 22 (by decide)]
                  have W4259 : rf_W [10, 12, 13, 14, 16, 17, 18, 21, 22] m m4243 := W4232.trans W4248 (by decide)
                  show pm_R _ 189 236 [.ref 41, .long a0, pm_no, .int a1, pm_no] [] _ _
                  obtain ⟨f4260, e4261, ct4262, bd4263⟩ := X4249
                  refine pm_R_op pm_M189 (pc' := 237) (st' := [.int 1]) (pm_q189_2 (Nat.le_of_ble_eq_true rfl)) rfl rfl ?_
                  exact pm_R_ret pm_M189 (r := some (.int 1)) (pm_q189_2 (Nat.le_of_ble_eq_true rfl)) rfl (K1 m4243 w4244 h4245 T4246 F4250 W4259 (⟨f4260, e4261, ct4262, fun z => (sf_pos B4255 (by decide) z)⟩) (sf_aux39 _ _ _ ek4254 R4236))
              · have B4264 : sf_B (-1) 98 (m3792 21) := sf_ltL (Int32.not_le.mp c4126) B4125 B4121
                refine pm_R_lo pm_M191 (pc' := 27) rfl rfl rfl ?_
                refine rf_R_get pm_M191 T3795 (pc' := 30) (v := .ref 52) rfl rfl rfl rfl ?_
                refine pm_R_lo pm_M191 (pc' := 31) rfl rfl rfl ?_
                refine pm_R_iald pm_M191 (pc' := 32) (v := v4120) rfl e4122 (Nat.lt_of_lt_of_le (by decide) T3795.1) rfl sf_upd_eq rfl ?_
                refine pm_R_br pm_M191 (pc' := 39) rfl rfl ?_
                refine rf_R_put pm_M191 T3795 (pc' := 42) rfl rfl rfl (by decide) rfl rfl (sf_weak B4121 (by decide) (by decide)) rfl rfl (fun h4267 m4270 em4271 T4268 F4269 => ?_)
                have F4272 := F4114.trans F4269 (by decide)
                have B4273 : sf_B 0 600 (m4270 10) := by rw [em4271]; exact B4116
                have ek4274 : (m4270 10).toInt = ((m3792 10)).toInt := by rw [em4271]; rfl
                have B4275 : sf_B 1 4 (m4270 17) := by rw [em4271]; exact B3801
                have ek4276 : (m4270 17).toInt = ((m3792 17)).toInt := by rw [em4271]; rfl
                have B4277 : sf_B 0 0 (m4270 22) := by rw [em4271]; exact B3802
                have ek4278 : (m4270 22).toInt = ((m3792 22)).toInt := by rw [em4271]; rfl
                have B4279 : sf_B 0 99 (m4270 21) := by rw [em4271]; exact B4121
                have ek4280 : (m4270 21).toInt = (v4120).toInt := by rw [em4271]; rfl
                have W4281 : rf_W [10, 12, 13, 14, 16, 17, 18, 21, 22] m m4270 := by rw [em4271]; exact W4115.put (by decide)
                refine pm_R_lo pm_M191 (pc' := 43) rfl rfl rfl ?_
                refine pm_R_ret pm_M191 (r := some (.int 1)) rfl rfl ?_
                show pm_R _ 189 178 [.ref 41, .long a0, pm_no, .int a1, pm_no] [.int 1] _ _
                refine pm_R_br pm_M189 (pc' := 183) (st' := []) (pm_q189_1 (Nat.le_of_ble_eq_true rfl)) rfl ?_
                refine pm_R_lo pm_M189 (pc' := 184) (pm_q189_1 (Nat.le_of_ble_eq_true rfl)) rfl rfl ?_
                refine pm_R_ldc2 pm_M189 (pc' := 187) (pm_q189_1 (Nat.le_of_ble_eq_true rfl)) rfl rfl ?_
                refine pm_R_op pm_M189 (pc' := 188) (st' := [.int z338]) (pm_q189_1 (Nat.le_of_ble_eq_true rfl)) (by show some (Value.int (lg_cmp a0 1819242347) :: _) = _; rw [← e339]) rfl ?_
                refine pm_R_ifc pm_M189 (t := 205) (pc' := 191) (pm_q189_1 (Nat.le_of_ble_eq_true rfl)) rfl rfl (fun c4284 => ?_) (fun c4284 => absurd (Classical.not_not.mp c4284) c340)
                have k4285 := sf_lneC e339 c4284
                refine pm_R_lo pm_M189 (pc' := 206) (pm_q189_1 (Nat.le_of_ble_eq_true rfl)) rfl rfl ?_
                refine pm_R_ldc2 pm_M189 (pc' := 209) (pm_q189_1 (Nat.le_of_ble_eq_true rfl)) rfl rfl ?_
                refine pm_R_op pm_M189 (pc' := 210) (st' := [.int z3698]) (pm_q189_1 (Nat.le_of_ble_eq_true rfl)) (by show some (Value.int (lg_cmp a0 1935767923) :: _) = _; rw [← e3699]) rfl ?_
                refine pm_R_ifc pm_M189 (t := 226) (pc' := 213) (pm_q189_1 (Nat.le_of_ble_eq_true rfl)) rfl rfl (fun c4288 => absurd (sf_pt2 B3701 sf_k0) c4288) (fun c4288 => ?_)
                refine pm_R_lo pm_M189 (pc' := 214) (pm_q189_1 (Nat.le_of_ble_eq_true rfl)) rfl rfl ?_
                refine pm_R_op pm_M189 (pc' := 215) (st' := [.int 2, .ref 41]) (pm_q189_1 (Nat.le_of_ble_eq_true rfl)) rfl rfl ?_
                refine pm_R_op pm_M189 (pc' := 217) (st' := [.int 9, .int 2, .ref 41]) (pm_q189_1 (Nat.le_of_ble_eq_true rfl)) rfl rfl ?_
                refine pm_R_op pm_M189 (pc' := 218) (st' := [.int (-1), .int 9, .int 2, .ref 41]) (pm_q189_1 (Nat.le_of_ble_eq_true rfl)) rfl rfl ?_
                refine pm_R_cv pm_M189 (pc' := 221) (a := 41) (ra := [.int (-1), .int 9, .int 2]) (rest := []) (ls' := [.ref 41, .int 2, .int 9, .int (-1)]) (pm_q189_2 (Nat.le_of_ble_eq_true rfl)) rfl (Or.inl rfl) pm_M183 T4268.2.1 rfl (by decide) (Nat.lt_of_lt_of_le (by decide) T4268.1) rfl rfl (Nat.le_of_ble_eq_true rfl) rfl rfl ?_
                have e4289 := (F4269.cell (by decide) e4122)
                refine rf_c183_2_9 (d := d + 1) T4268  (fun m4292 w4293 h4294 T4295 F4296 W4297 X4298 => ?_) (fun m4301 w4302 h4303 T4304 F4305 W4306 X4307 X4308 X4309 X4310 X4311 => ?_) (fun m4314 w4315 h4316 T4317 F4318 W4319 X4320 X4321 X4322 B4323 B4324 => ?_)
                · have F4325 := F4272.trans F4296 (by decide)
                  have B4326 : sf_B 0 99 (m4292 21) := by rw [W4297 21 (by decide)]; exact B4279
                  have ek4327 : (m4292 21).toInt = (v4120).toInt := by rw [W4297 21 (by decide)]; exact ek4280
                  have W4328 : rf_W [10, 12, 13, 14, 16, 17, 18, 21, 22] m m4292 := W4281.trans W4297 (by decide)
                  have B4329 : sf_B 0 600 (m4292 10) := T4295.2.2.1 10
                  have B4330 : sf_B 0 4 (m4292 17) := T4295.2.2.1 17
                  have B4331 : sf_B 0 1 (m4292 22) := T4295.2.2.1 22
                  show pm_R _ 189 221 [.ref 41, .long a0, pm_no, .int a1, pm_no] [.int 0] _ _
                  have R4332 : (m 10).toInt ≤ (m4292 10).toInt := (sf_aux77 _ _ _ _ ek4274 R4119 X4298)
                  refine pm_R_br pm_M189 (pc' := 224) (st' := []) (pm_q189_2 (Nat.le_of_ble_eq_true rfl)) rfl ?_
                  refine pm_R_op pm_M189 (pc' := 225) (st' := [.int 0]) (pm_q189_2 (Nat.le_of_ble_eq_true rfl)) rfl rfl ?_
                  exact pm_R_ret pm_M189 (r := some (.int 0)) (pm_q189_2 (Nat.le_of_ble_eq_true rfl)) rfl (K0 m4292 w4293 h4294 T4295 F4325 W4328 (sf_aux51 _ _ R4332))
                · have F4333 := F4272.trans F4305 (by decide)
                  have B4334 : sf_B 0 99 (m4301 21) := by rw [W4306 21 (by decide)]; exact B4279
                  have ek4335 : (m4301 21).toInt = (v4120).toInt := by rw [W4306 21 (by decide)]; exact ek4280
                  have W4336 : rf_W [10, 12, 13, 14, 16, 17, 18, 21, 22] m m4301 := W4281.trans W4306 (by decide)
                  have B4337 : sf_B 0 600 (m4301 10) := T4304.2.2.1 10
                  have B4338 : sf_B 0 4 (m4301 17) := T4304.2.2.1 17
                  have B4339 : sf_B 0 1 (m4301 22) := T4304.2.2.1 22
                  show pm_R _ 189 221 [.ref 41, .long a0, pm_no, .int a1, pm_no] [.int 1] _ _
                  have R4340 : (m 10).toInt ≤ (m4301 10).toInt := (sf_aux77 _ _ _ _ ek4274 R4119 X4311)
                  obtain ⟨v4341, B4342, e4343⟩ := X4307 _ e4289
                  refine pm_R_br pm_M189 (pc' := 226) (st' := []) (pm_q189_2 (Nat.le_of_ble_eq_true rfl)) rfl ?_
                  refine pm_R_lo pm_M189 (pc' := 227) (pm_q189_2 (Nat.le_of_ble_eq_true rfl)) rfl rfl ?_
                  refine pm_R_op pm_M189 (pc' := 228) (st' := [.int 1, .ref 41]) (pm_q189_2 (Nat.le_of_ble_eq_true rfl)) rfl rfl ?_
                  refine pm_R_op pm_M189 (pc' := 229) (st' := [.int 2, .int 1, .ref 41]) (pm_q189_2 (Nat.le_of_ble_eq_true rfl)) rfl rfl ?_
                  refine pm_R_op pm_M189 (pc' := 230) (st' := [.int 3, .int 2, .int 1, .ref 41]) (pm_q189_2 (Nat.le_of_ble_eq_true rfl)) rfl rfl ?_
                  refine pm_R_op pm_M189 (pc' := 232) (st' := [.int 50, .int 3, .int 2, .int 1, .ref 41]) (pm_q189_2 (Nat.le_of_ble_eq_true rfl)) rfl rfl ?_
                  refine pm_R_op pm_M189 (pc' := 233) (st' := [.int 0, .int 50, .int 3, .int 2, .int 1, .ref 41]) (pm_q189_2 (Nat.le_of_ble_eq_true rfl)) rfl rfl ?_
                  refine pm_R_cv pm_M189 (pc' := 236) (a := 41) (ra := [.int 0, .int 50, .int 3, .int 2, .int 1]) (rest := []) (ls' := [.ref 41, .int 1, .int 2, .int 3, .int 50, .int 0, pm_no, pm_no]) (pm_q189_2 (Nat.le_of_ble_eq_true rfl)) rfl (Or.inl rfl) pm_M185 T4304.2.1 rfl (by decide) (Nat.lt_of_lt_of_le (by decide) T4304.1) rfl rfl (Nat.le_of_ble_eq_true rfl) rfl rfl ?_
                  have e4344 := (F4305.cell (by decide) (F4269.cell (by decide) (F3796.cell (by decide) (F3765.cell (by decide) (F3752.cell (by decide) (F3747.cell (by decide) (F3742.cell (by decide) (F3737.cell (by decide) (F3717.cell (by decide) e3)))))))))
                  refine rf_c185_d (d := d + 3) T4304 (⟨f2, e4344, ct4, fun z => (sf_pos (sf_eqT X4308 B4275) (by decide) z)⟩) (fun z => sf_pos (sf_eqT X4308 B4275) (by decide) z) (fun m4347 w4348 h4349 T4350 F4351 W4352 X4353 => ?_)
                  have F4354 := F4333.trans F4351 (by decide)
                  have B4355 : sf_B 0 99 (m4347 21) := by rw [W4352 21 (by decide)]; exact B4334
                  have ek4356 : (m4347 21).toInt = (v4120).toInt := by rw [W4352 21 (by decide)]; exact ek4335
                  have B4357 : sf_B 0 600 (m4347 10) := by rw [W4352 10 (by decide)]; exact B4337
                  have ek4358 : (m4347 10).toInt = ((m4301 10)).toInt := by rw [W4352 10 (by decide)]
                  have B4359 : sf_B 1 4 (m4347 17) := by rw [W4352 17 (by decide)]; exact (sf_eqT X4308 B4275)
                  have ek4360 : (m4347 17).toInt = ((m4270 17)).toInt := by rw [W4352 17 (by decide)]; exact X4308
                  have B4361 : sf_B 0 0 (m4347 22) := by rw [W4352 22 (by decide)]; exact (sf_eqT X4309 B4277)
                  have ek4362 : (m4347 22).toInt = ((m4270 22)).toInt := by rw [W4352 22 (by decide)]; exact X4309
                  have W4363 : rf_W [10, 12, 13, 14, 16, 17, 18, 21, 22] m m4347 := W4336.trans W4352 (by decide)
                  show pm_R _ 189 236 [.ref 41, .long a0, pm_no, .int a1, pm_no] [] _ _
                  obtain ⟨f4364, e4365, ct4366, bd4367⟩ := X4353
                  refine pm_R_op pm_M189 (pc' := 237) (st' := [.int 1]) (pm_q189_2 (Nat.le_of_ble_eq_true rfl)) rfl rfl ?_
                  exact pm_R_ret pm_M189 (r := some (.int 1)) (pm_q189_2 (Nat.le_of_ble_eq_true rfl)) rfl (K1 m4347 w4348 h4349 T4350 F4354 W4363 (⟨f4364, e4365, ct4366, fun z => (sf_pos B4359 (by decide) z)⟩) (sf_aux39 _ _ _ ek4358 R4340))
                · have F4368 := F4272.trans F4318 (by decide)
                  have B4369 : sf_B 0 99 (m4314 21) := by rw [W4319 21 (by decide)]; exact B4279
                  have ek4370 : (m4314 21).toInt = (v4120).toInt := by rw [W4319 21 (by decide)]; exact ek4280
                  have W4371 : rf_W [10, 12, 13, 14, 16, 17, 18, 21, 22] m m4314 := W4281.trans W4319 (by decide)
                  have B4372 : sf_B 0 600 (m4314 10) := T4317.2.2.1 10
                  have B4373 : sf_B 0 4 (m4314 17) := T4317.2.2.1 17
                  have B4374 : sf_B 0 1 (m4314 22) := T4317.2.2.1 22
                  show pm_R _ 189 221 [.ref 41, .long a0, pm_no, .int a1, pm_no] [.int 1] _ _
                  have R4375 : (m 10).toInt ≤ (m4314 10).toInt := (sf_aux77 _ _ _ _ ek4274 R4119 X4322)
                  obtain ⟨v4376, B4377, e4378⟩ := X4320 _ e4289
                  refine pm_R_br pm_M189 (pc' := 226) (st' := []) (pm_q189_2 (Nat.le_of_ble_eq_true rfl)) rfl ?_
                  refine pm_R_lo pm_M189 (pc' := 227) (pm_q189_2 (Nat.le_of_ble_eq_true rfl)) rfl rfl ?_
                  refine pm_R_op pm_M189 (pc' := 228) (st' := [.int 1, .ref 41]) (pm_q189_2 (Nat.le_of_ble_eq_true rfl)) rfl rfl ?_
                  refine pm_R_op pm_M189 (pc' := 229) (st' := [.int 2, .int 1, .ref 41]) (pm_q189_2 (Nat.le_of_ble_eq_true rfl)) rfl rfl ?_
                  refine pm_R_op pm_M189 (pc' := 230) (st' := [.int 3, .int 2, .int 1, .ref 41]) (pm_q189_2 (Nat.le_of_ble_eq_true rfl)) rfl rfl ?_
                  refine pm_R_op pm_M189 (pc' := 232) (st' := [.int 50, .int 3, .int 2, .int 1, .ref 41]) (pm_q189_2 (Nat.le_of_ble_eq_true rfl)) rfl rfl ?_
                  refine pm_R_op pm_M189 (pc' := 233) (st' := [.int 0, .int 50, .int 3, .int 2, .int 1, .ref 41]) (pm_q189_2 (Nat.le_of_ble_eq_true rfl)) rfl rfl ?_
                  refine pm_R_cv pm_M189 (pc' := 236) (a := 41) (ra := [.int 0, .int 50, .int 3, .int 2, .int 1]) (rest := []) (ls' := [.ref 41, .int 1, .int 2, .int 3, .int 50, .int 0, pm_no, pm_no]) (pm_q189_2 (Nat.le_of_ble_eq_true rfl)) rfl (Or.inl rfl) pm_M185 T4317.2.1 rfl (by decide) (Nat.lt_of_lt_of_le (by decide) T4317.1) rfl rfl (Nat.le_of_ble_eq_true rfl) rfl rfl ?_
                  have e4379 := (F4318.cell (by decide) (F4269.cell (by decide) (F3796.cell (by decide) (F3765.cell (by decide) (F3752.cell (by decide) (F3747.cell (by decide) (F3742.cell (by decide) (F3737.cell (by decide) (F3717.cell (by decide) e3)))))))))
                  refine rf_c185_d (d := d + 3) T4317 (⟨f2, e4379, ct4, fun z => (sf_pos B4323 (by decide) z)⟩) (fun z => sf_pos B4323 (by decide) z) (fun m4382 w4383 h4384 T4385 F4386 W4387 X4388 => ?_)
                  have F4389 := F4368.trans F4386 (by decide)
                  have B4390 : sf_B 0 99 (m4382 21) := by rw [W4387 21 (by decide)]; exact B4369
                  have ek4391 : (m4382 21).toInt = (v4120).toInt := by rw [W4387 21 (by decide)]; exact ek4370
                  have B4392 : sf_B 0 600 (m4382 10) := by rw [W4387 10 (by decide)]; exact B4372
                  have ek4393 : (m4382 10).toInt = ((m4314 10)).toInt := by rw [W4387 10 (by decide)]
                  have B4394 : sf_B 1 4 (m4382 17) := by rw [W4387 17 (by decide)]; exact B4323
                  have ek4395 : (m4382 17).toInt = ((m4314 17)).toInt := by rw [W4387 17 (by decide)]
                  have B4396 : sf_B 0 0 (m4382 22) := by rw [W4387 22 (by decide)]; exact B4324
                  have ek4397 : (m4382 22).toInt = ((m4314 22)).toInt := by rw [W4387 22 (by decide)]
                  have W4398 : rf_W [10, 12, 13, 14, 16, 17, 18, 21, 22] m m4382 := W4371.trans W4387 (by decide)
                  show pm_R _ 189 236 [.ref 41, .long a0, pm_no, .int a1, pm_no] [] _ _
                  obtain ⟨f4399, e4400, ct4401, bd4402⟩ := X4388
                  refine pm_R_op pm_M189 (pc' := 237) (st' := [.int 1]) (pm_q189_2 (Nat.le_of_ble_eq_true rfl)) rfl rfl ?_
                  exact pm_R_ret pm_M189 (r := some (.int 1)) (pm_q189_2 (Nat.le_of_ble_eq_true rfl)) rfl (K1 m4382 w4383 h4384 T4385 F4389 W4398 (⟨f4399, e4400, ct4401, fun z => (sf_pos B4394 (by decide) z)⟩) (sf_aux39 _ _ _ ek4393 R4375))
          · have B4403 : sf_B 50 50 (f2 1) := sf_eqL (Classical.not_not.mp c3709) sf_k50
            refine pm_R_lo pm_M189 (pc' := 57) rfl rfl rfl ?_
            refine pm_R_op pm_M189 (pc' := 58) (st' := [.int 3, .ref 41]) rfl rfl rfl ?_
            refine pm_R_lo pm_M189 (pc' := 59) rfl rfl rfl ?_
            refine pm_R_cv pm_M189 (pc' := 62) (a := 41) (ra := [.int a1, .int 3]) (rest := []) (ls' := [.ref 41, .int 3, .int a1]) rfl rfl (Or.inl rfl) pm_M182 T.2.1 rfl (by decide) (Nat.lt_of_lt_of_le (by decide) T.1) rfl rfl (Nat.le_of_ble_eq_true rfl) rfl rfl ?_
            refine rf_c182 (d := d + 3) T (sf_weak sf_k3 (by decide) (by decide)) Ba1 (fun m4406 w4407 h4408 T4409 F4410 W4411 B4412 => ?_)
            have F4413 := (rf_G.refl [41, 51, 52] h).trans F4410 (by decide)
            have B4414 : sf_B 0 600 (m4406 10) := by rw [W4411 10 (by decide)]; exact B1
            have ek4415 : (m4406 10).toInt = ((m 10)).toInt := by rw [W4411 10 (by decide)]
            have W4416 : rf_W [10, 12, 13, 14, 16, 17, 18, 21, 22] m m4406 := (rf_W.refl [10, 12, 13, 14, 16, 17, 18, 21, 22] m).trans W4411 (by decide)
            have B4417 : sf_B 0 4 (m4406 17) := T4409.2.2.1 17
            have B4418 : sf_B 0 1 (m4406 22) := T4409.2.2.1 22
            show pm_R _ 189 62 [.ref 41, .long a0, pm_no, .int a1, pm_no] [] _ _
            refine pm_R_lo pm_M189 (pc' := 63) rfl rfl rfl ?_
            refine pm_R_cv pm_M189 (pc' := 66) (a := 41) (ra := []) (rest := []) (ls' := [.ref 41, pm_no, pm_no]) rfl rfl (Or.inl rfl) pm_M179 T4409.2.1 rfl (by decide) (Nat.lt_of_lt_of_le (by decide) T4409.1) rfl rfl (Nat.le_of_ble_eq_true rfl) rfl rfl ?_
            refine rf_c179 (d := d + 2) T4409  (fun m4421 w4422 h4423 T4424 F4425 W4426 X4427 X4428 => ?_)
            have F4429 := F4413.trans F4425 (by decide)
            have B4430 : sf_B 1 4 (m4421 17) := by rw [W4426 17 (by decide)]; exact B4412
            have ek4431 : (m4421 17).toInt = ((m4406 17)).toInt := by rw [W4426 17 (by decide)]
            have B4432 : sf_B 0 1 (m4421 22) := by rw [W4426 22 (by decide)]; exact B4418
            have ek4433 : (m4421 22).toInt = ((m4406 22)).toInt := by rw [W4426 22 (by decide)]
            have W4434 : rf_W [10, 12, 13, 14, 16, 17, 18, 21, 22] m m4421 := W4416.trans W4426 (by decide)
            have B4435 : sf_B 0 600 (m4421 10) := T4424.2.2.1 10
            show pm_R _ 189 66 [.ref 41, .long a0, pm_no, .int a1, pm_no] [] _ _
            have R4436 : (m 10).toInt ≤ (m4421 10).toInt := (sf_aux53 _ _ _ ek4415 X4427)
            refine pm_R_lo pm_M189 (pc' := 67) rfl rfl rfl ?_
            refine pm_R_ldc2 pm_M189 (pc' := 70) rfl rfl rfl ?_
            refine pm_R_op pm_M189 (pc' := 71) (st' := [.int z7]) rfl (by show some (Value.int (lg_cmp a0 495622124659) :: _) = _; rw [← e8]) rfl ?_
            refine pm_R_ifc pm_M189 (t := 137) (pc' := 74) rfl rfl rfl (fun c4439 => ?_) (fun c4439 => absurd (Classical.not_not.mp c4439) c9)
            have k4440 := sf_lneC e8 c4439
            refine pm_R_lo pm_M189 (pc' := 138) (pm_q189_1 (Nat.le_of_ble_eq_true rfl)) rfl rfl ?_
            refine pm_R_cv pm_M189 (pc' := 141) (a := 41) (ra := []) (rest := []) (ls' := [.ref 41, pm_no]) (pm_q189_1 (Nat.le_of_ble_eq_true rfl)) rfl (Or.inl rfl) pm_M190 T4424.2.1 rfl (by decide) (Nat.lt_of_lt_of_le (by decide) T4424.1) rfl rfl (Nat.le_of_ble_eq_true rfl) rfl rfl ?_
            refine pm_R_op pm_M190 (pc' := 1) (st' := [.int 0]) rfl rfl rfl ?_
            refine pm_R_lo pm_M190 (pc' := 2) (ls' := [.ref 41, .int 0]) (st' := []) rfl rfl rfl ?_
            refine pm_R_lo pm_M190 (pc' := 3) rfl rfl rfl ?_
            refine pm_R_op pm_M190 (pc' := 4) (st' := [.int 4, .int 0]) rfl rfl rfl ?_
            refine pm_R_br pm_M190 (pc' := 7) (st' := []) rfl rfl ?_
            refine pm_R_lo pm_M190 (pc' := 8) rfl rfl rfl ?_
            refine rf_R_get pm_M190 T4424 (pc' := 11) (v := .ref 52) rfl rfl rfl rfl ?_
            refine pm_R_lo pm_M190 (pc' := 12) rfl rfl rfl ?_
            refine pm_R_op pm_M190 (pc' := 13) (st' := [.int (-1), .int 0, .ref 52]) rfl rfl rfl ?_
            obtain ⟨f4441, e4442, b4443⟩ := T4424.2.2.2.1 52 (by decide) (by decide)
            refine rf_R_ist pm_M190 T4424 (pc' := 14) rfl e4442 (by decide) (by decide) rfl ⟨_, rfl, sf_upd b4443 (sf_weak sf_kn1 (by decide) (by decide)) _⟩ rfl (fun h4444 T4445 F4446 e4447 => ?_)
            have F4448 := F4429.trans F4446 (by decide)
            refine pm_R_lo pm_M190 (pc' := 17) (ls' := [.ref 41, .int 1]) (st' := []) rfl rfl rfl ?_
            refine pm_R_br pm_M190 (pc' := 2) rfl rfl ?_
            refine pm_R_lo pm_M190 (pc' := 3) rfl rfl rfl ?_
            refine pm_R_op pm_M190 (pc' := 4) (st' := [.int 4, .int 1]) rfl rfl rfl ?_
            refine pm_R_br pm_M190 (pc' := 7) (st' := []) rfl rfl ?_
            refine pm_R_lo pm_M190 (pc' := 8) rfl rfl rfl ?_
            refine rf_R_get pm_M190 T4445 (pc' := 11) (v := .ref 52) rfl rfl rfl rfl ?_
            refine pm_R_lo pm_M190 (pc' := 12) rfl rfl rfl ?_
            refine pm_R_op pm_M190 (pc' := 13) (st' := [.int (-1), .int 1, .ref 52]) rfl rfl rfl ?_
            refine rf_R_ist pm_M190 T4445 (pc' := 14) rfl e4447 (by decide) (by decide) rfl ⟨_, rfl, sf_upd (sf_upd b4443 (sf_weak sf_kn1 (by decide) (by decide)) _) (sf_weak sf_kn1 (by decide) (by decide)) _⟩ rfl (fun h4449 T4450 F4451 e4452 => ?_)
            have F4453 := F4448.trans F4451 (by decide)
            refine pm_R_lo pm_M190 (pc' := 17) (ls' := [.ref 41, .int 2]) (st' := []) rfl rfl rfl ?_
            refine pm_R_br pm_M190 (pc' := 2) rfl rfl ?_
            refine pm_R_lo pm_M190 (pc' := 3) rfl rfl rfl ?_
            refine pm_R_op pm_M190 (pc' := 4) (st' := [.int 4, .int 2]) rfl rfl rfl ?_
            refine pm_R_br pm_M190 (pc' := 7) (st' := []) rfl rfl ?_
            refine pm_R_lo pm_M190 (pc' := 8) rfl rfl rfl ?_
            refine rf_R_get pm_M190 T4450 (pc' := 11) (v := .ref 52) rfl rfl rfl rfl ?_
            refine pm_R_lo pm_M190 (pc' := 12) rfl rfl rfl ?_
            refine pm_R_op pm_M190 (pc' := 13) (st' := [.int (-1), .int 2, .ref 52]) rfl rfl rfl ?_
            refine rf_R_ist pm_M190 T4450 (pc' := 14) rfl e4452 (by decide) (by decide) rfl ⟨_, rfl, sf_upd (sf_upd (sf_upd b4443 (sf_weak sf_kn1 (by decide) (by decide)) _) (sf_weak sf_kn1 (by decide) (by decide)) _) (sf_weak sf_kn1 (by decide) (by decide)) _⟩ rfl (fun h4454 T4455 F4456 e4457 => ?_)
            have F4458 := F4453.trans F4456 (by decide)
            refine pm_R_lo pm_M190 (pc' := 17) (ls' := [.ref 41, .int 3]) (st' := []) rfl rfl rfl ?_
            refine pm_R_br pm_M190 (pc' := 2) rfl rfl ?_
            refine pm_R_lo pm_M190 (pc' := 3) rfl rfl rfl ?_
            refine pm_R_op pm_M190 (pc' := 4) (st' := [.int 4, .int 3]) rfl rfl rfl ?_
            refine pm_R_br pm_M190 (pc' := 7) (st' := []) rfl rfl ?_
            refine pm_R_lo pm_M190 (pc' := 8) rfl rfl rfl ?_
            refine rf_R_get pm_M190 T4455 (pc' := 11) (v := .ref 52) rfl rfl rfl rfl ?_
            refine pm_R_lo pm_M190 (pc' := 12) rfl rfl rfl ?_
            refine pm_R_op pm_M190 (pc' := 13) (st' := [.int (-1), .int 3, .ref 52]) rfl rfl rfl ?_
            refine rf_R_ist pm_M190 T4455 (pc' := 14) rfl e4457 (by decide) (by decide) rfl ⟨_, rfl, sf_upd (sf_upd (sf_upd (sf_upd b4443 (sf_weak sf_kn1 (by decide) (by decide)) _) (sf_weak sf_kn1 (by decide) (by decide)) _) (sf_weak sf_kn1 (by decide) (by decide)) _) (sf_weak sf_kn1 (by decide) (by decide)) _⟩ rfl (fun h4459 T4460 F4461 e4462 => ?_)
            have F4463 := F4458.trans F4461 (by decide)
            refine pm_R_lo pm_M190 (pc' := 17) (ls' := [.ref 41, .int 4]) (st' := []) rfl rfl rfl ?_
            refine pm_R_br pm_M190 (pc' := 2) rfl rfl ?_
            refine pm_R_lo pm_M190 (pc' := 3) rfl rfl rfl ?_
            refine pm_R_op pm_M190 (pc' := 4) (st' := [.int 4, .int 4]) rfl rfl rfl ?_
            refine pm_R_br pm_M190 (pc' := 20) (st' := []) rfl rfl ?_
            refine pm_R_ret pm_M190 (r := none) rfl rfl ?_
            show pm_R _ 189 141 [.ref 41, .long a0, pm_no, .int a1, pm_no] [] _ _
            refine pm_R_lo pm_M189 (pc' := 142) (pm_q189_1 (Nat.le_of_ble_eq_true rfl)) rfl rfl ?_
            refine rf_R_get pm_M189 T4460 (pc' := 145) (v := .ref 52) (pm_q189_1 (Nat.le_of_ble_eq_true rfl)) rfl rfl rfl ?_
            refine pm_R_op pm_M189 (pc' := 146) (st' := [.int 0, .ref 52]) (pm_q189_1 (Nat.le_of_ble_eq_true rfl)) rfl rfl ?_
            refine pm_R_lo pm_M189 (pc' := 147) (pm_q189_1 (Nat.le_of_ble_eq_true rfl)) rfl rfl ?_
            refine pm_R_ldc2 pm_M189 (pc' := 150) (pm_q189_1 (Nat.le_of_ble_eq_true rfl)) rfl rfl ?_
            refine pm_R_op pm_M189 (pc' := 151) (st' := [.int z338, .int 0, .ref 52]) (pm_q189_1 (Nat.le_of_ble_eq_true rfl)) (by show some (Value.int (lg_cmp a0 1819242347) :: _) = _; rw [← e339]) rfl ?_
            refine pm_R_ifc pm_M189 (t := 158) (pc' := 154) (pm_q189_1 (Nat.le_of_ble_eq_true rfl)) rfl rfl (fun c4466 => ?_) (fun c4466 => absurd (Classical.not_not.mp c4466) c340)
            have k4467 := sf_lneC e339 c4466
            refine pm_R_lo pm_M189 (pc' := 159) (pm_q189_1 (Nat.le_of_ble_eq_true rfl)) rfl rfl ?_
            refine pm_R_ldc2 pm_M189 (pc' := 162) (pm_q189_1 (Nat.le_of_ble_eq_true rfl)) rfl rfl ?_
            refine pm_R_op pm_M189 (pc' := 163) (st' := [.int z2987, .int 0, .ref 52]) (pm_q189_1 (Nat.le_of_ble_eq_true rfl)) (by show some (Value.int (lg_cmp a0 1635213689) :: _) = _; rw [← e2988]) rfl ?_
            refine pm_R_ifc pm_M189 (t := 170) (pc' := 166) (pm_q189_1 (Nat.le_of_ble_eq_true rfl)) rfl rfl (fun c4470 => ?_) (fun c4470 => absurd (Classical.not_not.mp c4470) c2989)
            have k4471 := sf_lneC e2988 c4470
            refine pm_R_op pm_M189 (pc' := 171) (st' := [.int 2, .int 0, .ref 52]) (pm_q189_1 (Nat.le_of_ble_eq_true rfl)) rfl rfl ?_
            refine rf_R_ist pm_M189 T4460 (pc' := 172) (pm_q189_1 (Nat.le_of_ble_eq_true rfl)) e4462 (by decide) (by decide) rfl ⟨_, rfl, sf_upd (sf_upd (sf_upd (sf_upd (sf_upd b4443 (sf_weak sf_kn1 (by decide) (by decide)) _) (sf_weak sf_kn1 (by decide) (by decide)) _) (sf_weak sf_kn1 (by decide) (by decide)) _) (sf_weak sf_kn1 (by decide) (by decide)) _) (sf_weak sf_k2 (by decide) (by decide)) _⟩ rfl (fun h4472 T4473 F4474 e4475 => ?_)
            have F4476 := F4463.trans F4474 (by decide)
            refine pm_R_lo pm_M189 (pc' := 173) (pm_q189_1 (Nat.le_of_ble_eq_true rfl)) rfl rfl ?_
            refine pm_R_op pm_M189 (pc' := 174) (st' := [.int 1, .ref 41]) (pm_q189_1 (Nat.le_of_ble_eq_true rfl)) rfl rfl ?_
            refine pm_R_op pm_M189 (pc' := 175) (st' := [.int (-1), .int 1, .ref 41]) (pm_q189_1 (Nat.le_of_ble_eq_true rfl)) rfl rfl ?_
            refine pm_R_cv pm_M189 (pc' := 178) (a := 41) (ra := [.int (-1), .int 1]) (rest := []) (ls' := [.ref 41, .int 1, .int (-1), pm_no]) (pm_q189_1 (Nat.le_of_ble_eq_true rfl)) rfl (Or.inl rfl) pm_M191 T4473.2.1 rfl (by decide) (Nat.lt_of_lt_of_le (by decide) T4473.1) rfl rfl (Nat.le_of_ble_eq_true rfl) rfl rfl ?_
            refine pm_R_lo pm_M191 (pc' := 1) rfl rfl rfl ?_
            refine pm_R_lo pm_M191 (pc' := 2) rfl rfl rfl ?_
            refine pm_R_op pm_M191 (pc' := 3) (st' := [.int 5, .int 1, .ref 41]) rfl rfl rfl ?_
            refine pm_R_lo pm_M191 (pc' := 4) rfl rfl rfl ?_
            refine pm_R_cv pm_M191 (pc' := 7) (a := 41) (ra := [.int (-1), .int 5, .int 1]) (rest := []) (ls' := [.ref 41, .int 1, .int 5, .int (-1)]) rfl rfl (Or.inl rfl) pm_M183 T4473.2.1 rfl (by decide) (Nat.lt_of_lt_of_le (by decide) T4473.1) rfl rfl (Nat.le_of_ble_eq_true rfl) rfl rfl ?_
            refine rf_c183_1_5 (d := d + 0) T4473  (fun m4479 w4480 h4481 T4482 F4483 W4484 X4485 => ?_) (fun m4488 w4489 h4490 T4491 F4492 W4493 X4494 X4495 X4496 X4497 X4498 => ?_) (fun m4501 w4502 h4503 T4504 F4505 W4506 X4507 X4508 X4509 B4510 B4511 => ?_)
            · have F4512 := F4476.trans F4483 (by decide)
              have W4513 : rf_W [10, 12, 13, 14, 16, 17, 18, 21, 22] m m4479 := W4434.trans W4484 (by decide)
              have B4514 : sf_B 0 600 (m4479 10) := T4482.2.2.1 10
              have B4515 : sf_B 0 4 (m4479 17) := T4482.2.2.1 17
              have B4516 : sf_B 0 1 (m4479 22) := T4482.2.2.1 22
              show pm_R _ 191 7 [.ref 41, .int 1, .int (-1), pm_no] [.int 0] _ _
              have R4517 : (m 10).toInt ≤ (m4479 10).toInt := (sf_aux70 _ _ _ R4436 X4485)
              refine pm_R_lo pm_M191 (pc' := 8) (ls' := [.ref 41, .int 1, .int (-1), .int 0]) (st' := []) rfl rfl rfl ?_
              refine pm_R_lo pm_M191 (pc' := 9) rfl rfl rfl ?_
              refine pm_R_lo pm_M191 (pc' := 10) rfl rfl rfl ?_
              refine pm_R_br pm_M191 (pc' := 35) (st' := [.ref 41]) rfl rfl ?_
              refine pm_R_lo pm_M191 (pc' := 36) rfl rfl rfl ?_
              have B4518 : sf_B (-1) 99 (m4479 21) := T4482.2.2.1 21
              refine rf_R_get pm_M191 T4482 (pc' := 39) (v := .int (m4479 21)) rfl rfl rfl rfl ?_
              refine rf_R_put pm_M191 T4482 (pc' := 42) rfl rfl rfl (by decide) rfl rfl B4518 rfl rfl (fun h4519 m4522 em4523 T4520 F4521 => ?_)
              have F4524 := F4512.trans F4521 (by decide)
              have B4525 : sf_B 0 600 (m4522 10) := by rw [em4523]; exact B4514
              have ek4526 : (m4522 10).toInt = ((m4479 10)).toInt := by rw [em4523]; rfl
              have B4527 : sf_B 0 4 (m4522 17) := by rw [em4523]; exact B4515
              have ek4528 : (m4522 17).toInt = ((m4479 17)).toInt := by rw [em4523]; rfl
              have B4529 : sf_B 0 1 (m4522 22) := by rw [em4523]; exact B4516
              have ek4530 : (m4522 22).toInt = ((m4479 22)).toInt := by rw [em4523]; rfl
              have B4531 : sf_B (-1) 99 (m4522 21) := by rw [em4523]; exact B4518
              have ek4532 : (m4522 21).toInt = ((m4479 21)).toInt := by rw [em4523]; rfl
              have W4533 : rf_W [10, 12, 13, 14, 16, 17, 18, 21, 22] m m4522 := by rw [em4523]; exact W4513.put (by decide)
              refine pm_R_lo pm_M191 (pc' := 43) rfl rfl rfl ?_
              refine pm_R_ret pm_M191 (r := some (.int 0)) rfl rfl ?_
              show pm_R _ 189 178 [.ref 41, .long a0, pm_no, .int a1, pm_no] [.int 0] _ _
              refine pm_R_br pm_M189 (pc' := 181) (st' := []) (pm_q189_1 (Nat.le_of_ble_eq_true rfl)) rfl ?_
              refine pm_R_op pm_M189 (pc' := 182) (st' := [.int 0]) (pm_q189_1 (Nat.le_of_ble_eq_true rfl)) rfl rfl ?_
              exact pm_R_ret pm_M189 (r := some (.int 0)) (pm_q189_1 (Nat.le_of_ble_eq_true rfl)) rfl (K0 m4522 w4480 h4519 T4520 F4524 W4533 (sf_aux39 _ _ _ ek4526 R4517))
            · have F4534 := F4476.trans F4492 (by decide)
              have W4535 : rf_W [10, 12, 13, 14, 16, 17, 18, 21, 22] m m4488 := W4434.trans W4493 (by decide)
              have B4536 : sf_B 0 600 (m4488 10) := T4491.2.2.1 10
              have B4537 : sf_B 0 4 (m4488 17) := T4491.2.2.1 17
              have B4538 : sf_B 0 1 (m4488 22) := T4491.2.2.1 22
              show pm_R _ 191 7 [.ref 41, .int 1, .int (-1), pm_no] [.int 1] _ _
              have R4539 : (m 10).toInt ≤ (m4488 10).toInt := (sf_aux70 _ _ _ R4436 X4498)
              obtain ⟨v4540, B4541, e4542⟩ := X4494 _ e4475
              refine pm_R_lo pm_M191 (pc' := 8) (ls' := [.ref 41, .int 1, .int (-1), .int 1]) (st' := []) rfl rfl rfl ?_
              refine pm_R_lo pm_M191 (pc' := 9) rfl rfl rfl ?_
              refine pm_R_lo pm_M191 (pc' := 10) rfl rfl rfl ?_
              refine pm_R_br pm_M191 (pc' := 13) (st' := [.ref 41]) rfl rfl ?_
              refine pm_R_lo pm_M191 (pc' := 14) rfl rfl rfl ?_
              refine rf_R_get pm_M191 T4491 (pc' := 17) (v := .ref 52) rfl rfl rfl rfl ?_
              refine pm_R_lo pm_M191 (pc' := 18) rfl rfl rfl ?_
              refine pm_R_iald pm_M191 (pc' := 19) (v := v4540) rfl e4542 (Nat.lt_of_lt_of_le (by decide) T4491.1) rfl sf_upd_eq rfl ?_
              refine pm_R_lo pm_M191 (pc' := 20) rfl rfl rfl ?_
              have B4545 : sf_B (-1) 99 (m4488 21) := T4491.2.2.1 21
              refine rf_R_get pm_M191 T4491 (pc' := 23) (v := .int (m4488 21)) rfl rfl rfl rfl ?_
              refine pm_R_icmp pm_M191 (t := 35) (pc' := 26) rfl rfl rfl (fun c4546 => ?_) (fun c4546 => ?_)
              · have B4547 : sf_B 0 99 (m4488 21) := sf_leR c4546 B4541 B4545
                refine pm_R_lo pm_M191 (pc' := 36) rfl rfl rfl ?_
                refine rf_R_get pm_M191 T4491 (pc' := 39) (v := .int (m4488 21)) rfl rfl rfl rfl ?_
                refine rf_R_put pm_M191 T4491 (pc' := 42) rfl rfl rfl (by decide) rfl rfl (sf_weak B4547 (by decide) (by decide)) rfl rfl (fun h4548 m4551 em4552 T4549 F4550 => ?_)
                have F4553 := F4534.trans F4550 (by decide)
                have B4554 : sf_B 0 600 (m4551 10) := by rw [em4552]; exact B4536
                have ek4555 : (m4551 10).toInt = ((m4488 10)).toInt := by rw [em4552]; rfl
                have B4556 : sf_B 1 4 (m4551 17) := by rw [em4552]; exact (sf_eqT X4495 B4430)
                have ek4557 : (m4551 17).toInt = ((m4421 17)).toInt := by rw [em4552]; exact X4495
                have B4558 : sf_B 0 1 (m4551 22) := by rw [em4552]; exact (sf_eqT X4496 B4432)
                have ek4559 : (m4551 22).toInt = ((m4421 22)).toInt := by rw [em4552]; exact X4496
                have B4560 : sf_B 0 99 (m4551 21) := by rw [em4552]; exact B4547
                have ek4561 : (m4551 21).toInt = ((m4488 21)).toInt := by rw [em4552]; rfl
                have W4562 : rf_W [10, 12, 13, 14, 16, 17, 18, 21, 22] m m4551 := by rw [em4552]; exact W4535.put (by decide)
                refine pm_R_lo pm_M191 (pc' := 43) rfl rfl rfl ?_
                refine pm_R_ret pm_M191 (r := some (.int 1)) rfl rfl ?_
                show pm_R _ 189 178 [.ref 41, .long a0, pm_no, .int a1, pm_no] [.int 1] _ _
                refine pm_R_br pm_M189 (pc' := 183) (st' := []) (pm_q189_1 (Nat.le_of_ble_eq_true rfl)) rfl ?_
                refine pm_R_lo pm_M189 (pc' := 184) (pm_q189_1 (Nat.le_of_ble_eq_true rfl)) rfl rfl ?_
                refine pm_R_ldc2 pm_M189 (pc' := 187) (pm_q189_1 (Nat.le_of_ble_eq_true rfl)) rfl rfl ?_
                refine pm_R_op pm_M189 (pc' := 188) (st' := [.int z338]) (pm_q189_1 (Nat.le_of_ble_eq_true rfl)) (by show some (Value.int (lg_cmp a0 1819242347) :: _) = _; rw [← e339]) rfl ?_
                refine pm_R_ifc pm_M189 (t := 205) (pc' := 191) (pm_q189_1 (Nat.le_of_ble_eq_true rfl)) rfl rfl (fun c4565 => ?_) (fun c4565 => absurd (Classical.not_not.mp c4565) c340)
                have k4566 := sf_lneC e339 c4565
                refine pm_R_lo pm_M189 (pc' := 206) (pm_q189_1 (Nat.le_of_ble_eq_true rfl)) rfl rfl ?_
                refine pm_R_ldc2 pm_M189 (pc' := 209) (pm_q189_1 (Nat.le_of_ble_eq_true rfl)) rfl rfl ?_
                refine pm_R_op pm_M189 (pc' := 210) (st' := [.int z3698]) (pm_q189_1 (Nat.le_of_ble_eq_true rfl)) (by show some (Value.int (lg_cmp a0 1935767923) :: _) = _; rw [← e3699]) rfl ?_
                refine pm_R_ifc pm_M189 (t := 226) (pc' := 213) (pm_q189_1 (Nat.le_of_ble_eq_true rfl)) rfl rfl (fun c4569 => absurd (sf_pt2 B3701 sf_k0) c4569) (fun c4569 => ?_)
                refine pm_R_lo pm_M189 (pc' := 214) (pm_q189_1 (Nat.le_of_ble_eq_true rfl)) rfl rfl ?_
                refine pm_R_op pm_M189 (pc' := 215) (st' := [.int 2, .ref 41]) (pm_q189_1 (Nat.le_of_ble_eq_true rfl)) rfl rfl ?_
                refine pm_R_op pm_M189 (pc' := 217) (st' := [.int 9, .int 2, .ref 41]) (pm_q189_1 (Nat.le_of_ble_eq_true rfl)) rfl rfl ?_
                refine pm_R_op pm_M189 (pc' := 218) (st' := [.int (-1), .int 9, .int 2, .ref 41]) (pm_q189_1 (Nat.le_of_ble_eq_true rfl)) rfl rfl ?_
                refine pm_R_cv pm_M189 (pc' := 221) (a := 41) (ra := [.int (-1), .int 9, .int 2]) (rest := []) (ls' := [.ref 41, .int 2, .int 9, .int (-1)]) (pm_q189_2 (Nat.le_of_ble_eq_true rfl)) rfl (Or.inl rfl) pm_M183 T4549.2.1 rfl (by decide) (Nat.lt_of_lt_of_le (by decide) T4549.1) rfl rfl (Nat.le_of_ble_eq_true rfl) rfl rfl ?_
                have e4570 := (F4550.cell (by decide) e4542)
                refine rf_c183_2_9 (d := d + 1) T4549  (fun m4573 w4574 h4575 T4576 F4577 W4578 X4579 => ?_) (fun m4582 w4583 h4584 T4585 F4586 W4587 X4588 X4589 X4590 X4591 X4592 => ?_) (fun m4595 w4596 h4597 T4598 F4599 W4600 X4601 X4602 X4603 B4604 B4605 => ?_)
                · have F4606 := F4553.trans F4577 (by decide)
                  have B4607 : sf_B 0 99 (m4573 21) := by rw [W4578 21 (by decide)]; exact B4560
                  have ek4608 : (m4573 21).toInt = ((m4488 21)).toInt := by rw [W4578 21 (by decide)]; exact ek4561
                  have W4609 : rf_W [10, 12, 13, 14, 16, 17, 18, 21, 22] m m4573 := W4562.trans W4578 (by decide)
                  have B4610 : sf_B 0 600 (m4573 10) := T4576.2.2.1 10
                  have B4611 : sf_B 0 4 (m4573 17) := T4576.2.2.1 17
                  have B4612 : sf_B 0 1 (m4573 22) := T4576.2.2.1 22
                  show pm_R _ 189 221 [.ref 41, .long a0, pm_no, .int a1, pm_no] [.int 0] _ _
                  have R4613 : (m 10).toInt ≤ (m4573 10).toInt := (sf_aux77 _ _ _ _ ek4555 R4539 X4579)
                  refine pm_R_br pm_M189 (pc' := 224) (st' := []) (pm_q189_2 (Nat.le_of_ble_eq_true rfl)) rfl ?_
                  refine pm_R_op pm_M189 (pc' := 225) (st' := [.int 0]) (pm_q189_2 (Nat.le_of_ble_eq_true rfl)) rfl rfl ?_
                  exact pm_R_ret pm_M189 (r := some (.int 0)) (pm_q189_2 (Nat.le_of_ble_eq_true rfl)) rfl (K0 m4573 w4574 h4575 T4576 F4606 W4609 (sf_aux51 _ _ R4613))
                · have F4614 := F4553.trans F4586 (by decide)
                  have B4615 : sf_B 0 99 (m4582 21) := by rw [W4587 21 (by decide)]; exact B4560
                  have ek4616 : (m4582 21).toInt = ((m4488 21)).toInt := by rw [W4587 21 (by decide)]; exact ek4561
                  have W4617 : rf_W [10, 12, 13, 14, 16, 17, 18, 21, 22] m m4582 := W4562.trans W4587 (by decide)
                  have B4618 : sf_B 0 600 (m4582 10) := T4585.2.2.1 10
                  have B4619 : sf_B 0 4 (m4582 17) := T4585.2.2.1 17
                  have B4620 : sf_B 0 1 (m4582 22) := T4585.2.2.1 22
                  show pm_R _ 189 221 [.ref 41, .long a0, pm_no, .int a1, pm_no] [.int 1] _ _
                  have R4621 : (m 10).toInt ≤ (m4582 10).toInt := (sf_aux77 _ _ _ _ ek4555 R4539 X4592)
                  obtain ⟨v4622, B4623, e4624⟩ := X4588 _ e4570
                  refine pm_R_br pm_M189 (pc' := 226) (st' := []) (pm_q189_2 (Nat.le_of_ble_eq_true rfl)) rfl ?_
                  refine pm_R_lo pm_M189 (pc' := 227) (pm_q189_2 (Nat.le_of_ble_eq_true rfl)) rfl rfl ?_
                  refine pm_R_op pm_M189 (pc' := 228) (st' := [.int 1, .ref 41]) (pm_q189_2 (Nat.le_of_ble_eq_true rfl)) rfl rfl ?_
                  refine pm_R_op pm_M189 (pc' := 229) (st' := [.int 2, .int 1, .ref 41]) (pm_q189_2 (Nat.le_of_ble_eq_true rfl)) rfl rfl ?_
                  refine pm_R_op pm_M189 (pc' := 230) (st' := [.int 3, .int 2, .int 1, .ref 41]) (pm_q189_2 (Nat.le_of_ble_eq_true rfl)) rfl rfl ?_
                  refine pm_R_op pm_M189 (pc' := 232) (st' := [.int 50, .int 3, .int 2, .int 1, .ref 41]) (pm_q189_2 (Nat.le_of_ble_eq_true rfl)) rfl rfl ?_
                  refine pm_R_op pm_M189 (pc' := 233) (st' := [.int 0, .int 50, .int 3, .int 2, .int 1, .ref 41]) (pm_q189_2 (Nat.le_of_ble_eq_true rfl)) rfl rfl ?_
                  refine pm_R_cv pm_M189 (pc' := 236) (a := 41) (ra := [.int 0, .int 50, .int 3, .int 2, .int 1]) (rest := []) (ls' := [.ref 41, .int 1, .int 2, .int 3, .int 50, .int 0, pm_no, pm_no]) (pm_q189_2 (Nat.le_of_ble_eq_true rfl)) rfl (Or.inl rfl) pm_M185 T4585.2.1 rfl (by decide) (Nat.lt_of_lt_of_le (by decide) T4585.1) rfl rfl (Nat.le_of_ble_eq_true rfl) rfl rfl ?_
                  have e4625 := (F4586.cell (by decide) (F4550.cell (by decide) (F4492.cell (by decide) (F4474.cell (by decide) (F4461.cell (by decide) (F4456.cell (by decide) (F4451.cell (by decide) (F4446.cell (by decide) (F4425.cell (by decide) (F4410.cell (by decide) e3))))))))))
                  refine rf_c185_d (d := d + 3) T4585 (⟨f2, e4625, ct4, fun z => (sf_pos (sf_eqT X4589 B4556) (by decide) z)⟩) (fun z => sf_pos (sf_eqT X4589 B4556) (by decide) z) (fun m4628 w4629 h4630 T4631 F4632 W4633 X4634 => ?_)
                  have F4635 := F4614.trans F4632 (by decide)
                  have B4636 : sf_B 0 99 (m4628 21) := by rw [W4633 21 (by decide)]; exact B4615
                  have ek4637 : (m4628 21).toInt = ((m4488 21)).toInt := by rw [W4633 21 (by decide)]; exact ek4616
                  have B4638 : sf_B 0 600 (m4628 10) := by rw [W4633 10 (by decide)]; exact B4618
                  have ek4639 : (m4628 10).toInt = ((m4582 10)).toInt := by rw [W4633 10 (by decide)]
                  have B4640 : sf_B 1 4 (m4628 17) := by rw [W4633 17 (by decide)]; exact (sf_eqT X4589 B4556)
                  have ek4641 : (m4628 17).toInt = ((m4551 17)).toInt := by rw [W4633 17 (by decide)]; exact X4589
                  have B4642 : sf_B 0 1 (m4628 22) := by rw [W4633 22 (by decide)]; exact (sf_eqT X4590 B4558)
                  have ek4643 : (m4628 22).toInt = ((m4551 22)).toInt := by rw [W4633 22 (by decide)]; exact X4590
                  have W4644 : rf_W [10, 12, 13, 14, 16, 17, 18, 21, 22] m m4628 := W4617.trans W4633 (by decide)
                  show pm_R _ 189 236 [.ref 41, .long a0, pm_no, .int a1, pm_no] [] _ _
                  obtain ⟨f4645, e4646, ct4647, bd4648⟩ := X4634
                  refine pm_R_op pm_M189 (pc' := 237) (st' := [.int 1]) (pm_q189_2 (Nat.le_of_ble_eq_true rfl)) rfl rfl ?_
                  exact pm_R_ret pm_M189 (r := some (.int 1)) (pm_q189_2 (Nat.le_of_ble_eq_true rfl)) rfl (K1 m4628 w4629 h4630 T4631 F4635 W4644 (⟨f4645, e4646, ct4647, fun z => (sf_pos B4640 (by decide) z)⟩) (sf_aux39 _ _ _ ek4639 R4621))
                · have F4649 := F4553.trans F4599 (by decide)
                  have B4650 : sf_B 0 99 (m4595 21) := by rw [W4600 21 (by decide)]; exact B4560
                  have ek4651 : (m4595 21).toInt = ((m4488 21)).toInt := by rw [W4600 21 (by decide)]; exact ek4561
                  have W4652 : rf_W [10, 12, 13, 14, 16, 17, 18, 21, 22] m m4595 := W4562.trans W4600 (by decide)
                  have B4653 : sf_B 0 600 (m4595 10) := T4598.2.2.1 10
                  have B4654 : sf_B 0 4 (m4595 17) := T4598.2.2.1 17
                  have B4655 : sf_B 0 1 (m4595 22) := T4598.2.2.1 22
                  show pm_R _ 189 221 [.ref 41, .long a0, pm_no, .int a1, pm_no] [.int 1] _ _
                  have R4656 : (m 10).toInt ≤ (m4595 10).toInt := (sf_aux77 _ _ _ _ ek4555 R4539 X4603)
                  obtain ⟨v4657, B4658, e4659⟩ := X4601 _ e4570
                  refine pm_R_br pm_M189 (pc' := 226) (st' := []) (pm_q189_2 (Nat.le_of_ble_eq_true rfl)) rfl ?_
                  refine pm_R_lo pm_M189 (pc' := 227) (pm_q189_2 (Nat.le_of_ble_eq_true rfl)) rfl rfl ?_
                  refine pm_R_op pm_M189 (pc' := 228) (st' := [.int 1, .ref 41]) (pm_q189_2 (Nat.le_of_ble_eq_true rfl)) rfl rfl ?_
                  refine pm_R_op pm_M189 (pc' := 229) (st' := [.int 2, .int 1, .ref 41]) (pm_q189_2 (Nat.le_of_ble_eq_true rfl)) rfl rfl ?_
                  refine pm_R_op pm_M189 (pc' := 230) (st' := [.int 3, .int 2, .int 1, .ref 41]) (pm_q189_2 (Nat.le_of_ble_eq_true rfl)) rfl rfl ?_
                  refine pm_R_op pm_M189 (pc' := 232) (st' := [.int 50, .int 3, .int 2, .int 1, .ref 41]) (pm_q189_2 (Nat.le_of_ble_eq_true rfl)) rfl rfl ?_
                  refine pm_R_op pm_M189 (pc' := 233) (st' := [.int 0, .int 50, .int 3, .int 2, .int 1, .ref 41]) (pm_q189_2 (Nat.le_of_ble_eq_true rfl)) rfl rfl ?_
                  refine pm_R_cv pm_M189 (pc' := 236) (a := 41) (ra := [.int 0, .int 50, .int 3, .int 2, .int 1]) (rest := []) (ls' := [.ref 41, .int 1, .int 2, .int 3, .int 50, .int 0, pm_no, pm_no]) (pm_q189_2 (Nat.le_of_ble_eq_true rfl)) rfl (Or.inl rfl) pm_M185 T4598.2.1 rfl (by decide) (Nat.lt_of_lt_of_le (by decide) T4598.1) rfl rfl (Nat.le_of_ble_eq_true rfl) rfl rfl ?_
                  have e4660 := (F4599.cell (by decide) (F4550.cell (by decide) (F4492.cell (by decide) (F4474.cell (by decide) (F4461.cell (by decide) (F4456.cell (by decide) (F4451.cell (by decide) (F4446.cell (by decide) (F4425.cell (by decide) (F4410.cell (by decide) e3))))))))))
                  refine rf_c185_d (d := d + 3) T4598 (⟨f2, e4660, ct4, fun z => (sf_pos B4604 (by decide) z)⟩) (fun z => sf_pos B4604 (by decide) z) (fun m4663 w4664 h4665 T4666 F4667 W4668 X4669 => ?_)
                  have F4670 := F4649.trans F4667 (by decide)
                  have B4671 : sf_B 0 99 (m4663 21) := by rw [W4668 21 (by decide)]; exact B4650
                  have ek4672 : (m4663 21).toInt = ((m4488 21)).toInt := by rw [W4668 21 (by decide)]; exact ek4651
                  have B4673 : sf_B 0 600 (m4663 10) := by rw [W4668 10 (by decide)]; exact B4653
                  have ek4674 : (m4663 10).toInt = ((m4595 10)).toInt := by rw [W4668 10 (by decide)]
                  have B4675 : sf_B 1 4 (m4663 17) := by rw [W4668 17 (by decide)]; exact B4604
                  have ek4676 : (m4663 17).toInt = ((m4595 17)).toInt := by rw [W4668 17 (by decide)]
                  have B4677 : sf_B 0 0 (m4663 22) := by rw [W4668 22 (by decide)]; exact B4605
                  have ek4678 : (m4663 22).toInt = ((m4595 22)).toInt := by rw [W4668 22 (by decide)]
                  have W4679 : rf_W [10, 12, 13, 14, 16, 17, 18, 21, 22] m m4663 := W4652.trans W4668 (by decide)
                  show pm_R _ 189 236 [.ref 41, .long a0, pm_no, .int a1, pm_no] [] _ _
                  obtain ⟨f4680, e4681, ct4682, bd4683⟩ := X4669
                  refine pm_R_op pm_M189 (pc' := 237) (st' := [.int 1]) (pm_q189_2 (Nat.le_of_ble_eq_true rfl)) rfl rfl ?_
                  exact pm_R_ret pm_M189 (r := some (.int 1)) (pm_q189_2 (Nat.le_of_ble_eq_true rfl)) rfl (K1 m4663 w4664 h4665 T4666 F4670 W4679 (⟨f4680, e4681, ct4682, fun z => (sf_pos B4675 (by decide) z)⟩) (sf_aux39 _ _ _ ek4674 R4656))
              · have B4684 : sf_B (-1) 4 (m4488 21) := sf_ltL (Int32.not_le.mp c4546) B4545 B4541
                refine pm_R_lo pm_M191 (pc' := 27) rfl rfl rfl ?_
                refine rf_R_get pm_M191 T4491 (pc' := 30) (v := .ref 52) rfl rfl rfl rfl ?_
                refine pm_R_lo pm_M191 (pc' := 31) rfl rfl rfl ?_
                refine pm_R_iald pm_M191 (pc' := 32) (v := v4540) rfl e4542 (Nat.lt_of_lt_of_le (by decide) T4491.1) rfl sf_upd_eq rfl ?_
                refine pm_R_br pm_M191 (pc' := 39) rfl rfl ?_
                refine rf_R_put pm_M191 T4491 (pc' := 42) rfl rfl rfl (by decide) rfl rfl (sf_weak B4541 (by decide) (by decide)) rfl rfl (fun h4687 m4690 em4691 T4688 F4689 => ?_)
                have F4692 := F4534.trans F4689 (by decide)
                have B4693 : sf_B 0 600 (m4690 10) := by rw [em4691]; exact B4536
                have ek4694 : (m4690 10).toInt = ((m4488 10)).toInt := by rw [em4691]; rfl
                have B4695 : sf_B 1 4 (m4690 17) := by rw [em4691]; exact (sf_eqT X4495 B4430)
                have ek4696 : (m4690 17).toInt = ((m4421 17)).toInt := by rw [em4691]; exact X4495
                have B4697 : sf_B 0 1 (m4690 22) := by rw [em4691]; exact (sf_eqT X4496 B4432)
                have ek4698 : (m4690 22).toInt = ((m4421 22)).toInt := by rw [em4691]; exact X4496
                have B4699 : sf_B 0 5 (m4690 21) := by rw [em4691]; exact B4541
                have ek4700 : (m4690 21).toInt = (v4540).toInt := by rw [em4691]; rfl
                have W4701 : rf_W [10, 12, 13, 14, 16, 17, 18, 21, 22] m m4690 := by rw [em4691]; exact W4535.put (by decide)
                refine pm_R_lo pm_M191 (pc' := 43) rfl rfl rfl ?_
                refine pm_R_ret pm_M191 (r := some (.int 1)) rfl rfl ?_
                show pm_R _ 189 178 [.ref 41, .long a0, pm_no, .int a1, pm_no] [.int 1] _ _
                refine pm_R_br pm_M189 (pc' := 183) (st' := []) (pm_q189_1 (Nat.le_of_ble_eq_true rfl)) rfl ?_
                refine pm_R_lo pm_M189 (pc' := 184) (pm_q189_1 (Nat.le_of_ble_eq_true rfl)) rfl rfl ?_
                refine pm_R_ldc2 pm_M189 (pc' := 187) (pm_q189_1 (Nat.le_of_ble_eq_true rfl)) rfl rfl ?_
                refine pm_R_op pm_M189 (pc' := 188) (st' := [.int z338]) (pm_q189_1 (Nat.le_of_ble_eq_true rfl)) (by show some (Value.int (lg_cmp a0 1819242347) :: _) = _; rw [← e339]) rfl ?_
                refine pm_R_ifc pm_M189 (t := 205) (pc' := 191) (pm_q189_1 (Nat.le_of_ble_eq_true rfl)) rfl rfl (fun c4704 => ?_) (fun c4704 => absurd (Classical.not_not.mp c4704) c340)
                have k4705 := sf_lneC e339 c4704
                refine pm_R_lo pm_M189 (pc' := 206) (pm_q189_1 (Nat.le_of_ble_eq_true rfl)) rfl rfl ?_
                refine pm_R_ldc2 pm_M189 (pc' := 209) (pm_q189_1 (Nat.le_of_ble_eq_true rfl)) rfl rfl ?_
                refine pm_R_op pm_M189 (pc' := 210) (st' := [.int z3698]) (pm_q189_1 (Nat.le_of_ble_eq_true rfl)) (by show some (Value.int (lg_cmp a0 1935767923) :: _) = _; rw [← e3699]) rfl ?_
                refine pm_R_ifc pm_M189 (t := 226) (pc' := 213) (pm_q189_1 (Nat.le_of_ble_eq_true rfl)) rfl rfl (fun c4708 => absurd (sf_pt2 B3701 sf_k0) c4708) (fun c4708 => ?_)
                refine pm_R_lo pm_M189 (pc' := 214) (pm_q189_1 (Nat.le_of_ble_eq_true rfl)) rfl rfl ?_
                refine pm_R_op pm_M189 (pc' := 215) (st' := [.int 2, .ref 41]) (pm_q189_1 (Nat.le_of_ble_eq_true rfl)) rfl rfl ?_
                refine pm_R_op pm_M189 (pc' := 217) (st' := [.int 9, .int 2, .ref 41]) (pm_q189_1 (Nat.le_of_ble_eq_true rfl)) rfl rfl ?_
                refine pm_R_op pm_M189 (pc' := 218) (st' := [.int (-1), .int 9, .int 2, .ref 41]) (pm_q189_1 (Nat.le_of_ble_eq_true rfl)) rfl rfl ?_
                refine pm_R_cv pm_M189 (pc' := 221) (a := 41) (ra := [.int (-1), .int 9, .int 2]) (rest := []) (ls' := [.ref 41, .int 2, .int 9, .int (-1)]) (pm_q189_2 (Nat.le_of_ble_eq_true rfl)) rfl (Or.inl rfl) pm_M183 T4688.2.1 rfl (by decide) (Nat.lt_of_lt_of_le (by decide) T4688.1) rfl rfl (Nat.le_of_ble_eq_true rfl) rfl rfl ?_
                have e4709 := (F4689.cell (by decide) e4542)
                refine rf_c183_2_9 (d := d + 1) T4688  (fun m4712 w4713 h4714 T4715 F4716 W4717 X4718 => ?_) (fun m4721 w4722 h4723 T4724 F4725 W4726 X4727 X4728 X4729 X4730 X4731 => ?_) (fun m4734 w4735 h4736 T4737 F4738 W4739 X4740 X4741 X4742 B4743 B4744 => ?_)
                · have F4745 := F4692.trans F4716 (by decide)
                  have B4746 : sf_B 0 5 (m4712 21) := by rw [W4717 21 (by decide)]; exact B4699
                  have ek4747 : (m4712 21).toInt = (v4540).toInt := by rw [W4717 21 (by decide)]; exact ek4700
                  have W4748 : rf_W [10, 12, 13, 14, 16, 17, 18, 21, 22] m m4712 := W4701.trans W4717 (by decide)
                  have B4749 : sf_B 0 600 (m4712 10) := T4715.2.2.1 10
                  have B4750 : sf_B 0 4 (m4712 17) := T4715.2.2.1 17
                  have B4751 : sf_B 0 1 (m4712 22) := T4715.2.2.1 22
                  show pm_R _ 189 221 [.ref 41, .long a0, pm_no, .int a1, pm_no] [.int 0] _ _
                  have R4752 : (m 10).toInt ≤ (m4712 10).toInt := (sf_aux77 _ _ _ _ ek4694 R4539 X4718)
                  refine pm_R_br pm_M189 (pc' := 224) (st' := []) (pm_q189_2 (Nat.le_of_ble_eq_true rfl)) rfl ?_
                  refine pm_R_op pm_M189 (pc' := 225) (st' := [.int 0]) (pm_q189_2 (Nat.le_of_ble_eq_true rfl)) rfl rfl ?_
                  exact pm_R_ret pm_M189 (r := some (.int 0)) (pm_q189_2 (Nat.le_of_ble_eq_true rfl)) rfl (K0 m4712 w4713 h4714 T4715 F4745 W4748 (sf_aux51 _ _ R4752))
                · have F4753 := F4692.trans F4725 (by decide)
                  have B4754 : sf_B 0 5 (m4721 21) := by rw [W4726 21 (by decide)]; exact B4699
                  have ek4755 : (m4721 21).toInt = (v4540).toInt := by rw [W4726 21 (by decide)]; exact ek4700
                  have W4756 : rf_W [10, 12, 13, 14, 16, 17, 18, 21, 22] m m4721 := W4701.trans W4726 (by decide)
                  have B4757 : sf_B 0 600 (m4721 10) := T4724.2.2.1 10
                  have B4758 : sf_B 0 4 (m4721 17) := T4724.2.2.1 17
                  have B4759 : sf_B 0 1 (m4721 22) := T4724.2.2.1 22
                  show pm_R _ 189 221 [.ref 41, .long a0, pm_no, .int a1, pm_no] [.int 1] _ _
                  have R4760 : (m 10).toInt ≤ (m4721 10).toInt := (sf_aux77 _ _ _ _ ek4694 R4539 X4731)
                  obtain ⟨v4761, B4762, e4763⟩ := X4727 _ e4709
                  refine pm_R_br pm_M189 (pc' := 226) (st' := []) (pm_q189_2 (Nat.le_of_ble_eq_true rfl)) rfl ?_
                  refine pm_R_lo pm_M189 (pc' := 227) (pm_q189_2 (Nat.le_of_ble_eq_true rfl)) rfl rfl ?_
                  refine pm_R_op pm_M189 (pc' := 228) (st' := [.int 1, .ref 41]) (pm_q189_2 (Nat.le_of_ble_eq_true rfl)) rfl rfl ?_
                  refine pm_R_op pm_M189 (pc' := 229) (st' := [.int 2, .int 1, .ref 41]) (pm_q189_2 (Nat.le_of_ble_eq_true rfl)) rfl rfl ?_
                  refine pm_R_op pm_M189 (pc' := 230) (st' := [.int 3, .int 2, .int 1, .ref 41]) (pm_q189_2 (Nat.le_of_ble_eq_true rfl)) rfl rfl ?_
                  refine pm_R_op pm_M189 (pc' := 232) (st' := [.int 50, .int 3, .int 2, .int 1, .ref 41]) (pm_q189_2 (Nat.le_of_ble_eq_true rfl)) rfl rfl ?_
                  refine pm_R_op pm_M189 (pc' := 233) (st' := [.int 0, .int 50, .int 3, .int 2, .int 1, .ref 41]) (pm_q189_2 (Nat.le_of_ble_eq_true rfl)) rfl rfl ?_
                  refine pm_R_cv pm_M189 (pc' := 236) (a := 41) (ra := [.int 0, .int 50, .int 3, .int 2, .int 1]) (rest := []) (ls' := [.ref 41, .int 1, .int 2, .int 3, .int 50, .int 0, pm_no, pm_no]) (pm_q189_2 (Nat.le_of_ble_eq_true rfl)) rfl (Or.inl rfl) pm_M185 T4724.2.1 rfl (by decide) (Nat.lt_of_lt_of_le (by decide) T4724.1) rfl rfl (Nat.le_of_ble_eq_true rfl) rfl rfl ?_
                  have e4764 := (F4725.cell (by decide) (F4689.cell (by decide) (F4492.cell (by decide) (F4474.cell (by decide) (F4461.cell (by decide) (F4456.cell (by decide) (F4451.cell (by decide) (F4446.cell (by decide) (F4425.cell (by decide) (F4410.cell (by decide) e3))))))))))
                  refine rf_c185_d (d := d + 3) T4724 (⟨f2, e4764, ct4, fun z => (sf_pos (sf_eqT X4728 B4695) (by decide) z)⟩) (fun z => sf_pos (sf_eqT X4728 B4695) (by decide) z) (fun m4767 w4768 h4769 T4770 F4771 W4772 X4773 => ?_)
                  have F4774 := F4753.trans F4771 (by decide)
                  have B4775 : sf_B 0 5 (m4767 21) := by rw [W4772 21 (by decide)]; exact B4754
                  have ek4776 : (m4767 21).toInt = (v4540).toInt := by rw [W4772 21 (by decide)]; exact ek4755
                  have B4777 : sf_B 0 600 (m4767 10) := by rw [W4772 10 (by decide)]; exact B4757
                  have ek4778 : (m4767 10).toInt = ((m4721 10)).toInt := by rw [W4772 10 (by decide)]
                  have B4779 : sf_B 1 4 (m4767 17) := by rw [W4772 17 (by decide)]; exact (sf_eqT X4728 B4695)
                  have ek4780 : (m4767 17).toInt = ((m4690 17)).toInt := by rw [W4772 17 (by decide)]; exact X4728
                  have B4781 : sf_B 0 1 (m4767 22) := by rw [W4772 22 (by decide)]; exact (sf_eqT X4729 B4697)
                  have ek4782 : (m4767 22).toInt = ((m4690 22)).toInt := by rw [W4772 22 (by decide)]; exact X4729
                  have W4783 : rf_W [10, 12, 13, 14, 16, 17, 18, 21, 22] m m4767 := W4756.trans W4772 (by decide)
                  show pm_R _ 189 236 [.ref 41, .long a0, pm_no, .int a1, pm_no] [] _ _
                  obtain ⟨f4784, e4785, ct4786, bd4787⟩ := X4773
                  refine pm_R_op pm_M189 (pc' := 237) (st' := [.int 1]) (pm_q189_2 (Nat.le_of_ble_eq_true rfl)) rfl rfl ?_
                  exact pm_R_ret pm_M189 (r := some (.int 1)) (pm_q189_2 (Nat.le_of_ble_eq_true rfl)) rfl (K1 m4767 w4768 h4769 T4770 F4774 W4783 (⟨f4784, e4785, ct4786, fun z => (sf_pos B4779 (by decide) z)⟩) (sf_aux39 _ _ _ ek4778 R4760))
                · have F4788 := F4692.trans F4738 (by decide)
                  have B4789 : sf_B 0 5 (m4734 21) := by rw [W4739 21 (by decide)]; exact B4699
                  have ek4790 : (m4734 21).toInt = (v4540).toInt := by rw [W4739 21 (by decide)]; exact ek4700
                  have W4791 : rf_W [10, 12, 13, 14, 16, 17, 18, 21, 22] m m4734 := W4701.trans W4739 (by decide)
                  have B4792 : sf_B 0 600 (m4734 10) := T4737.2.2.1 10
                  have B4793 : sf_B 0 4 (m4734 17) := T4737.2.2.1 17
                  have B4794 : sf_B 0 1 (m4734 22) := T4737.2.2.1 22
                  show pm_R _ 189 221 [.ref 41, .long a0, pm_no, .int a1, pm_no] [.int 1] _ _
                  have R4795 : (m 10).toInt ≤ (m4734 10).toInt := (sf_aux77 _ _ _ _ ek4694 R4539 X4742)
                  obtain ⟨v4796, B4797, e4798⟩ := X4740 _ e4709
                  refine pm_R_br pm_M189 (pc' := 226) (st' := []) (pm_q189_2 (Nat.le_of_ble_eq_true rfl)) rfl ?_
                  refine pm_R_lo pm_M189 (pc' := 227) (pm_q189_2 (Nat.le_of_ble_eq_true rfl)) rfl rfl ?_
                  refine pm_R_op pm_M189 (pc' := 228) (st' := [.int 1, .ref 41]) (pm_q189_2 (Nat.le_of_ble_eq_true rfl)) rfl rfl ?_
                  refine pm_R_op pm_M189 (pc' := 229) (st' := [.int 2, .int 1, .ref 41]) (pm_q189_2 (Nat.le_of_ble_eq_true rfl)) rfl rfl ?_
                  refine pm_R_op pm_M189 (pc' := 230) (st' := [.int 3, .int 2, .int 1, .ref 41]) (pm_q189_2 (Nat.le_of_ble_eq_true rfl)) rfl rfl ?_
                  refine pm_R_op pm_M189 (pc' := 232) (st' := [.int 50, .int 3, .int 2, .int 1, .ref 41]) (pm_q189_2 (Nat.le_of_ble_eq_true rfl)) rfl rfl ?_
                  refine pm_R_op pm_M189 (pc' := 233) (st' := [.int 0, .int 50, .int 3, .int 2, .int 1, .ref 41]) (pm_q189_2 (Nat.le_of_ble_eq_true rfl)) rfl rfl ?_
                  refine pm_R_cv pm_M189 (pc' := 236) (a := 41) (ra := [.int 0, .int 50, .int 3, .int 2, .int 1]) (rest := []) (ls' := [.ref 41, .int 1, .int 2, .int 3, .int 50, .int 0, pm_no, pm_no]) (pm_q189_2 (Nat.le_of_ble_eq_true rfl)) rfl (Or.inl rfl) pm_M185 T4737.2.1 rfl (by decide) (Nat.lt_of_lt_of_le (by decide) T4737.1) rfl rfl (Nat.le_of_ble_eq_true rfl) rfl rfl ?_
                  have e4799 := (F4738.cell (by decide) (F4689.cell (by decide) (F4492.cell (by decide) (F4474.cell (by decide) (F4461.cell (by decide) (F4456.cell (by decide) (F4451.cell (by decide) (F4446.cell (by decide) (F4425.cell (by decide) (F4410.cell (by decide) e3))))))))))
                  refine rf_c185_d (d := d + 3) T4737 (⟨f2, e4799, ct4, fun z => (sf_pos B4743 (by decide) z)⟩) (fun z => sf_pos B4743 (by decide) z) (fun m4802 w4803 h4804 T4805 F4806 W4807 X4808 => ?_)
                  have F4809 := F4788.trans F4806 (by decide)
                  have B4810 : sf_B 0 5 (m4802 21) := by rw [W4807 21 (by decide)]; exact B4789
                  have ek4811 : (m4802 21).toInt = (v4540).toInt := by rw [W4807 21 (by decide)]; exact ek4790
                  have B4812 : sf_B 0 600 (m4802 10) := by rw [W4807 10 (by decide)]; exact B4792
                  have ek4813 : (m4802 10).toInt = ((m4734 10)).toInt := by rw [W4807 10 (by decide)]
                  have B4814 : sf_B 1 4 (m4802 17) := by rw [W4807 17 (by decide)]; exact B4743
                  have ek4815 : (m4802 17).toInt = ((m4734 17)).toInt := by rw [W4807 17 (by decide)]
                  have B4816 : sf_B 0 0 (m4802 22) := by rw [W4807 22 (by decide)]; exact B4744
                  have ek4817 : (m4802 22).toInt = ((m4734 22)).toInt := by rw [W4807 22 (by decide)]
                  have W4818 : rf_W [10, 12, 13, 14, 16, 17, 18, 21, 22] m m4802 := W4791.trans W4807 (by decide)
                  show pm_R _ 189 236 [.ref 41, .long a0, pm_no, .int a1, pm_no] [] _ _
                  obtain ⟨f4819, e4820, ct4821, bd4822⟩ := X4808
                  refine pm_R_op pm_M189 (pc' := 237) (st' := [.int 1]) (pm_q189_2 (Nat.le_of_ble_eq_true rfl)) rfl rfl ?_
                  exact pm_R_ret pm_M189 (r := some (.int 1)) (pm_q189_2 (Nat.le_of_ble_eq_true rfl)) rfl (K1 m4802 w4803 h4804 T4805 F4809 W4818 (⟨f4819, e4820, ct4821, fun z => (sf_pos B4814 (by decide) z)⟩) (sf_aux39 _ _ _ ek4813 R4795))
            · have F4823 := F4476.trans F4505 (by decide)
              have W4824 : rf_W [10, 12, 13, 14, 16, 17, 18, 21, 22] m m4501 := W4434.trans W4506 (by decide)
              have B4825 : sf_B 0 600 (m4501 10) := T4504.2.2.1 10
              have B4826 : sf_B 0 4 (m4501 17) := T4504.2.2.1 17
              have B4827 : sf_B 0 1 (m4501 22) := T4504.2.2.1 22
              show pm_R _ 191 7 [.ref 41, .int 1, .int (-1), pm_no] [.int 1] _ _
              have R4828 : (m 10).toInt ≤ (m4501 10).toInt := (sf_aux70 _ _ _ R4436 X4509)
              obtain ⟨v4829, B4830, e4831⟩ := X4507 _ e4475
              refine pm_R_lo pm_M191 (pc' := 8) (ls' := [.ref 41, .int 1, .int (-1), .int 1]) (st' := []) rfl rfl rfl ?_
              refine pm_R_lo pm_M191 (pc' := 9) rfl rfl rfl ?_
              refine pm_R_lo pm_M191 (pc' := 10) rfl rfl rfl ?_
              refine pm_R_br pm_M191 (pc' := 13) (st' := [.ref 41]) rfl rfl ?_
              refine pm_R_lo pm_M191 (pc' := 14) rfl rfl rfl ?_
              refine rf_R_get pm_M191 T4504 (pc' := 17) (v := .ref 52) rfl rfl rfl rfl ?_
              refine pm_R_lo pm_M191 (pc' := 18) rfl rfl rfl ?_
              refine pm_R_iald pm_M191 (pc' := 19) (v := v4829) rfl e4831 (Nat.lt_of_lt_of_le (by decide) T4504.1) rfl sf_upd_eq rfl ?_
              refine pm_R_lo pm_M191 (pc' := 20) rfl rfl rfl ?_
              have B4834 : sf_B (-1) 99 (m4501 21) := T4504.2.2.1 21
              refine rf_R_get pm_M191 T4504 (pc' := 23) (v := .int (m4501 21)) rfl rfl rfl rfl ?_
              refine pm_R_icmp pm_M191 (t := 35) (pc' := 26) rfl rfl rfl (fun c4835 => ?_) (fun c4835 => ?_)
              · have B4836 : sf_B 0 99 (m4501 21) := sf_leR c4835 B4830 B4834
                refine pm_R_lo pm_M191 (pc' := 36) rfl rfl rfl ?_
                refine rf_R_get pm_M191 T4504 (pc' := 39) (v := .int (m4501 21)) rfl rfl rfl rfl ?_
                refine rf_R_put pm_M191 T4504 (pc' := 42) rfl rfl rfl (by decide) rfl rfl (sf_weak B4836 (by decide) (by decide)) rfl rfl (fun h4837 m4840 em4841 T4838 F4839 => ?_)
                have F4842 := F4823.trans F4839 (by decide)
                have B4843 : sf_B 0 600 (m4840 10) := by rw [em4841]; exact B4825
                have ek4844 : (m4840 10).toInt = ((m4501 10)).toInt := by rw [em4841]; rfl
                have B4845 : sf_B 1 4 (m4840 17) := by rw [em4841]; exact B4510
                have ek4846 : (m4840 17).toInt = ((m4501 17)).toInt := by rw [em4841]; rfl
                have B4847 : sf_B 0 0 (m4840 22) := by rw [em4841]; exact B4511
                have ek4848 : (m4840 22).toInt = ((m4501 22)).toInt := by rw [em4841]; rfl
                have B4849 : sf_B 0 99 (m4840 21) := by rw [em4841]; exact B4836
                have ek4850 : (m4840 21).toInt = ((m4501 21)).toInt := by rw [em4841]; rfl
                have W4851 : rf_W [10, 12, 13, 14, 16, 17, 18, 21, 22] m m4840 := by rw [em4841]; exact W4824.put (by decide)
                refine pm_R_lo pm_M191 (pc' := 43) rfl rfl rfl ?_
                refine pm_R_ret pm_M191 (r := some (.int 1)) rfl rfl ?_
                show pm_R _ 189 178 [.ref 41, .long a0, pm_no, .int a1, pm_no] [.int 1] _ _
                refine pm_R_br pm_M189 (pc' := 183) (st' := []) (pm_q189_1 (Nat.le_of_ble_eq_true rfl)) rfl ?_
                refine pm_R_lo pm_M189 (pc' := 184) (pm_q189_1 (Nat.le_of_ble_eq_true rfl)) rfl rfl ?_
                refine pm_R_ldc2 pm_M189 (pc' := 187) (pm_q189_1 (Nat.le_of_ble_eq_true rfl)) rfl rfl ?_
                refine pm_R_op pm_M189 (pc' := 188) (st' := [.int z338]) (pm_q189_1 (Nat.le_of_ble_eq_true rfl)) (by show some (Value.int (lg_cmp a0 1819242347) :: _) = _; rw [← e339]) rfl ?_
                refine pm_R_ifc pm_M189 (t := 205) (pc' := 191) (pm_q189_1 (Nat.le_of_ble_eq_true rfl)) rfl rfl (fun c4854 => ?_) (fun c4854 => absurd (Classical.not_not.mp c4854) c340)
                have k4855 := sf_lneC e339 c4854
                refine pm_R_lo pm_M189 (pc' := 206) (pm_q189_1 (Nat.le_of_ble_eq_true rfl)) rfl rfl ?_
                refine pm_R_ldc2 pm_M189 (pc' := 209) (pm_q189_1 (Nat.le_of_ble_eq_true rfl)) rfl rfl ?_
                refine pm_R_op pm_M189 (pc' := 210) (st' := [.int z3698]) (pm_q189_1 (Nat.le_of_ble_eq_true rfl)) (by show some (Value.int (lg_cmp a0 1935767923) :: _) = _; rw [← e3699]) rfl ?_
                refine pm_R_ifc pm_M189 (t := 226) (pc' := 213) (pm_q189_1 (Nat.le_of_ble_eq_true rfl)) rfl rfl (fun c4858 => absurd (sf_pt2 B3701 sf_k0) c4858) (fun c4858 => ?_)
                refine pm_R_lo pm_M189 (pc' := 214) (pm_q189_1 (Nat.le_of_ble_eq_true rfl)) rfl rfl ?_
                refine pm_R_op pm_M189 (pc' := 215) (st' := [.int 2, .ref 41]) (pm_q189_1 (Nat.le_of_ble_eq_true rfl)) rfl rfl ?_
                refine pm_R_op pm_M189 (pc' := 217) (st' := [.int 9, .int 2, .ref 41]) (pm_q189_1 (Nat.le_of_ble_eq_true rfl)) rfl rfl ?_
                refine pm_R_op pm_M189 (pc' := 218) (st' := [.int (-1), .int 9, .int 2, .ref 41]) (pm_q189_1 (Nat.le_of_ble_eq_true rfl)) rfl rfl ?_
                refine pm_R_cv pm_M189 (pc' := 221) (a := 41) (ra := [.int (-1), .int 9, .int 2]) (rest := []) (ls' := [.ref 41, .int 2, .int 9, .int (-1)]) (pm_q189_2 (Nat.le_of_ble_eq_true rfl)) rfl (Or.inl rfl) pm_M183 T4838.2.1 rfl (by decide) (Nat.lt_of_lt_of_le (by decide) T4838.1) rfl rfl (Nat.le_of_ble_eq_true rfl) rfl rfl ?_
                have e4859 := (F4839.cell (by decide) e4831)
                refine rf_c183_2_9 (d := d + 1) T4838  (fun m4862 w4863 h4864 T4865 F4866 W4867 X4868 => ?_) (fun m4871 w4872 h4873 T4874 F4875 W4876 X4877 X4878 X4879 X4880 X4881 => ?_) (fun m4884 w4885 h4886 T4887 F4888 W4889 X4890 X4891 X4892 B4893 B4894 => ?_)
                · have F4895 := F4842.trans F4866 (by decide)
                  have B4896 : sf_B 0 99 (m4862 21) := by rw [W4867 21 (by decide)]; exact B4849
                  have ek4897 : (m4862 21).toInt = ((m4501 21)).toInt := by rw [W4867 21 (by decide)]; exact ek4850
                  have W4898 : rf_W [10, 12, 13, 14, 16, 17, 18, 21, 22] m m4862 := W4851.trans W4867 (by decide)
                  have B4899 : sf_B 0 600 (m4862 10) := T4865.2.2.1 10
                  have B4900 : sf_B 0 4 (m4862 17) := T4865.2.2.1 17
                  have B4901 : sf_B 0 1 (m4862 22) := T4865.2.2.1 22
                  show pm_R _ 189 221 [.ref 41, .long a0, pm_no, .int a1, pm_no] [.int 0] _ _
                  have R4902 : (m 10).toInt ≤ (m4862 10).toInt := (sf_aux77 _ _ _ _ ek4844 R4828 X4868)
                  refine pm_R_br pm_M189 (pc' := 224) (st' := []) (pm_q189_2 (Nat.le_of_ble_eq_true rfl)) rfl ?_
                  refine pm_R_op pm_M189 (pc' := 225) (st' := [.int 0]) (pm_q189_2 (Nat.le_of_ble_eq_true rfl)) rfl rfl ?_
                  exact pm_R_ret pm_M189 (r := some (.int 0)) (pm_q189_2 (Nat.le_of_ble_eq_true rfl)) rfl (K0 m4862 w4863 h4864 T4865 F4895 W4898 (sf_aux51 _ _ R4902))
                · have F4903 := F4842.trans F4875 (by decide)
                  have B4904 : sf_B 0 99 (m4871 21) := by rw [W4876 21 (by decide)]; exact B4849
                  have ek4905 : (m4871 21).toInt = ((m4501 21)).toInt := by rw [W4876 21 (by decide)]; exact ek4850
                  have W4906 : rf_W [10, 12, 13, 14, 16, 17, 18, 21, 22] m m4871 := W4851.trans W4876 (by decide)
                  have B4907 : sf_B 0 600 (m4871 10) := T4874.2.2.1 10
                  have B4908 : sf_B 0 4 (m4871 17) := T4874.2.2.1 17
                  have B4909 : sf_B 0 1 (m4871 22) := T4874.2.2.1 22
                  show pm_R _ 189 221 [.ref 41, .long a0, pm_no, .int a1, pm_no] [.int 1] _ _
                  have R4910 : (m 10).toInt ≤ (m4871 10).toInt := (sf_aux77 _ _ _ _ ek4844 R4828 X4881)
                  obtain ⟨v4911, B4912, e4913⟩ := X4877 _ e4859
                  refine pm_R_br pm_M189 (pc' := 226) (st' := []) (pm_q189_2 (Nat.le_of_ble_eq_true rfl)) rfl ?_
                  refine pm_R_lo pm_M189 (pc' := 227) (pm_q189_2 (Nat.le_of_ble_eq_true rfl)) rfl rfl ?_
                  refine pm_R_op pm_M189 (pc' := 228) (st' := [.int 1, .ref 41]) (pm_q189_2 (Nat.le_of_ble_eq_true rfl)) rfl rfl ?_
                  refine pm_R_op pm_M189 (pc' := 229) (st' := [.int 2, .int 1, .ref 41]) (pm_q189_2 (Nat.le_of_ble_eq_true rfl)) rfl rfl ?_
                  refine pm_R_op pm_M189 (pc' := 230) (st' := [.int 3, .int 2, .int 1, .ref 41]) (pm_q189_2 (Nat.le_of_ble_eq_true rfl)) rfl rfl ?_
                  refine pm_R_op pm_M189 (pc' := 232) (st' := [.int 50, .int 3, .int 2, .int 1, .ref 41]) (pm_q189_2 (Nat.le_of_ble_eq_true rfl)) rfl rfl ?_
                  refine pm_R_op pm_M189 (pc' := 233) (st' := [.int 0, .int 50, .int 3, .int 2, .int 1, .ref 41]) (pm_q189_2 (Nat.le_of_ble_eq_true rfl)) rfl rfl ?_
                  refine pm_R_cv pm_M189 (pc' := 236) (a := 41) (ra := [.int 0, .int 50, .int 3, .int 2, .int 1]) (rest := []) (ls' := [.ref 41, .int 1, .int 2, .int 3, .int 50, .int 0, pm_no, pm_no]) (pm_q189_2 (Nat.le_of_ble_eq_true rfl)) rfl (Or.inl rfl) pm_M185 T4874.2.1 rfl (by decide) (Nat.lt_of_lt_of_le (by decide) T4874.1) rfl rfl (Nat.le_of_ble_eq_true rfl) rfl rfl ?_
                  have e4914 := (F4875.cell (by decide) (F4839.cell (by decide) (F4505.cell (by decide) (F4474.cell (by decide) (F4461.cell (by decide) (F4456.cell (by decide) (F4451.cell (by decide) (F4446.cell (by decide) (F4425.cell (by decide) (F4410.cell (by decide) e3))))))))))
                  refine rf_c185_d (d := d + 3) T4874 (⟨f2, e4914, ct4, fun z => (sf_pos (sf_eqT X4878 B4845) (by decide) z)⟩) (fun z => sf_pos (sf_eqT X4878 B4845) (by decide) z) (fun m4917 w4918 h4919 T4920 F4921 W4922 X4923 => ?_)
                  have F4924 := F4903.trans F4921 (by decide)
                  have B4925 : sf_B 0 99 (m4917 21) := by rw [W4922 21 (by decide)]; exact B4904
                  have ek4926 : (m4917 21).toInt = ((m4501 21)).toInt := by rw [W4922 21 (by decide)]; exact ek4905
                  have B4927 : sf_B 0 600 (m4917 10) := by rw [W4922 10 (by decide)]; exact B4907
                  have ek4928 : (m4917 10).toInt = ((m4871 10)).toInt := by rw [W4922 10 (by decide)]
                  have B4929 : sf_B 1 4 (m4917 17) := by rw [W4922 17 (by decide)]; exact (sf_eqT X4878 B4845)
                  have ek4930 : (m4917 17).toInt = ((m4840 17)).toInt := by rw [W4922 17 (by decide)]; exact X4878
                  have B4931 : sf_B 0 0 (m4917 22) := by rw [W4922 22 (by decide)]; exact (sf_eqT X4879 B4847)
                  have ek4932 : (m4917 22).toInt = ((m4840 22)).toInt := by rw [W4922 22 (by decide)]; exact X4879
                  have W4933 : rf_W [10, 12, 13, 14, 16, 17, 18, 21, 22] m m4917 := W4906.trans W4922 (by decide)
                  show pm_R _ 189 236 [.ref 41, .long a0, pm_no, .int a1, pm_no] [] _ _
                  obtain ⟨f4934, e4935, ct4936, bd4937⟩ := X4923
                  refine pm_R_op pm_M189 (pc' := 237) (st' := [.int 1]) (pm_q189_2 (Nat.le_of_ble_eq_true rfl)) rfl rfl ?_
                  exact pm_R_ret pm_M189 (r := some (.int 1)) (pm_q189_2 (Nat.le_of_ble_eq_true rfl)) rfl (K1 m4917 w4918 h4919 T4920 F4924 W4933 (⟨f4934, e4935, ct4936, fun z => (sf_pos B4929 (by decide) z)⟩) (sf_aux39 _ _ _ ek4928 R4910))
                · have F4938 := F4842.trans F4888 (by decide)
                  have B4939 : sf_B 0 99 (m4884 21) := by rw [W4889 21 (by decide)]; exact B4849
                  have ek4940 : (m4884 21).toInt = ((m4501 21)).toInt := by rw [W4889 21 (by decide)]; exact ek4850
                  have W4941 : rf_W [10, 12, 13, 14, 16, 17, 18, 21, 22] m m4884 := W4851.trans W4889 (by decide)
                  have B4942 : sf_B 0 600 (m4884 10) := T4887.2.2.1 10
                  have B4943 : sf_B 0 4 (m4884 17) := T4887.2.2.1 17
                  have B4944 : sf_B 0 1 (m4884 22) := T4887.2.2.1 22
                  show pm_R _ 189 221 [.ref 41, .long a0, pm_no, .int a1, pm_no] [.int 1] _ _
                  have R4945 : (m 10).toInt ≤ (m4884 10).toInt := (sf_aux77 _ _ _ _ ek4844 R4828 X4892)
                  obtain ⟨v4946, B4947, e4948⟩ := X4890 _ e4859
                  refine pm_R_br pm_M189 (pc' := 226) (st' := []) (pm_q189_2 (Nat.le_of_ble_eq_true rfl)) rfl ?_
                  refine pm_R_lo pm_M189 (pc' := 227) (pm_q189_2 (Nat.le_of_ble_eq_true rfl)) rfl rfl ?_
                  refine pm_R_op pm_M189 (pc' := 228) (st' := [.int 1, .ref 41]) (pm_q189_2 (Nat.le_of_ble_eq_true rfl)) rfl rfl ?_
                  refine pm_R_op pm_M189 (pc' := 229) (st' := [.int 2, .int 1, .ref 41]) (pm_q189_2 (Nat.le_of_ble_eq_true rfl)) rfl rfl ?_
                  refine pm_R_op pm_M189 (pc' := 230) (st' := [.int 3, .int 2, .int 1, .ref 41]) (pm_q189_2 (Nat.le_of_ble_eq_true rfl)) rfl rfl ?_
                  refine pm_R_op pm_M189 (pc' := 232) (st' := [.int 50, .int 3, .int 2, .int 1, .ref 41]) (pm_q189_2 (Nat.le_of_ble_eq_true rfl)) rfl rfl ?_
                  refine pm_R_op pm_M189 (pc' := 233) (st' := [.int 0, .int 50, .int 3, .int 2, .int 1, .ref 41]) (pm_q189_2 (Nat.le_of_ble_eq_true rfl)) rfl rfl ?_
                  refine pm_R_cv pm_M189 (pc' := 236) (a := 41) (ra := [.int 0, .int 50, .int 3, .int 2, .int 1]) (rest := []) (ls' := [.ref 41, .int 1, .int 2, .int 3, .int 50, .int 0, pm_no, pm_no]) (pm_q189_2 (Nat.le_of_ble_eq_true rfl)) rfl (Or.inl rfl) pm_M185 T4887.2.1 rfl (by decide) (Nat.lt_of_lt_of_le (by decide) T4887.1) rfl rfl (Nat.le_of_ble_eq_true rfl) rfl rfl ?_
                  have e4949 := (F4888.cell (by decide) (F4839.cell (by decide) (F4505.cell (by decide) (F4474.cell (by decide) (F4461.cell (by decide) (F4456.cell (by decide) (F4451.cell (by decide) (F4446.cell (by decide) (F4425.cell (by decide) (F4410.cell (by decide) e3))))))))))
                  refine rf_c185_d (d := d + 3) T4887 (⟨f2, e4949, ct4, fun z => (sf_pos B4893 (by decide) z)⟩) (fun z => sf_pos B4893 (by decide) z) (fun m4952 w4953 h4954 T4955 F4956 W4957 X4958 => ?_)
                  have F4959 := F4938.trans F4956 (by decide)
                  have B4960 : sf_B 0 99 (m4952 21) := by rw [W4957 21 (by decide)]; exact B4939
                  have ek4961 : (m4952 21).toInt = ((m4501 21)).toInt := by rw [W4957 21 (by decide)]; exact ek4940
                  have B4962 : sf_B 0 600 (m4952 10) := by rw [W4957 10 (by decide)]; exact B4942
                  have ek4963 : (m4952 10).toInt = ((m4884 10)).toInt := by rw [W4957 10 (by decide)]
                  have B4964 : sf_B 1 4 (m4952 17) := by rw [W4957 17 (by decide)]; exact B4893
                  have ek4965 : (m4952 17).toInt = ((m4884 17)).toInt := by rw [W4957 17 (by decide)]
                  have B4966 : sf_B 0 0 (m4952 22) := by rw [W4957 22 (by decide)]; exact B4894
                  have ek4967 : (m4952 22).toInt = ((m4884 22)).toInt := by rw [W4957 22 (by decide)]
                  have W4968 : rf_W [10, 12, 13, 14, 16, 17, 18, 21, 22] m m4952 := W4941.trans W4957 (by decide)
                  show pm_R _ 189 236 [.ref 41, .long a0, pm_no, .int a1, pm_no] [] _ _
                  obtain ⟨f4969, e4970, ct4971, bd4972⟩ := X4958
                  refine pm_R_op pm_M189 (pc' := 237) (st' := [.int 1]) (pm_q189_2 (Nat.le_of_ble_eq_true rfl)) rfl rfl ?_
                  exact pm_R_ret pm_M189 (r := some (.int 1)) (pm_q189_2 (Nat.le_of_ble_eq_true rfl)) rfl (K1 m4952 w4953 h4954 T4955 F4959 W4968 (⟨f4969, e4970, ct4971, fun z => (sf_pos B4964 (by decide) z)⟩) (sf_aux39 _ _ _ ek4963 R4945))
              · have B4973 : sf_B (-1) 98 (m4501 21) := sf_ltL (Int32.not_le.mp c4835) B4834 B4830
                refine pm_R_lo pm_M191 (pc' := 27) rfl rfl rfl ?_
                refine rf_R_get pm_M191 T4504 (pc' := 30) (v := .ref 52) rfl rfl rfl rfl ?_
                refine pm_R_lo pm_M191 (pc' := 31) rfl rfl rfl ?_
                refine pm_R_iald pm_M191 (pc' := 32) (v := v4829) rfl e4831 (Nat.lt_of_lt_of_le (by decide) T4504.1) rfl sf_upd_eq rfl ?_
                refine pm_R_br pm_M191 (pc' := 39) rfl rfl ?_
                refine rf_R_put pm_M191 T4504 (pc' := 42) rfl rfl rfl (by decide) rfl rfl (sf_weak B4830 (by decide) (by decide)) rfl rfl (fun h4976 m4979 em4980 T4977 F4978 => ?_)
                have F4981 := F4823.trans F4978 (by decide)
                have B4982 : sf_B 0 600 (m4979 10) := by rw [em4980]; exact B4825
                have ek4983 : (m4979 10).toInt = ((m4501 10)).toInt := by rw [em4980]; rfl
                have B4984 : sf_B 1 4 (m4979 17) := by rw [em4980]; exact B4510
                have ek4985 : (m4979 17).toInt = ((m4501 17)).toInt := by rw [em4980]; rfl
                have B4986 : sf_B 0 0 (m4979 22) := by rw [em4980]; exact B4511
                have ek4987 : (m4979 22).toInt = ((m4501 22)).toInt := by rw [em4980]; rfl
                have B4988 : sf_B 0 99 (m4979 21) := by rw [em4980]; exact B4830
                have ek4989 : (m4979 21).toInt = (v4829).toInt := by rw [em4980]; rfl
                have W4990 : rf_W [10, 12, 13, 14, 16, 17, 18, 21, 22] m m4979 := by rw [em4980]; exact W4824.put (by decide)
                refine pm_R_lo pm_M191 (pc' := 43) rfl rfl rfl ?_
                refine pm_R_ret pm_M191 (r := some (.int 1)) rfl rfl ?_
                show pm_R _ 189 178 [.ref 41, .long a0, pm_no, .int a1, pm_no] [.int 1] _ _
                refine pm_R_br pm_M189 (pc' := 183) (st' := []) (pm_q189_1 (Nat.le_of_ble_eq_true rfl)) rfl ?_
                refine pm_R_lo pm_M189 (pc' := 184) (pm_q189_1 (Nat.le_of_ble_eq_true rfl)) rfl rfl ?_
                refine pm_R_ldc2 pm_M189 (pc' := 187) (pm_q189_1 (Nat.le_of_ble_eq_true rfl)) rfl rfl ?_
                refine pm_R_op pm_M189 (pc' := 188) (st' := [.int z338]) (pm_q189_1 (Nat.le_of_ble_eq_true rfl)) (by show some (Value.int (lg_cmp a0 1819242347) :: _) = _; rw [← e339]) rfl ?_
                refine pm_R_ifc pm_M189 (t := 205) (pc' := 191) (pm_q189_1 (Nat.le_of_ble_eq_true rfl)) rfl rfl (fun c4993 => ?_) (fun c4993 => absurd (Classical.not_not.mp c4993) c340)
                have k4994 := sf_lneC e339 c4993
                refine pm_R_lo pm_M189 (pc' := 206) (pm_q189_1 (Nat.le_of_ble_eq_true rfl)) rfl rfl ?_
                refine pm_R_ldc2 pm_M189 (pc' := 209) (pm_q189_1 (Nat.le_of_ble_eq_true rfl)) rfl rfl ?_
                refine pm_R_op pm_M189 (pc' := 210) (st' := [.int z3698]) (pm_q189_1 (Nat.le_of_ble_eq_true rfl)) (by show some (Value.int (lg_cmp a0 1935767923) :: _) = _; rw [← e3699]) rfl ?_
                refine pm_R_ifc pm_M189 (t := 226) (pc' := 213) (pm_q189_1 (Nat.le_of_ble_eq_true rfl)) rfl rfl (fun c4997 => absurd (sf_pt2 B3701 sf_k0) c4997) (fun c4997 => ?_)
                refine pm_R_lo pm_M189 (pc' := 214) (pm_q189_1 (Nat.le_of_ble_eq_true rfl)) rfl rfl ?_
                refine pm_R_op pm_M189 (pc' := 215) (st' := [.int 2, .ref 41]) (pm_q189_1 (Nat.le_of_ble_eq_true rfl)) rfl rfl ?_
                refine pm_R_op pm_M189 (pc' := 217) (st' := [.int 9, .int 2, .ref 41]) (pm_q189_1 (Nat.le_of_ble_eq_true rfl)) rfl rfl ?_
                refine pm_R_op pm_M189 (pc' := 218) (st' := [.int (-1), .int 9, .int 2, .ref 41]) (pm_q189_1 (Nat.le_of_ble_eq_true rfl)) rfl rfl ?_
                refine pm_R_cv pm_M189 (pc' := 221) (a := 41) (ra := [.int (-1), .int 9, .int 2]) (rest := []) (ls' := [.ref 41, .int 2, .int 9, .int (-1)]) (pm_q189_2 (Nat.le_of_ble_eq_true rfl)) rfl (Or.inl rfl) pm_M183 T4977.2.1 rfl (by decide) (Nat.lt_of_lt_of_le (by decide) T4977.1) rfl rfl (Nat.le_of_ble_eq_true rfl) rfl rfl ?_
                have e4998 := (F4978.cell (by decide) e4831)
                refine rf_c183_2_9 (d := d + 1) T4977  (fun m5001 w5002 h5003 T5004 F5005 W5006 X5007 => ?_) (fun m5010 w5011 h5012 T5013 F5014 W5015 X5016 X5017 X5018 X5019 X5020 => ?_) (fun m5023 w5024 h5025 T5026 F5027 W5028 X5029 X5030 X5031 B5032 B5033 => ?_)
                · have F5034 := F4981.trans F5005 (by decide)
                  have B5035 : sf_B 0 99 (m5001 21) := by rw [W5006 21 (by decide)]; exact B4988
                  have ek5036 : (m5001 21).toInt = (v4829).toInt := by rw [W5006 21 (by decide)]; exact ek4989
                  have W5037 : rf_W [10, 12, 13, 14, 16, 17, 18, 21, 22] m m5001 := W4990.trans W5006 (by decide)
                  have B5038 : sf_B 0 600 (m5001 10) := T5004.2.2.1 10
                  have B5039 : sf_B 0 4 (m5001 17) := T5004.2.2.1 17
                  have B5040 : sf_B 0 1 (m5001 22) := T5004.2.2.1 22
                  show pm_R _ 189 221 [.ref 41, .long a0, pm_no, .int a1, pm_no] [.int 0] _ _
                  have R5041 : (m 10).toInt ≤ (m5001 10).toInt := (sf_aux77 _ _ _ _ ek4983 R4828 X5007)
                  refine pm_R_br pm_M189 (pc' := 224) (st' := []) (pm_q189_2 (Nat.le_of_ble_eq_true rfl)) rfl ?_
                  refine pm_R_op pm_M189 (pc' := 225) (st' := [.int 0]) (pm_q189_2 (Nat.le_of_ble_eq_true rfl)) rfl rfl ?_
                  exact pm_R_ret pm_M189 (r := some (.int 0)) (pm_q189_2 (Nat.le_of_ble_eq_true rfl)) rfl (K0 m5001 w5002 h5003 T5004 F5034 W5037 (sf_aux51 _ _ R5041))
                · have F5042 := F4981.trans F5014 (by decide)
                  have B5043 : sf_B 0 99 (m5010 21) := by rw [W5015 21 (by decide)]; exact B4988
                  have ek5044 : (m5010 21).toInt = (v4829).toInt := by rw [W5015 21 (by decide)]; exact ek4989
                  have W5045 : rf_W [10, 12, 13, 14, 16, 17, 18, 21, 22] m m5010 := W4990.trans W5015 (by decide)
                  have B5046 : sf_B 0 600 (m5010 10) := T5013.2.2.1 10
                  have B5047 : sf_B 0 4 (m5010 17) := T5013.2.2.1 17
                  have B5048 : sf_B 0 1 (m5010 22) := T5013.2.2.1 22
                  show pm_R _ 189 221 [.ref 41, .long a0, pm_no, .int a1, pm_no] [.int 1] _ _
                  have R5049 : (m 10).toInt ≤ (m5010 10).toInt := (sf_aux77 _ _ _ _ ek4983 R4828 X5020)
                  obtain ⟨v5050, B5051, e5052⟩ := X5016 _ e4998
                  refine pm_R_br pm_M189 (pc' := 226) (st' := []) (pm_q189_2 (Nat.le_of_ble_eq_true rfl)) rfl ?_
                  refine pm_R_lo pm_M189 (pc' := 227) (pm_q189_2 (Nat.le_of_ble_eq_true rfl)) rfl rfl ?_
                  refine pm_R_op pm_M189 (pc' := 228) (st' := [.int 1, .ref 41]) (pm_q189_2 (Nat.le_of_ble_eq_true rfl)) rfl rfl ?_
                  refine pm_R_op pm_M189 (pc' := 229) (st' := [.int 2, .int 1, .ref 41]) (pm_q189_2 (Nat.le_of_ble_eq_true rfl)) rfl rfl ?_
                  refine pm_R_op pm_M189 (pc' := 230) (st' := [.int 3, .int 2, .int 1, .ref 41]) (pm_q189_2 (Nat.le_of_ble_eq_true rfl)) rfl rfl ?_
                  refine pm_R_op pm_M189 (pc' := 232) (st' := [.int 50, .int 3, .int 2, .int 1, .ref 41]) (pm_q189_2 (Nat.le_of_ble_eq_true rfl)) rfl rfl ?_
                  refine pm_R_op pm_M189 (pc' := 233) (st' := [.int 0, .int 50, .int 3, .int 2, .int 1, .ref 41]) (pm_q189_2 (Nat.le_of_ble_eq_true rfl)) rfl rfl ?_
                  refine pm_R_cv pm_M189 (pc' := 236) (a := 41) (ra := [.int 0, .int 50, .int 3, .int 2, .int 1]) (rest := []) (ls' := [.ref 41, .int 1, .int 2, .int 3, .int 50, .int 0, pm_no, pm_no]) (pm_q189_2 (Nat.le_of_ble_eq_true rfl)) rfl (Or.inl rfl) pm_M185 T5013.2.1 rfl (by decide) (Nat.lt_of_lt_of_le (by decide) T5013.1) rfl rfl (Nat.le_of_ble_eq_true rfl) rfl rfl ?_
                  have e5053 := (F5014.cell (by decide) (F4978.cell (by decide) (F4505.cell (by decide) (F4474.cell (by decide) (F4461.cell (by decide) (F4456.cell (by decide) (F4451.cell (by decide) (F4446.cell (by decide) (F4425.cell (by decide) (F4410.cell (by decide) e3))))))))))
                  refine rf_c185_d (d := d + 3) T5013 (⟨f2, e5053, ct4, fun z => (sf_pos (sf_eqT X5017 B4984) (by decide) z)⟩) (fun z => sf_pos (sf_eqT X5017 B4984) (by decide) z) (fun m5056 w5057 h5058 T5059 F5060 W5061 X5062 => ?_)
                  have F5063 := F5042.trans F5060 (by decide)
                  have B5064 : sf_B 0 99 (m5056 21) := by rw [W5061 21 (by decide)]; exact B5043
                  have ek5065 : (m5056 21).toInt = (v4829).toInt := by rw [W5061 21 (by decide)]; exact ek5044
                  have B5066 : sf_B 0 600 (m5056 10) := by rw [W5061 10 (by decide)]; exact B5046
                  have ek5067 : (m5056 10).toInt = ((m5010 10)).toInt := by rw [W5061 10 (by decide)]
                  have B5068 : sf_B 1 4 (m5056 17) := by rw [W5061 17 (by decide)]; exact (sf_eqT X5017 B4984)
                  have ek5069 : (m5056 17).toInt = ((m4979 17)).toInt := by rw [W5061 17 (by decide)]; exact X5017
                  have B5070 : sf_B 0 0 (m5056 22) := by rw [W5061 22 (by decide)]; exact (sf_eqT X5018 B4986)
                  have ek5071 : (m5056 22).toInt = ((m4979 22)).toInt := by rw [W5061 22 (by decide)]; exact X5018
                  have W5072 : rf_W [10, 12, 13, 14, 16, 17, 18, 21, 22] m m5056 := W5045.trans W5061 (by decide)
                  show pm_R _ 189 236 [.ref 41, .long a0, pm_no, .int a1, pm_no] [] _ _
                  obtain ⟨f5073, e5074, ct5075, bd5076⟩ := X5062
                  refine pm_R_op pm_M189 (pc' := 237) (st' := [.int 1]) (pm_q189_2 (Nat.le_of_ble_eq_true rfl)) rfl rfl ?_
                  exact pm_R_ret pm_M189 (r := some (.int 1)) (pm_q189_2 (Nat.le_of_ble_eq_true rfl)) rfl (K1 m5056 w5057 h5058 T5059 F5063 W5072 (⟨f5073, e5074, ct5075, fun z => (sf_pos B5068 (by decide) z)⟩) (sf_aux39 _ _ _ ek5067 R5049))
                · have F5077 := F4981.trans F5027 (by decide)
                  have B5078 : sf_B 0 99 (m5023 21) := by rw [W5028 21 (by decide)]; exact B4988
                  have ek5079 : (m5023 21).toInt = (v4829).toInt := by rw [W5028 21 (by decide)]; exact ek4989
                  have W5080 : rf_W [10, 12, 13, 14, 16, 17, 18, 21, 22] m m5023 := W4990.trans W5028 (by decide)
                  have B5081 : sf_B 0 600 (m5023 10) := T5026.2.2.1 10
                  have B5082 : sf_B 0 4 (m5023 17) := T5026.2.2.1 17
                  have B5083 : sf_B 0 1 (m5023 22) := T5026.2.2.1 22
                  show pm_R _ 189 221 [.ref 41, .long a0, pm_no, .int a1, pm_no] [.int 1] _ _
                  have R5084 : (m 10).toInt ≤ (m5023 10).toInt := (sf_aux77 _ _ _ _ ek4983 R4828 X5031)
                  obtain ⟨v5085, B5086, e5087⟩ := X5029 _ e4998
                  refine pm_R_br pm_M189 (pc' := 226) (st' := []) (pm_q189_2 (Nat.le_of_ble_eq_true rfl)) rfl ?_
                  refine pm_R_lo pm_M189 (pc' := 227) (pm_q189_2 (Nat.le_of_ble_eq_true rfl)) rfl rfl ?_
                  refine pm_R_op pm_M189 (pc' := 228) (st' := [.int 1, .ref 41]) (pm_q189_2 (Nat.le_of_ble_eq_true rfl)) rfl rfl ?_
                  refine pm_R_op pm_M189 (pc' := 229) (st' := [.int 2, .int 1, .ref 41]) (pm_q189_2 (Nat.le_of_ble_eq_true rfl)) rfl rfl ?_
                  refine pm_R_op pm_M189 (pc' := 230) (st' := [.int 3, .int 2, .int 1, .ref 41]) (pm_q189_2 (Nat.le_of_ble_eq_true rfl)) rfl rfl ?_
                  refine pm_R_op pm_M189 (pc' := 232) (st' := [.int 50, .int 3, .int 2, .int 1, .ref 41]) (pm_q189_2 (Nat.le_of_ble_eq_true rfl)) rfl rfl ?_
                  refine pm_R_op pm_M189 (pc' := 233) (st' := [.int 0, .int 50, .int 3, .int 2, .int 1, .ref 41]) (pm_q189_2 (Nat.le_of_ble_eq_true rfl)) rfl rfl ?_
                  refine pm_R_cv pm_M189 (pc' := 236) (a := 41) (ra := [.int 0, .int 50, .int 3, .int 2, .int 1]) (rest := []) (ls' := [.ref 41, .int 1, .int 2, .int 3, .int 50, .int 0, pm_no, pm_no]) (pm_q189_2 (Nat.le_of_ble_eq_true rfl)) rfl (Or.inl rfl) pm_M185 T5026.2.1 rfl (by decide) (Nat.lt_of_lt_of_le (by decide) T5026.1) rfl rfl (Nat.le_of_ble_eq_true rfl) rfl rfl ?_
                  have e5088 := (F5027.cell (by decide) (F4978.cell (by decide) (F4505.cell (by decide) (F4474.cell (by decide) (F4461.cell (by decide) (F4456.cell (by decide) (F4451.cell (by decide) (F4446.cell (by decide) (F4425.cell (by decide) (F4410.cell (by decide) e3))))))))))
                  refine rf_c185_d (d := d + 3) T5026 (⟨f2, e5088, ct4, fun z => (sf_pos B5032 (by decide) z)⟩) (fun z => sf_pos B5032 (by decide) z) (fun m5091 w5092 h5093 T5094 F5095 W5096 X5097 => ?_)
                  have F5098 := F5077.trans F5095 (by decide)
                  have B5099 : sf_B 0 99 (m5091 21) := by rw [W5096 21 (by decide)]; exact B5078
                  have ek5100 : (m5091 21).toInt = (v4829).toInt := by rw [W5096 21 (by decide)]; exact ek5079
                  have B5101 : sf_B 0 600 (m5091 10) := by rw [W5096 10 (by decide)]; exact B5081
                  have ek5102 : (m5091 10).toInt = ((m5023 10)).toInt := by rw [W5096 10 (by decide)]
                  have B5103 : sf_B 1 4 (m5091 17) := by rw [W5096 17 (by decide)]; exact B5032
                  have ek5104 : (m5091 17).toInt = ((m5023 17)).toInt := by rw [W5096 17 (by decide)]
                  have B5105 : sf_B 0 0 (m5091 22) := by rw [W5096 22 (by decide)]; exact B5033
                  have ek5106 : (m5091 22).toInt = ((m5023 22)).toInt := by rw [W5096 22 (by decide)]
                  have W5107 : rf_W [10, 12, 13, 14, 16, 17, 18, 21, 22] m m5091 := W5080.trans W5096 (by decide)
                  show pm_R _ 189 236 [.ref 41, .long a0, pm_no, .int a1, pm_no] [] _ _
                  obtain ⟨f5108, e5109, ct5110, bd5111⟩ := X5097
                  refine pm_R_op pm_M189 (pc' := 237) (st' := [.int 1]) (pm_q189_2 (Nat.le_of_ble_eq_true rfl)) rfl rfl ?_
                  exact pm_R_ret pm_M189 (r := some (.int 1)) (pm_q189_2 (Nat.le_of_ble_eq_true rfl)) rfl (K1 m5091 w5092 h5093 T5094 F5098 W5107 (⟨f5108, e5109, ct5110, fun z => (sf_pos B5103 (by decide) z)⟩) (sf_aux39 _ _ _ ek5102 R5084))
        · have k5112 := sf_lneC e3699 c3700
          refine pm_R_lo pm_M189 (pc' := 33) rfl rfl rfl ?_
          refine pm_R_cv pm_M189 (pc' := 36) (a := 41) (ra := []) (rest := []) (ls' := [.ref 41]) rfl rfl (Or.inl rfl) pm_M184 T.2.1 rfl (by decide) (Nat.lt_of_lt_of_le (by decide) T.1) rfl rfl (Nat.le_of_ble_eq_true rfl) rfl rfl ?_
          refine pm_R_lo pm_M184 (pc' := 1) rfl rfl rfl ?_
          refine pm_R_lo pm_M184 (pc' := 2) rfl rfl rfl ?_
          have B5113 : sf_B 0 600 (m 12) := T.2.2.1 12
          refine rf_R_get pm_M184 T (pc' := 5) (v := .int (m 12)) rfl rfl rfl rfl ?_
          refine rf_R_put pm_M184 T (pc' := 8) rfl rfl rfl (by decide) rfl rfl B5113 rfl rfl (fun h5114 m5117 em5118 T5115 F5116 => ?_)
          have F5119 := (rf_G.refl [41, 51, 52] h).trans F5116 (by decide)
          have B5120 : sf_B 0 600 (m5117 10) := by rw [em5118]; exact B1
          have ek5121 : (m5117 10).toInt = ((m 10)).toInt := by rw [em5118]; rfl
          have B5122 : sf_B 0 4 (m5117 17) := by rw [em5118]; exact B6
          have ek5123 : (m5117 17).toInt = ((m 17)).toInt := by rw [em5118]; rfl
          have B5124 : sf_B 0 600 (m5117 16) := by rw [em5118]; exact B5113
          have ek5125 : (m5117 16).toInt = ((m 12)).toInt := by rw [em5118]; rfl
          have W5126 : rf_W [10, 12, 13, 14, 16, 17, 18, 21, 22] m m5117 := by rw [em5118]; exact (rf_W.refl [10, 12, 13, 14, 16, 17, 18, 21, 22] m).put (by decide)
          have B5127 : sf_B 0 1 (m5117 22) := T5115.2.2.1 22
          refine pm_R_op pm_M184 (pc' := 9) (st' := [.int 0]) rfl rfl rfl ?_
          refine pm_R_ret pm_M184 (r := some (.int 0)) rfl rfl ?_
          show pm_R _ 189 36 [.ref 41, .long a0, pm_no, .int a1, pm_no] [.int 0] _ _
          exact pm_R_ret pm_M189 (r := some (.int 0)) rfl rfl (K0 m5117 w h5114 T5115 F5119 W5126 (sf_aux52 _ _ ek5121))
