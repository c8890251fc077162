theorem sf_aux75 (v0 v1 v2 : Int) (q0 : v0 = v1) (q1 : v2 = v0) (q2 : v2 = 0) : v1 = 0 := by omega
theorem sf_aux76 (v0 v1 v2 v3 : Int) (q0 : v0 = v1) (q1 : v2 ≤ v1) (q2 : v0 ≤ v3) : v2 ≤ v3 := by omega
set_option maxRecDepth 100000 in
set_option maxHeartbeats 4000000 in
/-- SilentTableModel.mealLine -/
theorem rf_c189 {d : Nat} {m : Nat → Int32} {w : Int64} {h : pm_H} {Q : Option Value → pm_H → Prop} {a0 : Int64} {a1 : Int32} (T : rf_T m w h) (Ba1 : sf_B 0 600 a1) (X : rf_I 2 (m 17) h) (K0 : ∀ (m_q : Nat → Int32) (w_q : Int64) (h_q : pm_H), rf_T m_q w_q h_q → rf_G [41, 51, 52] h h_q → rf_W [10, 12, 13, 14, 16, 17, 18, 21, 22] m m_q → (m 10).toInt ≤ (m_q 10).toInt → Q (some (.int 0)) h_q) (K1 : ∀ (m_q : Nat → Int32) (w_q : Int64) (h_q : pm_H), rf_T m_q w_q h_q → rf_G [41, 51, 52] h h_q → rf_W [10, 12, 13, 14, 16, 17, 18, 21, 22] m m_q → rf_I 2 (m_q 17) h_q → (m 10).toInt ≤ (m_q 10).toInt → Q (some (.int 1)) h_q) : pm_R (d + 4) 189 0 [.ref 41, .long a0, pm_no, .int a1, pm_no] [] h Q := by
  have B1 : sf_B 0 600 (m 10) := T.2.2.1 10
  obtain ⟨f2, e3, ct4, bd5⟩ := X
  have B6 : sf_B 0 4 (m 17) := T.2.2.1 17
  refine pm_R_lo pm_M189 (pc_q := 1) rfl rfl rfl ?_
  refine pm_R_ldc2 pm_M189 (pc_q := 4) rfl rfl rfl ?_
  refine sf_R_lcmp pm_M189 (pc_q := 5) rfl rfl (fun z7 e8 => ?_)
  refine pm_R_ifc pm_M189 (t := 37) (pc_q := 8) rfl rfl rfl (fun c9 => ?_) (fun c9 => ?_)
  · have B10 : sf_B 0 0 z7 := sf_eqL c9 sf_k0
    have B11 : lf_B 495622124659 495622124659 a0 := lf_eqB e8 B10 (⟨by decide, by decide⟩ : lf_B 495622124659 495622124659 495622124659)
    refine pm_R_lo pm_M189 (pc_q := 38) rfl rfl rfl ?_
    refine pm_R_ldc2 pm_M189 (pc_q := 41) rfl rfl rfl ?_
    refine pm_R_op pm_M189 (pc_q := 42) (st_q := [.int z7]) rfl (by show some (Value.int (lg_cmp a0 495622124659) :: _) = _; rw [← e8]) rfl ?_
    refine pm_R_ifc pm_M189 (t := 62) (pc_q := 45) rfl rfl rfl (fun c14 => ?_) (fun c14 => absurd (sf_pt2 B10 sf_k0) c14)
    refine pm_R_lo pm_M189 (pc_q := 63) rfl rfl rfl ?_
    refine pm_R_cv pm_M189 (pc_q := 66) (a := 41) (ra := []) (rest := []) (ls_q := [.ref 41, pm_no, pm_no]) rfl rfl (Or.inl rfl) pm_M179 T.2.1 rfl (by decide) (Nat.lt_of_lt_of_le (by decide) T.1) rfl rfl (Nat.le_of_ble_eq_true rfl) rfl rfl ?_
    refine rf_c179 (d := d + 2) T  (fun m17 w18 h19 T20 F21 W22 X23 X24 => ?_)
    have F25 := (rf_G.refl [41, 51, 52] h).trans F21 (by decide)
    have B26 : sf_B 0 4 (m17 17) := by rw [W22 17 (by decide)]; exact B6
    have ek27 : (m17 17).toInt = ((m 17)).toInt := by rw [W22 17 (by decide)]
    have W28 : rf_W [10, 12, 13, 14, 16, 17, 18, 21, 22] m m17 := (rf_W.refl [10, 12, 13, 14, 16, 17, 18, 21, 22] m).trans W22 (by decide)
    have B29 : sf_B 0 600 (m17 10) := T20.2.2.1 10
    have B30 : sf_B 0 4 (m17 13) := T20.2.2.1 13
    have B31 : sf_B 0 1 (m17 22) := T20.2.2.1 22
    show pm_R _ 189 66 [.ref 41, .long a0, pm_no, .int a1, pm_no] [] _ _
    have R32 : (m 10).toInt ≤ (m17 10).toInt := (sf_aux51 _ _ X23)
    refine pm_R_lo pm_M189 (pc_q := 67) rfl rfl rfl ?_
    refine pm_R_ldc2 pm_M189 (pc_q := 70) rfl rfl rfl ?_
    refine pm_R_op pm_M189 (pc_q := 71) (st_q := [.int z7]) rfl (by show some (Value.int (lg_cmp a0 495622124659) :: _) = _; rw [← e8]) rfl ?_
    refine pm_R_ifc pm_M189 (t := 137) (pc_q := 74) rfl rfl rfl (fun c35 => absurd (sf_pt2 B10 sf_k0) c35) (fun c35 => ?_)
    refine pm_R_lo pm_M189 (pc_q := 75) rfl rfl rfl ?_
    refine rf_R_get pm_M189 T20 (pc_q := 78) (v := .int (m17 13)) rfl rfl rfl rfl ?_
    refine pm_R_op pm_M189 (pc_q := 79) (st_q := [.int 3, .int (m17 13)]) rfl rfl rfl ?_
    refine pm_R_icmp pm_M189 (t := 98) (pc_q := 82) rfl rfl rfl (fun c36 => ?_) (fun c36 => ?_)
    · skip
      refine pm_R_lo pm_M189 (pc_q := 99) rfl rfl rfl ?_
      refine pm_R_op pm_M189 (pc_q := 100) (st_q := [.int 0, .ref 41]) rfl rfl rfl ?_
      refine pm_R_op pm_M189 (pc_q := 102) (st_q := [.int 6, .int 0, .ref 41]) rfl rfl rfl ?_
      refine pm_R_op pm_M189 (pc_q := 103) (st_q := [.int (-1), .int 6, .int 0, .ref 41]) rfl rfl rfl ?_
      refine pm_R_cv pm_M189 (pc_q := 106) (a := 41) (ra := [.int (-1), .int 6, .int 0]) (rest := []) (ls_q := [.ref 41, .int 0, .int 6, .int (-1)]) rfl rfl (Or.inl rfl) pm_M183 T20.2.1 rfl (by decide) (Nat.lt_of_lt_of_le (by decide) T20.1) rfl rfl (Nat.le_of_ble_eq_true rfl) rfl rfl ?_
      obtain ⟨f37, e38, b39⟩ := T20.2.2.2.1 52 (by decide) (by decide)
      refine rf_c183_0_6 (d := d + 1) T20  (fun m42 w43 h44 T45 F46 W47 X48 => ?_) (fun m51 w52 h53 T54 F55 W56 X57 X58 X59 X60 X61 => ?_) (fun m64 w65 h66 T67 F68 W69 X70 X71 X72 B73 B74 => ?_)
      · have F75 := F25.trans F46 (by decide)
        have W76 : rf_W [10, 12, 13, 14, 16, 17, 18, 21, 22] m m42 := W28.trans W47 (by decide)
        have B77 : sf_B 0 600 (m42 10) := T45.2.2.1 10
        have B78 : sf_B 0 4 (m42 13) := T45.2.2.1 13
        have B79 : sf_B 0 4 (m42 17) := T45.2.2.1 17
        have B80 : sf_B 0 1 (m42 22) := T45.2.2.1 22
        show pm_R _ 189 106 [.ref 41, .long a0, pm_no, .int a1, pm_no] [.int 0] _ _
        have R81 : (m 10).toInt ≤ (m42 10).toInt := (sf_aux70 _ _ _ R32 X48)
        refine pm_R_lo pm_M189 (pc_q := 108) (ls_q := [.ref 41, .long a0, pm_no, .int a1, .int 0]) (st_q := []) rfl rfl rfl ?_
        refine pm_R_lo pm_M189 (pc_q := 109) rfl rfl rfl ?_
        refine rf_R_get pm_M189 T45 (pc_q := 112) (v := .ref 51) rfl rfl rfl rfl ?_
        refine pm_R_op pm_M189 (pc_q := 113) (st_q := [.int 0, .ref 51]) rfl rfl rfl ?_
        refine pm_R_lo pm_M189 (pc_q := 115) (pm_q189_1 (Nat.le_of_ble_eq_true rfl)) rfl rfl ?_
        refine pm_R_br pm_M189 (pc_q := 127) (st_q := [.int 0, .ref 51]) (pm_q189_1 (Nat.le_of_ble_eq_true rfl)) rfl ?_
        refine pm_R_lo pm_M189 (pc_q := 128) (pm_q189_1 (Nat.le_of_ble_eq_true rfl)) rfl rfl ?_
        refine rf_R_get pm_M189 T45 (pc_q := 131) (v := .ref 51) (pm_q189_1 (Nat.le_of_ble_eq_true rfl)) rfl rfl rfl ?_
        refine pm_R_op pm_M189 (pc_q := 132) (st_q := [.int 0, .ref 51, .int 0, .ref 51]) (pm_q189_1 (Nat.le_of_ble_eq_true rfl)) rfl rfl ?_
        have e82 := (F46.cell (by decide) (F21.cell (by decide) e3))
        refine rf_R_ild pm_M189 T45 (pc_q := 133) (pm_q189_1 (Nat.le_of_ble_eq_true rfl)) e82 (by decide) rfl rfl (fun z83 ez84 => ?_)
        refine rf_R_ist pm_M189 T45 (pc_q := 134) (pm_q189_1 (Nat.le_of_ble_eq_true rfl)) e82 (by decide) (by decide) rfl ⟨_, rfl⟩ rfl (fun h85 T86 F87 e88 => ?_)
        have F89 := F75.trans F87 (by decide)
        refine pm_R_lo pm_M189 (pc_q := 136) (pm_q189_1 (Nat.le_of_ble_eq_true rfl)) rfl rfl ?_
        exact pm_R_ret pm_M189 (r := some (.int 0)) (pm_q189_1 (Nat.le_of_ble_eq_true rfl)) rfl (K0 m42 w43 h85 T86 F89 W76 (sf_aux51 _ _ R81))
      · have F90 := F25.trans F55 (by decide)
        have W91 : rf_W [10, 12, 13, 14, 16, 17, 18, 21, 22] m m51 := W28.trans W56 (by decide)
        have B92 : sf_B 0 600 (m51 10) := T54.2.2.1 10
        have B93 : sf_B 0 4 (m51 13) := T54.2.2.1 13
        have B94 : sf_B 0 4 (m51 17) := T54.2.2.1 17
        have B95 : sf_B 0 1 (m51 22) := T54.2.2.1 22
        show pm_R _ 189 106 [.ref 41, .long a0, pm_no, .int a1, pm_no] [.int 1] _ _
        have R96 : (m 10).toInt ≤ (m51 10).toInt := (sf_aux70 _ _ _ R32 X61)
        obtain ⟨v97, B98, e99⟩ := X57 _ e38
        refine pm_R_lo pm_M189 (pc_q := 108) (ls_q := [.ref 41, .long a0, pm_no, .int a1, .int 1]) (st_q := []) rfl rfl rfl ?_
        refine pm_R_lo pm_M189 (pc_q := 109) rfl rfl rfl ?_
        refine rf_R_get pm_M189 T54 (pc_q := 112) (v := .ref 51) rfl rfl rfl rfl ?_
        refine pm_R_op pm_M189 (pc_q := 113) (st_q := [.int 0, .ref 51]) rfl rfl rfl ?_
        refine pm_R_lo pm_M189 (pc_q := 115) (pm_q189_1 (Nat.le_of_ble_eq_true rfl)) rfl rfl ?_
        refine pm_R_br pm_M189 (pc_q := 118) (st_q := [.int 0, .ref 51]) (pm_q189_1 (Nat.le_of_ble_eq_true rfl)) rfl ?_
        refine pm_R_lo pm_M189 (pc_q := 119) (pm_q189_1 (Nat.le_of_ble_eq_true rfl)) rfl rfl ?_
        refine rf_R_get pm_M189 T54 (pc_q := 122) (v := .ref 52) (pm_q189_1 (Nat.le_of_ble_eq_true rfl)) rfl rfl rfl ?_
        refine pm_R_op pm_M189 (pc_q := 123) (st_q := [.int 0, .ref 52, .int 0, .ref 51]) (pm_q189_1 (Nat.le_of_ble_eq_true rfl)) rfl rfl ?_
        refine pm_R_iald pm_M189 (pc_q := 124) (v := v97) (pm_q189_1 (Nat.le_of_ble_eq_true rfl)) e99 (Nat.lt_of_lt_of_le (by decide) T54.1) rfl sf_upd_eq rfl ?_
        refine pm_R_br pm_M189 (pc_q := 133) (pm_q189_1 (Nat.le_of_ble_eq_true rfl)) rfl ?_
        have e102 := (F55.cell (by decide) (F21.cell (by decide) e3))
        refine rf_R_ist pm_M189 T54 (pc_q := 134) (pm_q189_1 (Nat.le_of_ble_eq_true rfl)) e102 (by decide) (by decide) rfl ⟨_, rfl⟩ rfl (fun h103 T104 F105 e106 => ?_)
        have F107 := F90.trans F105 (by decide)
        have ct108 : rf_ct 2 (upd f2 (Int32.toNatClampNeg 0) v97) := (sf_eqL (Eq.trans (sf_upd_nec (k := Int32.toNatClampNeg 0) (j := Int32.toNatClampNeg 1) (by decide)) rfl) ct4)
        have bd109 : (m51 17).toInt = 0 → rf_bd 2 (upd f2 (Int32.toNatClampNeg 0) v97) := fun z => ((bd5 (sf_aux75 _ _ _ ek27 X58 z)).set (k := 0) B98 (by decide) (by decide))
        refine pm_R_lo pm_M189 (pc_q := 136) (pm_q189_1 (Nat.le_of_ble_eq_true rfl)) rfl rfl ?_
        exact pm_R_ret pm_M189 (r := some (.int 1)) (pm_q189_1 (Nat.le_of_ble_eq_true rfl)) rfl (K1 m51 w52 h103 T104 F107 W91 (⟨(upd f2 (Int32.toNatClampNeg 0) v97), e106, ct108, fun z => (bd109 z)⟩) (sf_aux51 _ _ R96))
      · have F110 := F25.trans F68 (by decide)
        have W111 : rf_W [10, 12, 13, 14, 16, 17, 18, 21, 22] m m64 := W28.trans W69 (by decide)
        have B112 : sf_B 0 600 (m64 10) := T67.2.2.1 10
        have B113 : sf_B 0 4 (m64 13) := T67.2.2.1 13
        have B114 : sf_B 0 4 (m64 17) := T67.2.2.1 17
        have B115 : sf_B 0 1 (m64 22) := T67.2.2.1 22
        show pm_R _ 189 106 [.ref 41, .long a0, pm_no, .int a1, pm_no] [.int 1] _ _
        have R116 : (m 10).toInt ≤ (m64 10).toInt := (sf_aux70 _ _ _ R32 X72)
        obtain ⟨v117, B118, e119⟩ := X70 _ e38
        refine pm_R_lo pm_M189 (pc_q := 108) (ls_q := [.ref 41, .long a0, pm_no, .int a1, .int 1]) (st_q := []) rfl rfl rfl ?_
        refine pm_R_lo pm_M189 (pc_q := 109) rfl rfl rfl ?_
        refine rf_R_get pm_M189 T67 (pc_q := 112) (v := .ref 51) rfl rfl rfl rfl ?_
        refine pm_R_op pm_M189 (pc_q := 113) (st_q := [.int 0, .ref 51]) rfl rfl rfl ?_
        refine pm_R_lo pm_M189 (pc_q := 115) (pm_q189_1 (Nat.le_of_ble_eq_true rfl)) rfl rfl ?_
        refine pm_R_br pm_M189 (pc_q := 118) (st_q := [.int 0, .ref 51]) (pm_q189_1 (Nat.le_of_ble_eq_true rfl)) rfl ?_
        refine pm_R_lo pm_M189 (pc_q := 119) (pm_q189_1 (Nat.le_of_ble_eq_true rfl)) rfl rfl ?_
        refine rf_R_get pm_M189 T67 (pc_q := 122) (v := .ref 52) (pm_q189_1 (Nat.le_of_ble_eq_true rfl)) rfl rfl rfl ?_
        refine pm_R_op pm_M189 (pc_q := 123) (st_q := [.int 0, .ref 52, .int 0, .ref 51]) (pm_q189_1 (Nat.le_of_ble_eq_true rfl)) rfl rfl ?_
        refine pm_R_iald pm_M189 (pc_q := 124) (v := v117) (pm_q189_1 (Nat.le_of_ble_eq_true rfl)) e119 (Nat.lt_of_lt_of_le (by decide) T67.1) rfl sf_upd_eq rfl ?_
        refine pm_R_br pm_M189 (pc_q := 133) (pm_q189_1 (Nat.le_of_ble_eq_true rfl)) rfl ?_
        have e122 := (F68.cell (by decide) (F21.cell (by decide) e3))
        refine rf_R_ist pm_M189 T67 (pc_q := 134) (pm_q189_1 (Nat.le_of_ble_eq_true rfl)) e122 (by decide) (by decide) rfl ⟨_, rfl⟩ rfl (fun h123 T124 F125 e126 => ?_)
        have F127 := F110.trans F125 (by decide)
        have ct128 : rf_ct 2 (upd f2 (Int32.toNatClampNeg 0) v117) := (sf_eqL (Eq.trans (sf_upd_nec (k := Int32.toNatClampNeg 0) (j := Int32.toNatClampNeg 1) (by decide)) rfl) ct4)
        have bd129 : (m64 17).toInt = 0 → rf_bd 2 (upd f2 (Int32.toNatClampNeg 0) v117) := fun z => (sf_pos B73 (by decide) z)
        refine pm_R_lo pm_M189 (pc_q := 136) (pm_q189_1 (Nat.le_of_ble_eq_true rfl)) rfl rfl ?_
        exact pm_R_ret pm_M189 (r := some (.int 1)) (pm_q189_1 (Nat.le_of_ble_eq_true rfl)) rfl (K1 m64 w65 h123 T124 F127 W111 (⟨(upd f2 (Int32.toNatClampNeg 0) v117), e126, ct128, fun z => (sf_pos B73 (by decide) z)⟩) (sf_aux51 _ _ R116))
    · have B130 : sf_B 3 3 (m17 13) := sf_eqL (Classical.not_not.mp c36) sf_k3
      refine pm_R_lo pm_M189 (pc_q := 83) rfl rfl rfl ?_
      have B131 : sf_B 0 99 (m17 14) := T20.2.2.1 14
      refine rf_R_get pm_M189 T20 (pc_q := 86) (v := .int (m17 14)) rfl rfl rfl rfl ?_
      refine pm_R_ifc pm_M189 (t := 98) (pc_q := 89) rfl rfl rfl (fun c132 => ?_) (fun c132 => ?_)
      · have B133 : sf_B 1 99 (m17 14) := sf_neL0 c132 sf_k0 B131
        refine pm_R_lo pm_M189 (pc_q := 99) rfl rfl rfl ?_
        refine pm_R_op pm_M189 (pc_q := 100) (st_q := [.int 0, .ref 41]) rfl rfl rfl ?_
        refine pm_R_op pm_M189 (pc_q := 102) (st_q := [.int 6, .int 0, .ref 41]) rfl rfl rfl ?_
        refine pm_R_op pm_M189 (pc_q := 103) (st_q := [.int (-1), .int 6, .int 0, .ref 41]) rfl rfl rfl ?_
        refine pm_R_cv pm_M189 (pc_q := 106) (a := 41) (ra := [.int (-1), .int 6, .int 0]) (rest := []) (ls_q := [.ref 41, .int 0, .int 6, .int (-1)]) rfl rfl (Or.inl rfl) pm_M183 T20.2.1 rfl (by decide) (Nat.lt_of_lt_of_le (by decide) T20.1) rfl rfl (Nat.le_of_ble_eq_true rfl) rfl rfl ?_
        obtain ⟨f134, e135, b136⟩ := T20.2.2.2.1 52 (by decide) (by decide)
        refine rf_c183_0_6 (d := d + 1) T20  (fun m139 w140 h141 T142 F143 W144 X145 => ?_) (fun m148 w149 h150 T151 F152 W153 X154 X155 X156 X157 X158 => ?_) (fun m161 w162 h163 T164 F165 W166 X167 X168 X169 B170 B171 => ?_)
        · have F172 := F25.trans F143 (by decide)
          have W173 : rf_W [10, 12, 13, 14, 16, 17, 18, 21, 22] m m139 := W28.trans W144 (by decide)
          have B174 : sf_B 0 600 (m139 10) := T142.2.2.1 10
          have B175 : sf_B 0 4 (m139 13) := T142.2.2.1 13
          have B176 : sf_B 0 4 (m139 17) := T142.2.2.1 17
          have B177 : sf_B 0 1 (m139 22) := T142.2.2.1 22
          show pm_R _ 189 106 [.ref 41, .long a0, pm_no, .int a1, pm_no] [.int 0] _ _
          have R178 : (m 10).toInt ≤ (m139 10).toInt := (sf_aux70 _ _ _ R32 X145)
          refine pm_R_lo pm_M189 (pc_q := 108) (ls_q := [.ref 41, .long a0, pm_no, .int a1, .int 0]) (st_q := []) rfl rfl rfl ?_
          refine pm_R_lo pm_M189 (pc_q := 109) rfl rfl rfl ?_
          refine rf_R_get pm_M189 T142 (pc_q := 112) (v := .ref 51) rfl rfl rfl rfl ?_
          refine pm_R_op pm_M189 (pc_q := 113) (st_q := [.int 0, .ref 51]) rfl rfl rfl ?_
          refine pm_R_lo pm_M189 (pc_q := 115) (pm_q189_1 (Nat.le_of_ble_eq_true rfl)) rfl rfl ?_
          refine pm_R_br pm_M189 (pc_q := 127) (st_q := [.int 0, .ref 51]) (pm_q189_1 (Nat.le_of_ble_eq_true rfl)) rfl ?_
          refine pm_R_lo pm_M189 (pc_q := 128) (pm_q189_1 (Nat.le_of_ble_eq_true rfl)) rfl rfl ?_
          refine rf_R_get pm_M189 T142 (pc_q := 131) (v := .ref 51) (pm_q189_1 (Nat.le_of_ble_eq_true rfl)) rfl rfl rfl ?_
          refine pm_R_op pm_M189 (pc_q := 132) (st_q := [.int 0, .ref 51, .int 0, .ref 51]) (pm_q189_1 (Nat.le_of_ble_eq_true rfl)) rfl rfl ?_
          have e179 := (F143.cell (by decide) (F21.cell (by decide) e3))
          refine rf_R_ild pm_M189 T142 (pc_q := 133) (pm_q189_1 (Nat.le_of_ble_eq_true rfl)) e179 (by decide) rfl rfl (fun z180 ez181 => ?_)
          refine rf_R_ist pm_M189 T142 (pc_q := 134) (pm_q189_1 (Nat.le_of_ble_eq_true rfl)) e179 (by decide) (by decide) rfl ⟨_, rfl⟩ rfl (fun h182 T183 F184 e185 => ?_)
          have F186 := F172.trans F184 (by decide)
          refine pm_R_lo pm_M189 (pc_q := 136) (pm_q189_1 (Nat.le_of_ble_eq_true rfl)) rfl rfl ?_
          exact pm_R_ret pm_M189 (r := some (.int 0)) (pm_q189_1 (Nat.le_of_ble_eq_true rfl)) rfl (K0 m139 w140 h182 T183 F186 W173 (sf_aux51 _ _ R178))
        · have F187 := F25.trans F152 (by decide)
          have W188 : rf_W [10, 12, 13, 14, 16, 17, 18, 21, 22] m m148 := W28.trans W153 (by decide)
          have B189 : sf_B 0 600 (m148 10) := T151.2.2.1 10
          have B190 : sf_B 0 4 (m148 13) := T151.2.2.1 13
          have B191 : sf_B 0 4 (m148 17) := T151.2.2.1 17
          have B192 : sf_B 0 1 (m148 22) := T151.2.2.1 22
          show pm_R _ 189 106 [.ref 41, .long a0, pm_no, .int a1, pm_no] [.int 1] _ _
          have R193 : (m 10).toInt ≤ (m148 10).toInt := (sf_aux70 _ _ _ R32 X158)
          obtain ⟨v194, B195, e196⟩ := X154 _ e135
          refine pm_R_lo pm_M189 (pc_q := 108) (ls_q := [.ref 41, .long a0, pm_no, .int a1, .int 1]) (st_q := []) rfl rfl rfl ?_
          refine pm_R_lo pm_M189 (pc_q := 109) rfl rfl rfl ?_
          refine rf_R_get pm_M189 T151 (pc_q := 112) (v := .ref 51) rfl rfl rfl rfl ?_
          refine pm_R_op pm_M189 (pc_q := 113) (st_q := [.int 0, .ref 51]) rfl rfl rfl ?_
          refine pm_R_lo pm_M189 (pc_q := 115) (pm_q189_1 (Nat.le_of_ble_eq_true rfl)) rfl rfl ?_
          refine pm_R_br pm_M189 (pc_q := 118) (st_q := [.int 0, .ref 51]) (pm_q189_1 (Nat.le_of_ble_eq_true rfl)) rfl ?_
          refine pm_R_lo pm_M189 (pc_q := 119) (pm_q189_1 (Nat.le_of_ble_eq_true rfl)) rfl rfl ?_
          refine rf_R_get pm_M189 T151 (pc_q := 122) (v := .ref 52) (pm_q189_1 (Nat.le_of_ble_eq_true rfl)) rfl rfl rfl ?_
          refine pm_R_op pm_M189 (pc_q := 123) (st_q := [.int 0, .ref 52, .int 0, .ref 51]) (pm_q189_1 (Nat.le_of_ble_eq_true rfl)) rfl rfl ?_
          refine pm_R_iald pm_M189 (pc_q := 124) (v := v194) (pm_q189_1 (Nat.le_of_ble_eq_true rfl)) e196 (Nat.lt_of_lt_of_le (by decide) T151.1) rfl sf_upd_eq rfl ?_
          refine pm_R_br pm_M189 (pc_q := 133) (pm_q189_1 (Nat.le_of_ble_eq_true rfl)) rfl ?_
          have e199 := (F152.cell (by decide) (F21.cell (by decide) e3))
          refine rf_R_ist pm_M189 T151 (pc_q := 134) (pm_q189_1 (Nat.le_of_ble_eq_true rfl)) e199 (by decide) (by decide) rfl ⟨_, rfl⟩ rfl (fun h200 T201 F202 e203 => ?_)
          have F204 := F187.trans F202 (by decide)
          have ct205 : rf_ct 2 (upd f2 (Int32.toNatClampNeg 0) v194) := (sf_eqL (Eq.trans (sf_upd_nec (k := Int32.toNatClampNeg 0) (j := Int32.toNatClampNeg 1) (by decide)) rfl) ct4)
          have bd206 : (m148 17).toInt = 0 → rf_bd 2 (upd f2 (Int32.toNatClampNeg 0) v194) := fun z => ((bd5 (sf_aux75 _ _ _ ek27 X155 z)).set (k := 0) B195 (by decide) (by decide))
          refine pm_R_lo pm_M189 (pc_q := 136) (pm_q189_1 (Nat.le_of_ble_eq_true rfl)) rfl rfl ?_
          exact pm_R_ret pm_M189 (r := some (.int 1)) (pm_q189_1 (Nat.le_of_ble_eq_true rfl)) rfl (K1 m148 w149 h200 T201 F204 W188 (⟨(upd f2 (Int32.toNatClampNeg 0) v194), e203, ct205, fun z => (bd206 z)⟩) (sf_aux51 _ _ R193))
        · have F207 := F25.trans F165 (by decide)
          have W208 : rf_W [10, 12, 13, 14, 16, 17, 18, 21, 22] m m161 := W28.trans W166 (by decide)
          have B209 : sf_B 0 600 (m161 10) := T164.2.2.1 10
          have B210 : sf_B 0 4 (m161 13) := T164.2.2.1 13
          have B211 : sf_B 0 4 (m161 17) := T164.2.2.1 17
          have B212 : sf_B 0 1 (m161 22) := T164.2.2.1 22
          show pm_R _ 189 106 [.ref 41, .long a0, pm_no, .int a1, pm_no] [.int 1] _ _
          have R213 : (m 10).toInt ≤ (m161 10).toInt := (sf_aux70 _ _ _ R32 X169)
          obtain ⟨v214, B215, e216⟩ := X167 _ e135
          refine pm_R_lo pm_M189 (pc_q := 108) (ls_q := [.ref 41, .long a0, pm_no, .int a1, .int 1]) (st_q := []) rfl rfl rfl ?_
          refine pm_R_lo pm_M189 (pc_q := 109) rfl rfl rfl ?_
          refine rf_R_get pm_M189 T164 (pc_q := 112) (v := .ref 51) rfl rfl rfl rfl ?_
          refine pm_R_op pm_M189 (pc_q := 113) (st_q := [.int 0, .ref 51]) rfl rfl rfl ?_
          refine pm_R_lo pm_M189 (pc_q := 115) (pm_q189_1 (Nat.le_of_ble_eq_true rfl)) rfl rfl ?_
          refine pm_R_br pm_M189 (pc_q := 118) (st_q := [.int 0, .ref 51]) (pm_q189_1 (Nat.le_of_ble_eq_true rfl)) rfl ?_
          refine pm_R_lo pm_M189 (pc_q := 119) (pm_q189_1 (Nat.le_of_ble_eq_true rfl)) rfl rfl ?_
          refine rf_R_get pm_M189 T164 (pc_q := 122) (v := .ref 52) (pm_q189_1 (Nat.le_of_ble_eq_true rfl)) rfl rfl rfl ?_
          refine pm_R_op pm_M189 (pc_q := 123) (st_q := [.int 0, .ref 52, .int 0, .ref 51]) (pm_q189_1 (Nat.le_of_ble_eq_true rfl)) rfl rfl ?_
          refine pm_R_iald pm_M189 (pc_q := 124) (v := v214) (pm_q189_1 (Nat.le_of_ble_eq_true rfl)) e216 (Nat.lt_of_lt_of_le (by decide) T164.1) rfl sf_upd_eq rfl ?_
          refine pm_R_br pm_M189 (pc_q := 133) (pm_q189_1 (Nat.le_of_ble_eq_true rfl)) rfl ?_
          have e219 := (F165.cell (by decide) (F21.cell (by decide) e3))
          refine rf_R_ist pm_M189 T164 (pc_q := 134) (pm_q189_1 (Nat.le_of_ble_eq_true rfl)) e219 (by decide) (by decide) rfl ⟨_, rfl⟩ rfl (fun h220 T221 F222 e223 => ?_)
          have F224 := F207.trans F222 (by decide)
          have ct225 : rf_ct 2 (upd f2 (Int32.toNatClampNeg 0) v214) := (sf_eqL (Eq.trans (sf_upd_nec (k := Int32.toNatClampNeg 0) (j := Int32.toNatClampNeg 1) (by decide)) rfl) ct4)
          have bd226 : (m161 17).toInt = 0 → rf_bd 2 (upd f2 (Int32.toNatClampNeg 0) v214) := fun z => (sf_pos B170 (by decide) z)
          refine pm_R_lo pm_M189 (pc_q := 136) (pm_q189_1 (Nat.le_of_ble_eq_true rfl)) rfl rfl ?_
          exact pm_R_ret pm_M189 (r := some (.int 1)) (pm_q189_1 (Nat.le_of_ble_eq_true rfl)) rfl (K1 m161 w162 h220 T221 F224 W208 (⟨(upd f2 (Int32.toNatClampNeg 0) v214), e223, ct225, fun z => (sf_pos B170 (by decide) z)⟩) (sf_aux51 _ _ R213))
      · have B227 : sf_B 0 0 (m17 14) := sf_eqL (Classical.not_not.mp c132) sf_k0
        refine pm_R_lo pm_M189 (pc_q := 90) rfl rfl rfl ?_
        refine pm_R_op pm_M189 (pc_q := 91) (st_q := [.int 2, .ref 41]) rfl rfl rfl ?_
        refine pm_R_lo pm_M189 (pc_q := 92) rfl rfl rfl ?_
        have B228 : sf_B 0 600 (m17 12) := T20.2.2.1 12
        refine rf_R_get pm_M189 T20 (pc_q := 95) (v := .int (m17 12)) rfl rfl rfl rfl ?_
        refine pm_R_cv pm_M189 (pc_q := 98) (a := 41) (ra := [.int (m17 12), .int 2]) (rest := []) (ls_q := [.ref 41, .int 2, .int (m17 12)]) rfl rfl (Or.inl rfl) pm_M182 T20.2.1 rfl (by decide) (Nat.lt_of_lt_of_le (by decide) T20.1) rfl rfl (Nat.le_of_ble_eq_true rfl) rfl rfl ?_
        refine rf_c182 (d := d + 3) T20 (sf_weak sf_k2 (by decide) (by decide)) B228 (fun m231 w232 h233 T234 F235 W236 B237 => ?_)
        have F238 := F25.trans F235 (by decide)
        have B239 : sf_B 0 600 (m231 10) := by rw [W236 10 (by decide)]; exact B29
        have ek240 : (m231 10).toInt = ((m17 10)).toInt := by rw [W236 10 (by decide)]
        have B241 : sf_B 3 3 (m231 13) := by rw [W236 13 (by decide)]; exact B130
        have ek242 : (m231 13).toInt = ((m17 13)).toInt := by rw [W236 13 (by decide)]
        have B243 : sf_B 0 1 (m231 22) := by rw [W236 22 (by decide)]; exact B31
        have ek244 : (m231 22).toInt = ((m17 22)).toInt := by rw [W236 22 (by decide)]
        have B245 : sf_B 0 0 (m231 14) := by rw [W236 14 (by decide)]; exact B227
        have W246 : rf_W [10, 12, 13, 14, 16, 17, 18, 21, 22] m m231 := W28.trans W236 (by decide)
        have B247 : sf_B 0 4 (m231 17) := T234.2.2.1 17
        show pm_R _ 189 98 [.ref 41, .long a0, pm_no, .int a1, pm_no] [] _ _
        refine pm_R_lo pm_M189 (pc_q := 99) rfl rfl rfl ?_
        refine pm_R_op pm_M189 (pc_q := 100) (st_q := [.int 0, .ref 41]) rfl rfl rfl ?_
        refine pm_R_op pm_M189 (pc_q := 102) (st_q := [.int 6, .int 0, .ref 41]) rfl rfl rfl ?_
        refine pm_R_op pm_M189 (pc_q := 103) (st_q := [.int (-1), .int 6, .int 0, .ref 41]) rfl rfl rfl ?_
        refine pm_R_cv pm_M189 (pc_q := 106) (a := 41) (ra := [.int (-1), .int 6, .int 0]) (rest := []) (ls_q := [.ref 41, .int 0, .int 6, .int (-1)]) rfl rfl (Or.inl rfl) pm_M183 T234.2.1 rfl (by decide) (Nat.lt_of_lt_of_le (by decide) T234.1) rfl rfl (Nat.le_of_ble_eq_true rfl) rfl rfl ?_
        obtain ⟨f248, e249, b250⟩ := T234.2.2.2.1 52 (by decide) (by decide)
        refine rf_c183_0_6 (d := d + 1) T234  (fun m253 w254 h255 T256 F257 W258 X259 => ?_) (fun m262 w263 h264 T265 F266 W267 X268 X269 X270 X271 X272 => ?_) (fun m275 w276 h277 T278 F279 W280 X281 X282 X283 B284 B285 => ?_)
        · have F286 := F238.trans F257 (by decide)
          have W287 : rf_W [10, 12, 13, 14, 16, 17, 18, 21, 22] m m253 := W246.trans W258 (by decide)
          have B288 : sf_B 0 600 (m253 10) := T256.2.2.1 10
          have B289 : sf_B 0 4 (m253 13) := T256.2.2.1 13
          have B290 : sf_B 0 4 (m253 17) := T256.2.2.1 17
          have B291 : sf_B 0 1 (m253 22) := T256.2.2.1 22
          show pm_R _ 189 106 [.ref 41, .long a0, pm_no, .int a1, pm_no] [.int 0] _ _
          have R292 : (m 10).toInt ≤ (m253 10).toInt := (sf_aux76 _ _ _ _ ek240 R32 X259)
          refine pm_R_lo pm_M189 (pc_q := 108) (ls_q := [.ref 41, .long a0, pm_no, .int a1, .int 0]) (st_q := []) rfl rfl rfl ?_
          refine pm_R_lo pm_M189 (pc_q := 109) rfl rfl rfl ?_
          refine rf_R_get pm_M189 T256 (pc_q := 112) (v := .ref 51) rfl rfl rfl rfl ?_
          refine pm_R_op pm_M189 (pc_q := 113) (st_q := [.int 0, .ref 51]) rfl rfl rfl ?_
          refine pm_R_lo pm_M189 (pc_q := 115) (pm_q189_1 (Nat.le_of_ble_eq_true rfl)) rfl rfl ?_
          refine pm_R_br pm_M189 (pc_q := 127) (st_q := [.int 0, .ref 51]) (pm_q189_1 (Nat.le_of_ble_eq_true rfl)) rfl ?_
          refine pm_R_lo pm_M189 (pc_q := 128) (pm_q189_1 (Nat.le_of_ble_eq_true rfl)) rfl rfl ?_
          refine rf_R_get pm_M189 T256 (pc_q := 131) (v := .ref 51) (pm_q189_1 (Nat.le_of_ble_eq_true rfl)) rfl rfl rfl ?_
          refine pm_R_op pm_M189 (pc_q := 132) (st_q := [.int 0, .ref 51, .int 0, .ref 51]) (pm_q189_1 (Nat.le_of_ble_eq_true rfl)) rfl rfl ?_
          have e293 := (F257.cell (by decide) (F235.cell (by decide) (F21.cell (by decide) e3)))
          refine rf_R_ild pm_M189 T256 (pc_q := 133) (pm_q189_1 (Nat.le_of_ble_eq_true rfl)) e293 (by decide) rfl rfl (fun z294 ez295 => ?_)
          refine rf_R_ist pm_M189 T256 (pc_q := 134) (pm_q189_1 (Nat.le_of_ble_eq_true rfl)) e293 (by decide) (by decide) rfl ⟨_, rfl⟩ rfl (fun h296 T297 F298 e299 => ?_)
          have F300 := F286.trans F298 (by decide)
          refine pm_R_lo pm_M189 (pc_q := 136) (pm_q189_1 (Nat.le_of_ble_eq_true rfl)) rfl rfl ?_
          exact pm_R_ret pm_M189 (r := some (.int 0)) (pm_q189_1 (Nat.le_of_ble_eq_true rfl)) rfl (K0 m253 w254 h296 T297 F300 W287 (sf_aux51 _ _ R292))
        · have F301 := F238.trans F266 (by decide)
          have W302 : rf_W [10, 12, 13, 14, 16, 17, 18, 21, 22] m m262 := W246.trans W267 (by decide)
          have B303 : sf_B 0 600 (m262 10) := T265.2.2.1 10
          have B304 : sf_B 0 4 (m262 13) := T265.2.2.1 13
          have B305 : sf_B 0 4 (m262 17) := T265.2.2.1 17
          have B306 : sf_B 0 1 (m262 22) := T265.2.2.1 22
          show pm_R _ 189 106 [.ref 41, .long a0, pm_no, .int a1, pm_no] [.int 1] _ _
          have R307 : (m 10).toInt ≤ (m262 10).toInt := (sf_aux76 _ _ _ _ ek240 R32 X272)
          obtain ⟨v308, B309, e310⟩ := X268 _ e249
          refine pm_R_lo pm_M189 (pc_q := 108) (ls_q := [.ref 41, .long a0, pm_no, .int a1, .int 1]) (st_q := []) rfl rfl rfl ?_
          refine pm_R_lo pm_M189 (pc_q := 109) rfl rfl rfl ?_
          refine rf_R_get pm_M189 T265 (pc_q := 112) (v := .ref 51) rfl rfl rfl rfl ?_
          refine pm_R_op pm_M189 (pc_q := 113) (st_q := [.int 0, .ref 51]) rfl rfl rfl ?_
          refine pm_R_lo pm_M189 (pc_q := 115) (pm_q189_1 (Nat.le_of_ble_eq_true rfl)) rfl rfl ?_
          refine pm_R_br pm_M189 (pc_q := 118) (st_q := [.int 0, .ref 51]) (pm_q189_1 (Nat.le_of_ble_eq_true rfl)) rfl ?_
          refine pm_R_lo pm_M189 (pc_q := 119) (pm_q189_1 (Nat.le_of_ble_eq_true rfl)) rfl rfl ?_
          refine rf_R_get pm_M189 T265 (pc_q := 122) (v := .ref 52) (pm_q189_1 (Nat.le_of_ble_eq_true rfl)) rfl rfl rfl ?_
          refine pm_R_op pm_M189 (pc_q := 123) (st_q := [.int 0, .ref 52, .int 0, .ref 51]) (pm_q189_1 (Nat.le_of_ble_eq_true rfl)) rfl rfl ?_
          refine pm_R_iald pm_M189 (pc_q := 124) (v := v308) (pm_q189_1 (Nat.le_of_ble_eq_true rfl)) e310 (Nat.lt_of_lt_of_le (by decide) T265.1) rfl sf_upd_eq rfl ?_
          refine pm_R_br pm_M189 (pc_q := 133) (pm_q189_1 (Nat.le_of_ble_eq_true rfl)) rfl ?_
          have e313 := (F266.cell (by decide) (F235.cell (by decide) (F21.cell (by decide) e3)))
          refine rf_R_ist pm_M189 T265 (pc_q := 134) (pm_q189_1 (Nat.le_of_ble_eq_true rfl)) e313 (by decide) (by decide) rfl ⟨_, rfl⟩ rfl (fun h314 T315 F316 e317 => ?_)
          have F318 := F301.trans F316 (by decide)
          have ct319 : rf_ct 2 (upd f2 (Int32.toNatClampNeg 0) v308) := (sf_eqL (Eq.trans (sf_upd_nec (k := Int32.toNatClampNeg 0) (j := Int32.toNatClampNeg 1) (by decide)) rfl) ct4)
          have bd320 : (m262 17).toInt = 0 → rf_bd 2 (upd f2 (Int32.toNatClampNeg 0) v308) := fun z => (sf_pos (sf_eqT X269 B237) (by decide) z)
          refine pm_R_lo pm_M189 (pc_q := 136) (pm_q189_1 (Nat.le_of_ble_eq_true rfl)) rfl rfl ?_
          exact pm_R_ret pm_M189 (r := some (.int 1)) (pm_q189_1 (Nat.le_of_ble_eq_true rfl)) rfl (K1 m262 w263 h314 T315 F318 W302 (⟨(upd f2 (Int32.toNatClampNeg 0) v308), e317, ct319, fun z => (sf_pos (sf_eqT X269 B237) (by decide) z)⟩) (sf_aux51 _ _ R307))
        · have F321 := F238.trans F279 (by decide)
          have W322 : rf_W [10, 12, 13, 14, 16, 17, 18, 21, 22] m m275 := W246.trans W280 (by decide)
          have B323 : sf_B 0 600 (m275 10) := T278.2.2.1 10
          have B324 : sf_B 0 4 (m275 13) := T278.2.2.1 13
          have B325 : sf_B 0 4 (m275 17) := T278.2.2.1 17
          have B326 : sf_B 0 1 (m275 22) := T278.2.2.1 22
          show pm_R _ 189 106 [.ref 41, .long a0, pm_no, .int a1, pm_no] [.int 1] _ _
          have R327 : (m 10).toInt ≤ (m275 10).toInt := (sf_aux76 _ _ _ _ ek240 R32 X283)
          obtain ⟨v328, B329, e330⟩ := X281 _ e249
          refine pm_R_lo pm_M189 (pc_q := 108) (ls_q := [.ref 41, .long a0, pm_no, .int a1, .int 1]) (st_q := []) rfl rfl rfl ?_
          refine pm_R_lo pm_M189 (pc_q := 109) rfl rfl rfl ?_
          refine rf_R_get pm_M189 T278 (pc_q := 112) (v := .ref 51) rfl rfl rfl rfl ?_
          refine pm_R_op pm_M189 (pc_q := 113) (st_q := [.int 0, .ref 51]) rfl rfl rfl ?_
          refine pm_R_lo pm_M189 (pc_q := 115) (pm_q189_1 (Nat.le_of_ble_eq_true rfl)) rfl rfl ?_
          refine pm_R_br pm_M189 (pc_q := 118) (st_q := [.int 0, .ref 51]) (pm_q189_1 (Nat.le_of_ble_eq_true rfl)) rfl ?_
          refine pm_R_lo pm_M189 (pc_q := 119) (pm_q189_1 (Nat.le_of_ble_eq_true rfl)) rfl rfl ?_
          refine rf_R_get pm_M189 T278 (pc_q := 122) (v := .ref 52) (pm_q189_1 (Nat.le_of_ble_eq_true rfl)) rfl rfl rfl ?_
          refine pm_R_op pm_M189 (pc_q := 123) (st_q := [.int 0, .ref 52, .int 0, .ref 51]) (pm_q189_1 (Nat.le_of_ble_eq_true rfl)) rfl rfl ?_
          refine pm_R_iald pm_M189 (pc_q := 124) (v := v328) (pm_q189_1 (Nat.le_of_ble_eq_true rfl)) e330 (Nat.lt_of_lt_of_le (by decide) T278.1) rfl sf_upd_eq rfl ?_
          refine pm_R_br pm_M189 (pc_q := 133) (pm_q189_1 (Nat.le_of_ble_eq_true rfl)) rfl ?_
          have e333 := (F279.cell (by decide) (F235.cell (by decide) (F21.cell (by decide) e3)))
          refine rf_R_ist pm_M189 T278 (pc_q := 134) (pm_q189_1 (Nat.le_of_ble_eq_true rfl)) e333 (by decide) (by decide) rfl ⟨_, rfl⟩ rfl (fun h334 T335 F336 e337 => ?_)
          have F338 := F321.trans F336 (by decide)
          have ct339 : rf_ct 2 (upd f2 (Int32.toNatClampNeg 0) v328) := (sf_eqL (Eq.trans (sf_upd_nec (k := Int32.toNatClampNeg 0) (j := Int32.toNatClampNeg 1) (by decide)) rfl) ct4)
          have bd340 : (m275 17).toInt = 0 → rf_bd 2 (upd f2 (Int32.toNatClampNeg 0) v328) := fun z => (sf_pos B284 (by decide) z)
          refine pm_R_lo pm_M189 (pc_q := 136) (pm_q189_1 (Nat.le_of_ble_eq_true rfl)) rfl rfl ?_
          exact pm_R_ret pm_M189 (r := some (.int 1)) (pm_q189_1 (Nat.le_of_ble_eq_true rfl)) rfl (K1 m275 w276 h334 T335 F338 W322 (⟨(upd f2 (Int32.toNatClampNeg 0) v328), e337, ct339, fun z => (sf_pos B284 (by decide) z)⟩) (sf_aux51 _ _ R327))
  · have k341 := sf_lneC e8 c9
    refine pm_R_lo pm_M189 (pc_q := 9) rfl rfl rfl ?_
    refine pm_R_ldc2 pm_M189 (pc_q := 12) rfl rfl rfl ?_
    refine sf_R_lcmp pm_M189 (pc_q := 13) rfl rfl (fun z342 e343 => ?_)
    refine pm_R_ifc pm_M189 (t := 37) (pc_q := 16) rfl rfl rfl (fun c344 => ?_) (fun c344 => ?_)
    · have B345 : sf_B 0 0 z342 := sf_eqL c344 sf_k0
      have B346 : lf_B 1819242347 1819242347 a0 := lf_eqB e343 B345 (⟨by decide, by decide⟩ : lf_B 1819242347 1819242347 1819242347)
      refine pm_R_lo pm_M189 (pc_q := 38) rfl rfl rfl ?_
      refine pm_R_ldc2 pm_M189 (pc_q := 41) rfl rfl rfl ?_
      refine pm_R_op pm_M189 (pc_q := 42) (st_q := [.int z7]) rfl (by show some (Value.int (lg_cmp a0 495622124659) :: _) = _; rw [← e8]) rfl ?_
      refine pm_R_ifc pm_M189 (t := 62) (pc_q := 45) rfl rfl rfl (fun c349 => absurd c349 c9) (fun c349 => ?_)
      have k350 := sf_lneC e8 c349
      refine pm_R_lo pm_M189 (pc_q := 46) rfl rfl rfl ?_
      refine rf_R_get pm_M189 T (pc_q := 49) (v := .ref 51) rfl rfl rfl rfl ?_
      refine pm_R_op pm_M189 (pc_q := 50) (st_q := [.int 1, .ref 51]) rfl rfl rfl ?_
      refine pm_R_iald pm_M189 (pc_q := 51) (v := (f2 1)) rfl e3 (Nat.lt_of_lt_of_le (by decide) T.1) rfl rfl rfl ?_
      refine pm_R_op pm_M189 (pc_q := 53) (st_q := [.int 50, .int (f2 1)]) rfl rfl rfl ?_
      refine pm_R_icmp pm_M189 (t := 62) (pc_q := 56) rfl rfl rfl (fun c353 => ?_) (fun c353 => ?_)
      · have B354 : sf_B 0 49 (f2 1) := sf_neH0 c353 sf_k50 ct4
        refine pm_R_lo pm_M189 (pc_q := 63) rfl rfl rfl ?_
        refine pm_R_cv pm_M189 (pc_q := 66) (a := 41) (ra := []) (rest := []) (ls_q := [.ref 41, pm_no, pm_no]) rfl rfl (Or.inl rfl) pm_M179 T.2.1 rfl (by decide) (Nat.lt_of_lt_of_le (by decide) T.1) rfl rfl (Nat.le_of_ble_eq_true rfl) rfl rfl ?_
        refine rf_c179 (d := d + 2) T  (fun m357 w358 h359 T360 F361 W362 X363 X364 => ?_)
        have F365 := (rf_G.refl [41, 51, 52] h).trans F361 (by decide)
        have B366 : sf_B 0 4 (m357 17) := by rw [W362 17 (by decide)]; exact B6
        have ek367 : (m357 17).toInt = ((m 17)).toInt := by rw [W362 17 (by decide)]
        have W368 : rf_W [10, 12, 13, 14, 16, 17, 18, 21, 22] m m357 := (rf_W.refl [10, 12, 13, 14, 16, 17, 18, 21, 22] m).trans W362 (by decide)
        have B369 : sf_B 0 600 (m357 10) := T360.2.2.1 10
        have B370 : sf_B 0 4 (m357 13) := T360.2.2.1 13
        have B371 : sf_B 0 1 (m357 22) := T360.2.2.1 22
        show pm_R _ 189 66 [.ref 41, .long a0, pm_no, .int a1, pm_no] [] _ _
        have R372 : (m 10).toInt ≤ (m357 10).toInt := (sf_aux51 _ _ X363)
        refine pm_R_lo pm_M189 (pc_q := 67) rfl rfl rfl ?_
        refine pm_R_ldc2 pm_M189 (pc_q := 70) rfl rfl rfl ?_
        refine pm_R_op pm_M189 (pc_q := 71) (st_q := [.int z7]) rfl (by show some (Value.int (lg_cmp a0 495622124659) :: _) = _; rw [← e8]) rfl ?_
        refine pm_R_ifc pm_M189 (t := 137) (pc_q := 74) rfl rfl rfl (fun c375 => ?_) (fun c375 => absurd (Classical.not_not.mp c375) c9)
        have k376 := sf_lneC e8 c375
        refine pm_R_lo pm_M189 (pc_q := 138) (pm_q189_1 (Nat.le_of_ble_eq_true rfl)) rfl rfl ?_
        refine pm_R_cv pm_M189 (pc_q := 141) (a := 41) (ra := []) (rest := []) (ls_q := [.ref 41, pm_no]) (pm_q189_1 (Nat.le_of_ble_eq_true rfl)) rfl (Or.inl rfl) pm_M190 T360.2.1 rfl (by decide) (Nat.lt_of_lt_of_le (by decide) T360.1) rfl rfl (Nat.le_of_ble_eq_true rfl) rfl rfl ?_
        refine pm_R_op pm_M190 (pc_q := 1) (st_q := [.int 0]) rfl rfl rfl ?_
        refine pm_R_lo pm_M190 (pc_q := 2) (ls_q := [.ref 41, .int 0]) (st_q := []) rfl rfl rfl ?_
        refine pm_R_lo pm_M190 (pc_q := 3) rfl rfl rfl ?_
        refine pm_R_op pm_M190 (pc_q := 4) (st_q := [.int 4, .int 0]) rfl rfl rfl ?_
        refine pm_R_br pm_M190 (pc_q := 7) (st_q := []) rfl rfl ?_
        refine pm_R_lo pm_M190 (pc_q := 8) rfl rfl rfl ?_
        refine rf_R_get pm_M190 T360 (pc_q := 11) (v := .ref 52) rfl rfl rfl rfl ?_
        refine pm_R_lo pm_M190 (pc_q := 12) rfl rfl rfl ?_
        refine pm_R_op pm_M190 (pc_q := 13) (st_q := [.int (-1), .int 0, .ref 52]) rfl rfl rfl ?_
        obtain ⟨f377, e378, b379⟩ := T360.2.2.2.1 52 (by decide) (by decide)
        refine rf_R_ist pm_M190 T360 (pc_q := 14) rfl e378 (by decide) (by decide) rfl ⟨_, rfl, sf_upd b379 (sf_weak sf_kn1 (by decide) (by decide)) _⟩ rfl (fun h380 T381 F382 e383 => ?_)
        have F384 := F365.trans F382 (by decide)
        refine pm_R_lo pm_M190 (pc_q := 17) (ls_q := [.ref 41, .int 1]) (st_q := []) rfl rfl rfl ?_
        refine pm_R_br pm_M190 (pc_q := 2) rfl rfl ?_
        refine pm_R_lo pm_M190 (pc_q := 3) rfl rfl rfl ?_
        refine pm_R_op pm_M190 (pc_q := 4) (st_q := [.int 4, .int 1]) rfl rfl rfl ?_
        refine pm_R_br pm_M190 (pc_q := 7) (st_q := []) rfl rfl ?_
        refine pm_R_lo pm_M190 (pc_q := 8) rfl rfl rfl ?_
        refine rf_R_get pm_M190 T381 (pc_q := 11) (v := .ref 52) rfl rfl rfl rfl ?_
        refine pm_R_lo pm_M190 (pc_q := 12) rfl rfl rfl ?_
        refine pm_R_op pm_M190 (pc_q := 13) (st_q := [.int (-1), .int 1, .ref 52]) rfl rfl rfl ?_
        refine rf_R_ist pm_M190 T381 (pc_q := 14) rfl e383 (by decide) (by decide) rfl ⟨_, rfl, sf_upd (sf_upd b379 (sf_weak sf_kn1 (by decide) (by decide)) _) (sf_weak sf_kn1 (by decide) (by decide)) _⟩ rfl (fun h385 T386 F387 e388 => ?_)
        have F389 := F384.trans F387 (by decide)
        refine pm_R_lo pm_M190 (pc_q := 17) (ls_q := [.ref 41, .int 2]) (st_q := []) rfl rfl rfl ?_
        refine pm_R_br pm_M190 (pc_q := 2) rfl rfl ?_
        refine pm_R_lo pm_M190 (pc_q := 3) rfl rfl rfl ?_
        refine pm_R_op pm_M190 (pc_q := 4) (st_q := [.int 4, .int 2]) rfl rfl rfl ?_
        refine pm_R_br pm_M190 (pc_q := 7) (st_q := []) rfl rfl ?_
        refine pm_R_lo pm_M190 (pc_q := 8) rfl rfl rfl ?_
        refine rf_R_get pm_M190 T386 (pc_q := 11) (v := .ref 52) rfl rfl rfl rfl ?_
        refine pm_R_lo pm_M190 (pc_q := 12) rfl rfl rfl ?_
        refine pm_R_op pm_M190 (pc_q := 13) (st_q := [.int (-1), .int 2, .ref 52]) rfl rfl rfl ?_
        refine rf_R_ist pm_M190 T386 (pc_q := 14) rfl e388 (by decide) (by decide) rfl ⟨_, rfl, sf_upd (sf_upd (sf_upd b379 (sf_weak sf_kn1 (by decide) (by decide)) _) (sf_weak sf_kn1 (by decide) (by decide)) _) (sf_weak sf_kn1 (by decide) (by decide)) _⟩ rfl (fun h390 T391 F392 e393 => ?_)
        have F394 := F389.trans F392 (by decide)
        refine pm_R_lo pm_M190 (pc_q := 17) (ls_q := [.ref 41, .int 3]) (st_q := []) rfl rfl rfl ?_
        refine pm_R_br pm_M190 (pc_q := 2) rfl rfl ?_
        refine pm_R_lo pm_M190 (pc_q := 3) rfl rfl rfl ?_
        refine pm_R_op pm_M190 (pc_q := 4) (st_q := [.int 4, .int 3]) rfl rfl rfl ?_
        refine pm_R_br pm_M190 (pc_q := 7) (st_q := []) rfl rfl ?_
        refine pm_R_lo pm_M190 (pc_q := 8) rfl rfl rfl ?_
        refine rf_R_get pm_M190 T391 (pc_q := 11) (v := .ref 52) rfl rfl rfl rfl ?_
        refine pm_R_lo pm_M190 (pc_q := 12) rfl rfl rfl ?_
        refine pm_R_op pm_M190 (pc_q := 13) (st_q := [.int (-1), .int 3, .ref 52]) rfl rfl rfl ?_
        refine rf_R_ist pm_M190 T391 (pc_q := 14) rfl e393 (by decide) (by decide) rfl ⟨_, rfl, sf_upd (sf_upd (sf_upd (sf_upd b379 (sf_weak sf_kn1 (by decide) (by decide)) _) (sf_weak sf_kn1 (by decide) (by decide)) _) (sf_weak sf_kn1 (by decide) (by decide)) _) (sf_weak sf_kn1 (by decide) (by decide)) _⟩ rfl (fun h395 T396 F397 e398 => ?_)
        have F399 := F394.trans F397 (by decide)
        refine pm_R_lo pm_M190 (pc_q := 17) (ls_q := [.ref 41, .int 4]) (st_q := []) rfl rfl rfl ?_
        refine pm_R_br pm_M190 (pc_q := 2) rfl rfl ?_
        refine pm_R_lo pm_M190 (pc_q := 3) rfl rfl rfl ?_
        refine pm_R_op pm_M190 (pc_q := 4) (st_q := [.int 4, .int 4]) rfl rfl rfl ?_
        refine pm_R_br pm_M190 (pc_q := 20) (st_q := []) rfl rfl ?_
        refine pm_R_ret pm_M190 (r := none) rfl rfl ?_
        show pm_R _ 189 141 [.ref 41, .long a0, pm_no, .int a1, pm_no] [] _ _
        refine pm_R_lo pm_M189 (pc_q := 142) (pm_q189_1 (Nat.le_of_ble_eq_true rfl)) rfl rfl ?_
        refine rf_R_get pm_M189 T396 (pc_q := 145) (v := .ref 52) (pm_q189_1 (Nat.le_of_ble_eq_true rfl)) rfl rfl rfl ?_
        refine pm_R_op pm_M189 (pc_q := 146) (st_q := [.int 0, .ref 52]) (pm_q189_1 (Nat.le_of_ble_eq_true rfl)) rfl rfl ?_
        refine pm_R_lo pm_M189 (pc_q := 147) (pm_q189_1 (Nat.le_of_ble_eq_true rfl)) rfl rfl ?_
        refine pm_R_ldc2 pm_M189 (pc_q := 150) (pm_q189_1 (Nat.le_of_ble_eq_true rfl)) rfl rfl ?_
        refine pm_R_op pm_M189 (pc_q := 151) (st_q := [.int z342, .int 0, .ref 52]) (pm_q189_1 (Nat.le_of_ble_eq_true rfl)) (by show some (Value.int (lg_cmp a0 1819242347) :: _) = _; rw [← e343]) rfl ?_
        refine pm_R_ifc pm_M189 (t := 158) (pc_q := 154) (pm_q189_1 (Nat.le_of_ble_eq_true rfl)) rfl rfl (fun c402 => absurd (sf_pt2 B345 sf_k0) c402) (fun c402 => ?_)
        refine pm_R_op pm_M189 (pc_q := 155) (st_q := [.int 0, .int 0, .ref 52]) (pm_q189_1 (Nat.le_of_ble_eq_true rfl)) rfl rfl ?_
        refine pm_R_br pm_M189 (pc_q := 171) (pm_q189_1 (Nat.le_of_ble_eq_true rfl)) rfl ?_
        refine rf_R_ist pm_M189 T396 (pc_q := 172) (pm_q189_1 (Nat.le_of_ble_eq_true rfl)) e398 (by decide) (by decide) rfl ⟨_, rfl, sf_upd (sf_upd (sf_upd (sf_upd (sf_upd b379 (sf_weak sf_kn1 (by decide) (by decide)) _) (sf_weak sf_kn1 (by decide) (by decide)) _) (sf_weak sf_kn1 (by decide) (by decide)) _) (sf_weak sf_kn1 (by decide) (by decide)) _) (sf_weak sf_k0 (by decide) (by decide)) _⟩ rfl (fun h403 T404 F405 e406 => ?_)
        have F407 := F399.trans F405 (by decide)
        refine pm_R_lo pm_M189 (pc_q := 173) (pm_q189_1 (Nat.le_of_ble_eq_true rfl)) rfl rfl ?_
        refine pm_R_op pm_M189 (pc_q := 174) (st_q := [.int 1, .ref 41]) (pm_q189_1 (Nat.le_of_ble_eq_true rfl)) rfl rfl ?_
        refine pm_R_op pm_M189 (pc_q := 175) (st_q := [.int (-1), .int 1, .ref 41]) (pm_q189_1 (Nat.le_of_ble_eq_true rfl)) rfl rfl ?_
        refine pm_R_cv pm_M189 (pc_q := 178) (a := 41) (ra := [.int (-1), .int 1]) (rest := []) (ls_q := [.ref 41, .int 1, .int (-1), pm_no]) (pm_q189_1 (Nat.le_of_ble_eq_true rfl)) rfl (Or.inl rfl) pm_M191 T404.2.1 rfl (by decide) (Nat.lt_of_lt_of_le (by decide) T404.1) rfl rfl (Nat.le_of_ble_eq_true rfl) rfl rfl ?_
        refine pm_R_lo pm_M191 (pc_q := 1) rfl rfl rfl ?_
        refine pm_R_lo pm_M191 (pc_q := 2) rfl rfl rfl ?_
        refine pm_R_op pm_M191 (pc_q := 3) (st_q := [.int 5, .int 1, .ref 41]) rfl rfl rfl ?_
        refine pm_R_lo pm_M191 (pc_q := 4) rfl rfl rfl ?_
        refine pm_R_cv pm_M191 (pc_q := 7) (a := 41) (ra := [.int (-1), .int 5, .int 1]) (rest := []) (ls_q := [.ref 41, .int 1, .int 5, .int (-1)]) rfl rfl (Or.inl rfl) pm_M183 T404.2.1 rfl (by decide) (Nat.lt_of_lt_of_le (by decide) T404.1) rfl rfl (Nat.le_of_ble_eq_true rfl) rfl rfl ?_
        refine rf_c183_1_5 (d := d + 0) T404  (fun m410 w411 h412 T413 F414 W415 X416 => ?_) (fun m419 w420 h421 T422 F423 W424 X425 X426 X427 X428 X429 => ?_) (fun m432 w433 h434 T435 F436 W437 X438 X439 X440 B441 B442 => ?_)
        · have F443 := F407.trans F414 (by decide)
          have W444 : rf_W [10, 12, 13, 14, 16, 17, 18, 21, 22] m m410 := W368.trans W415 (by decide)
          have B445 : sf_B 0 600 (m410 10) := T413.2.2.1 10
          have B446 : sf_B 0 4 (m410 13) := T413.2.2.1 13
          have B447 : sf_B 0 4 (m410 17) := T413.2.2.1 17
          have B448 : sf_B 0 1 (m410 22) := T413.2.2.1 22
          show pm_R _ 191 7 [.ref 41, .int 1, .int (-1), pm_no] [.int 0] _ _
          have R449 : (m 10).toInt ≤ (m410 10).toInt := (sf_aux70 _ _ _ R372 X416)
          refine pm_R_lo pm_M191 (pc_q := 8) (ls_q := [.ref 41, .int 1, .int (-1), .int 0]) (st_q := []) rfl rfl rfl ?_
          refine pm_R_lo pm_M191 (pc_q := 9) rfl rfl rfl ?_
          refine pm_R_lo pm_M191 (pc_q := 10) rfl rfl rfl ?_
          refine pm_R_br pm_M191 (pc_q := 35) (st_q := [.ref 41]) rfl rfl ?_
          refine pm_R_lo pm_M191 (pc_q := 36) rfl rfl rfl ?_
          have B450 : sf_B (-1) 99 (m410 21) := T413.2.2.1 21
          refine rf_R_get pm_M191 T413 (pc_q := 39) (v := .int (m410 21)) rfl rfl rfl rfl ?_
          refine rf_R_put pm_M191 T413 (pc_q := 42) rfl rfl rfl (by decide) rfl rfl B450 rfl rfl (fun h451 m454 em455 T452 F453 => ?_)
          have F456 := F443.trans F453 (by decide)
          have B457 : sf_B 0 600 (m454 10) := by rw [em455]; exact B445
          have ek458 : (m454 10).toInt = ((m410 10)).toInt := by rw [em455]; rfl
          have B459 : sf_B 0 4 (m454 13) := by rw [em455]; exact B446
          have ek460 : (m454 13).toInt = ((m410 13)).toInt := by rw [em455]; rfl
          have B461 : sf_B 0 4 (m454 17) := by rw [em455]; exact B447
          have ek462 : (m454 17).toInt = ((m410 17)).toInt := by rw [em455]; rfl
          have B463 : sf_B 0 1 (m454 22) := by rw [em455]; exact B448
          have ek464 : (m454 22).toInt = ((m410 22)).toInt := by rw [em455]; rfl
          have B465 : sf_B (-1) 99 (m454 21) := by rw [em455]; exact B450
          have ek466 : (m454 21).toInt = ((m410 21)).toInt := by rw [em455]; rfl
          have W467 : rf_W [10, 12, 13, 14, 16, 17, 18, 21, 22] m m454 := by rw [em455]; exact W444.put (by decide)
          refine pm_R_lo pm_M191 (pc_q := 43) rfl rfl rfl ?_
          refine pm_R_ret pm_M191 (r := some (.int 0)) rfl rfl ?_
          show pm_R _ 189 178 [.ref 41, .long a0, pm_no, .int a1, pm_no] [.int 0] _ _
          refine pm_R_br pm_M189 (pc_q := 181) (st_q := []) (pm_q189_1 (Nat.le_of_ble_eq_true rfl)) rfl ?_
          refine pm_R_op pm_M189 (pc_q := 182) (st_q := [.int 0]) (pm_q189_1 (Nat.le_of_ble_eq_true rfl)) rfl rfl ?_
          exact pm_R_ret pm_M189 (r := some (.int 0)) (pm_q189_1 (Nat.le_of_ble_eq_true rfl)) rfl (K0 m454 w411 h451 T452 F456 W467 (sf_aux39 _ _ _ ek458 R449))
        · have F468 := F407.trans F423 (by decide)
          have W469 : rf_W [10, 12, 13, 14, 16, 17, 18, 21, 22] m m419 := W368.trans W424 (by decide)
          have B470 : sf_B 0 600 (m419 10) := T422.2.2.1 10
          have B471 : sf_B 0 4 (m419 13) := T422.2.2.1 13
          have B472 : sf_B 0 4 (m419 17) := T422.2.2.1 17
          have B473 : sf_B 0 1 (m419 22) := T422.2.2.1 22
          show pm_R _ 191 7 [.ref 41, .int 1, .int (-1), pm_no] [.int 1] _ _
          have R474 : (m 10).toInt ≤ (m419 10).toInt := (sf_aux70 _ _ _ R372 X429)
          obtain ⟨v475, B476, e477⟩ := X425 _ e406
          refine pm_R_lo pm_M191 (pc_q := 8) (ls_q := [.ref 41, .int 1, .int (-1), .int 1]) (st_q := []) rfl rfl rfl ?_
          refine pm_R_lo pm_M191 (pc_q := 9) rfl rfl rfl ?_
          refine pm_R_lo pm_M191 (pc_q := 10) rfl rfl rfl ?_
          refine pm_R_br pm_M191 (pc_q := 13) (st_q := [.ref 41]) rfl rfl ?_
          refine pm_R_lo pm_M191 (pc_q := 14) rfl rfl rfl ?_
          refine rf_R_get pm_M191 T422 (pc_q := 17) (v := .ref 52) rfl rfl rfl rfl ?_
          refine pm_R_lo pm_M191 (pc_q := 18) rfl rfl rfl ?_
          refine pm_R_iald pm_M191 (pc_q := 19) (v := v475) rfl e477 (Nat.lt_of_lt_of_le (by decide) T422.1) rfl sf_upd_eq rfl ?_
          refine pm_R_lo pm_M191 (pc_q := 20) rfl rfl rfl ?_
          have B480 : sf_B (-1) 99 (m419 21) := T422.2.2.1 21
          refine rf_R_get pm_M191 T422 (pc_q := 23) (v := .int (m419 21)) rfl rfl rfl rfl ?_
          refine pm_R_icmp pm_M191 (t := 35) (pc_q := 26) rfl rfl rfl (fun c481 => ?_) (fun c481 => ?_)
          · have B482 : sf_B 0 99 (m419 21) := sf_leR c481 B476 B480
            refine pm_R_lo pm_M191 (pc_q := 36) rfl rfl rfl ?_
            refine rf_R_get pm_M191 T422 (pc_q := 39) (v := .int (m419 21)) rfl rfl rfl rfl ?_
            refine rf_R_put pm_M191 T422 (pc_q := 42) rfl rfl rfl (by decide) rfl rfl (sf_weak B482 (by decide) (by decide)) rfl rfl (fun h483 m486 em487 T484 F485 => ?_)
            have F488 := F468.trans F485 (by decide)
            have B489 : sf_B 0 600 (m486 10) := by rw [em487]; exact B470
            have ek490 : (m486 10).toInt = ((m419 10)).toInt := by rw [em487]; rfl
            have B491 : sf_B 0 4 (m486 13) := by rw [em487]; exact B471
            have ek492 : (m486 13).toInt = ((m419 13)).toInt := by rw [em487]; rfl
            have B493 : sf_B 0 4 (m486 17) := by rw [em487]; exact (sf_eqT X426 B366)
            have ek494 : (m486 17).toInt = ((m357 17)).toInt := by rw [em487]; exact X426
            have B495 : sf_B 0 1 (m486 22) := by rw [em487]; exact (sf_eqT X427 B371)
            have ek496 : (m486 22).toInt = ((m357 22)).toInt := by rw [em487]; exact X427
            have B497 : sf_B 0 99 (m486 21) := by rw [em487]; exact B482
            have ek498 : (m486 21).toInt = ((m419 21)).toInt := by rw [em487]; rfl
            have W499 : rf_W [10, 12, 13, 14, 16, 17, 18, 21, 22] m m486 := by rw [em487]; exact W469.put (by decide)
            refine pm_R_lo pm_M191 (pc_q := 43) rfl rfl rfl ?_
            refine pm_R_ret pm_M191 (r := some (.int 1)) rfl rfl ?_
            show pm_R _ 189 178 [.ref 41, .long a0, pm_no, .int a1, pm_no] [.int 1] _ _
            refine pm_R_br pm_M189 (pc_q := 183) (st_q := []) (pm_q189_1 (Nat.le_of_ble_eq_true rfl)) rfl ?_
            refine pm_R_lo pm_M189 (pc_q := 184) (pm_q189_1 (Nat.le_of_ble_eq_true rfl)) rfl rfl ?_
            refine pm_R_ldc2 pm_M189 (pc_q := 187) (pm_q189_1 (Nat.le_of_ble_eq_true rfl)) rfl rfl ?_
            refine pm_R_op pm_M189 (pc_q := 188) (st_q := [.int z342]) (pm_q189_1 (Nat.le_of_ble_eq_true rfl)) (by show some (Value.int (lg_cmp a0 1819242347) :: _) = _; rw [← e343]) rfl ?_
            refine pm_R_ifc pm_M189 (t := 205) (pc_q := 191) (pm_q189_1 (Nat.le_of_ble_eq_true rfl)) rfl rfl (fun c502 => absurd (sf_pt2 B345 sf_k0) c502) (fun c502 => ?_)
            refine pm_R_lo pm_M189 (pc_q := 192) (pm_q189_1 (Nat.le_of_ble_eq_true rfl)) rfl rfl ?_
            refine pm_R_op pm_M189 (pc_q := 193) (st_q := [.int 2, .ref 41]) (pm_q189_1 (Nat.le_of_ble_eq_true rfl)) rfl rfl ?_
            refine pm_R_lo pm_M189 (pc_q := 194) (pm_q189_1 (Nat.le_of_ble_eq_true rfl)) rfl rfl ?_
            refine rf_R_get pm_M189 T484 (pc_q := 197) (v := .ref 52) (pm_q189_1 (Nat.le_of_ble_eq_true rfl)) rfl rfl rfl ?_
            refine pm_R_op pm_M189 (pc_q := 198) (st_q := [.int 1, .ref 52, .int 2, .ref 41]) (pm_q189_1 (Nat.le_of_ble_eq_true rfl)) rfl rfl ?_
            have e503 := (F485.cell (by decide) e477)
            refine pm_R_iald pm_M189 (pc_q := 199) (v := v475) (pm_q189_1 (Nat.le_of_ble_eq_true rfl)) e503 (Nat.lt_of_lt_of_le (by decide) T484.1) rfl sf_upd_eq rfl ?_
            refine pm_R_cv pm_M189 (pc_q := 202) (a := 41) (ra := [.int v475, .int 2]) (rest := []) (ls_q := [.ref 41, .int 2, .int v475, pm_no]) (pm_q189_1 (Nat.le_of_ble_eq_true rfl)) rfl (Or.inl rfl) pm_M191 T484.2.1 rfl (by decide) (Nat.lt_of_lt_of_le (by decide) T484.1) rfl rfl (Nat.le_of_ble_eq_true rfl) rfl rfl ?_
            refine pm_R_lo pm_M191 (pc_q := 1) rfl rfl rfl ?_
            refine pm_R_lo pm_M191 (pc_q := 2) rfl rfl rfl ?_
            refine pm_R_op pm_M191 (pc_q := 3) (st_q := [.int 5, .int 2, .ref 41]) rfl rfl rfl ?_
            refine pm_R_lo pm_M191 (pc_q := 4) rfl rfl rfl ?_
            refine pm_R_cv pm_M191 (pc_q := 7) (a := 41) (ra := [.int v475, .int 5, .int 2]) (rest := []) (ls_q := [.ref 41, .int 2, .int 5, .int v475]) rfl rfl (Or.inl rfl) pm_M183 T484.2.1 rfl (by decide) (Nat.lt_of_lt_of_le (by decide) T484.1) rfl rfl (Nat.le_of_ble_eq_true rfl) rfl rfl ?_
            refine rf_c183_2_5 (d := d + 0) T484  (fun m508 w509 h510 T511 F512 W513 X514 => ?_) (fun m517 w518 h519 T520 F521 W522 X523 X524 X525 X526 X527 => ?_) (fun m530 w531 h532 T533 F534 W535 X536 X537 X538 B539 B540 => ?_)
            · have F541 := F488.trans F512 (by decide)
              have B542 : sf_B 0 99 (m508 21) := by rw [W513 21 (by decide)]; exact B497
              have ek543 : (m508 21).toInt = ((m419 21)).toInt := by rw [W513 21 (by decide)]; exact ek498
              have W544 : rf_W [10, 12, 13, 14, 16, 17, 18, 21, 22] m m508 := W499.trans W513 (by decide)
              have B545 : sf_B 0 600 (m508 10) := T511.2.2.1 10
              have B546 : sf_B 0 4 (m508 13) := T511.2.2.1 13
              have B547 : sf_B 0 4 (m508 17) := T511.2.2.1 17
              have B548 : sf_B 0 1 (m508 22) := T511.2.2.1 22
              show pm_R _ 191 7 [.ref 41, .int 2, .int v475, pm_no] [.int 0] _ _
              have R549 : (m 10).toInt ≤ (m508 10).toInt := (sf_aux76 _ _ _ _ ek490 R474 X514)
              refine pm_R_lo pm_M191 (pc_q := 8) (ls_q := [.ref 41, .int 2, .int v475, .int 0]) (st_q := []) rfl rfl rfl ?_
              refine pm_R_lo pm_M191 (pc_q := 9) rfl rfl rfl ?_
              refine pm_R_lo pm_M191 (pc_q := 10) rfl rfl rfl ?_
              refine pm_R_br pm_M191 (pc_q := 35) (st_q := [.ref 41]) rfl rfl ?_
              refine pm_R_lo pm_M191 (pc_q := 36) rfl rfl rfl ?_
              refine rf_R_get pm_M191 T511 (pc_q := 39) (v := .int (m508 21)) rfl rfl rfl rfl ?_
              refine rf_R_put pm_M191 T511 (pc_q := 42) rfl rfl rfl (by decide) rfl rfl (sf_weak B542 (by decide) (by decide)) rfl rfl (fun h550 m553 em554 T551 F552 => ?_)
              have F555 := F541.trans F552 (by decide)
              have B556 : sf_B 0 600 (m553 10) := by rw [em554]; exact B545
              have ek557 : (m553 10).toInt = ((m508 10)).toInt := by rw [em554]; rfl
              have B558 : sf_B 0 4 (m553 13) := by rw [em554]; exact B546
              have ek559 : (m553 13).toInt = ((m508 13)).toInt := by rw [em554]; rfl
              have B560 : sf_B 0 4 (m553 17) := by rw [em554]; exact B547
              have ek561 : (m553 17).toInt = ((m508 17)).toInt := by rw [em554]; rfl
              have B562 : sf_B 0 1 (m553 22) := by rw [em554]; exact B548
              have ek563 : (m553 22).toInt = ((m508 22)).toInt := by rw [em554]; rfl
              have B564 : sf_B 0 99 (m553 21) := by rw [em554]; exact B542
              have ek565 : (m553 21).toInt = ((m508 21)).toInt := by rw [em554]; rfl
              have W566 : rf_W [10, 12, 13, 14, 16, 17, 18, 21, 22] m m553 := by rw [em554]; exact W544.put (by decide)
              refine pm_R_lo pm_M191 (pc_q := 43) rfl rfl rfl ?_
              refine pm_R_ret pm_M191 (r := some (.int 0)) rfl rfl ?_
              show pm_R _ 189 202 [.ref 41, .long a0, pm_no, .int a1, pm_no] [.int 0] _ _
              refine pm_R_br pm_M189 (pc_q := 224) (st_q := []) (pm_q189_1 (Nat.le_of_ble_eq_true rfl)) rfl ?_
              refine pm_R_op pm_M189 (pc_q := 225) (st_q := [.int 0]) (pm_q189_2 (Nat.le_of_ble_eq_true rfl)) rfl rfl ?_
              exact pm_R_ret pm_M189 (r := some (.int 0)) (pm_q189_2 (Nat.le_of_ble_eq_true rfl)) rfl (K0 m553 w509 h550 T551 F555 W566 (sf_aux39 _ _ _ ek557 R549))
            · have F567 := F488.trans F521 (by decide)
              have B568 : sf_B 0 99 (m517 21) := by rw [W522 21 (by decide)]; exact B497
              have ek569 : (m517 21).toInt = ((m419 21)).toInt := by rw [W522 21 (by decide)]; exact ek498
              have W570 : rf_W [10, 12, 13, 14, 16, 17, 18, 21, 22] m m517 := W499.trans W522 (by decide)
              have B571 : sf_B 0 600 (m517 10) := T520.2.2.1 10
              have B572 : sf_B 0 4 (m517 13) := T520.2.2.1 13
              have B573 : sf_B 0 4 (m517 17) := T520.2.2.1 17
              have B574 : sf_B 0 1 (m517 22) := T520.2.2.1 22
              show pm_R _ 191 7 [.ref 41, .int 2, .int v475, pm_no] [.int 1] _ _
              have R575 : (m 10).toInt ≤ (m517 10).toInt := (sf_aux76 _ _ _ _ ek490 R474 X527)
              obtain ⟨v576, B577, e578⟩ := X523 _ e503
              refine pm_R_lo pm_M191 (pc_q := 8) (ls_q := [.ref 41, .int 2, .int v475, .int 1]) (st_q := []) rfl rfl rfl ?_
              refine pm_R_lo pm_M191 (pc_q := 9) rfl rfl rfl ?_
              refine pm_R_lo pm_M191 (pc_q := 10) rfl rfl rfl ?_
              refine pm_R_br pm_M191 (pc_q := 13) (st_q := [.ref 41]) rfl rfl ?_
              refine pm_R_lo pm_M191 (pc_q := 14) rfl rfl rfl ?_
              refine rf_R_get pm_M191 T520 (pc_q := 17) (v := .ref 52) rfl rfl rfl rfl ?_
              refine pm_R_lo pm_M191 (pc_q := 18) rfl rfl rfl ?_
              refine pm_R_iald pm_M191 (pc_q := 19) (v := v576) rfl e578 (Nat.lt_of_lt_of_le (by decide) T520.1) rfl sf_upd_eq rfl ?_
              refine pm_R_lo pm_M191 (pc_q := 20) rfl rfl rfl ?_
              refine rf_R_get pm_M191 T520 (pc_q := 23) (v := .int (m517 21)) rfl rfl rfl rfl ?_
              refine pm_R_icmp pm_M191 (t := 35) (pc_q := 26) rfl rfl rfl (fun c581 => ?_) (fun c581 => ?_)
              · skip
                refine pm_R_lo pm_M191 (pc_q := 36) rfl rfl rfl ?_
                refine rf_R_get pm_M191 T520 (pc_q := 39) (v := .int (m517 21)) rfl rfl rfl rfl ?_
                refine rf_R_put pm_M191 T520 (pc_q := 42) rfl rfl rfl (by decide) rfl rfl (sf_weak B568 (by decide) (by decide)) rfl rfl (fun h582 m585 em586 T583 F584 => ?_)
                have F587 := F567.trans F584 (by decide)
                have B588 : sf_B 0 600 (m585 10) := by rw [em586]; exact B571
                have ek589 : (m585 10).toInt = ((m517 10)).toInt := by rw [em586]; rfl
                have B590 : sf_B 0 4 (m585 13) := by rw [em586]; exact B572
                have ek591 : (m585 13).toInt = ((m517 13)).toInt := by rw [em586]; rfl
                have B592 : sf_B 0 4 (m585 17) := by rw [em586]; exact (sf_eqT X524 B493)
                have ek593 : (m585 17).toInt = ((m486 17)).toInt := by rw [em586]; exact X524
                have B594 : sf_B 0 1 (m585 22) := by rw [em586]; exact (sf_eqT X525 B495)
                have ek595 : (m585 22).toInt = ((m486 22)).toInt := by rw [em586]; exact X525
                have B596 : sf_B 0 99 (m585 21) := by rw [em586]; exact B568
                have ek597 : (m585 21).toInt = ((m517 21)).toInt := by rw [em586]; rfl
                have W598 : rf_W [10, 12, 13, 14, 16, 17, 18, 21, 22] m m585 := by rw [em586]; exact W570.put (by decide)
                refine pm_R_lo pm_M191 (pc_q := 43) rfl rfl rfl ?_
                refine pm_R_ret pm_M191 (r := some (.int 1)) rfl rfl ?_
                show pm_R _ 189 202 [.ref 41, .long a0, pm_no, .int a1, pm_no] [.int 1] _ _
                refine pm_R_br pm_M189 (pc_q := 205) (st_q := []) (pm_q189_1 (Nat.le_of_ble_eq_true rfl)) rfl ?_
                refine pm_R_lo pm_M189 (pc_q := 206) (pm_q189_1 (Nat.le_of_ble_eq_true rfl)) rfl rfl ?_
                refine pm_R_ldc2 pm_M189 (pc_q := 209) (pm_q189_1 (Nat.le_of_ble_eq_true rfl)) rfl rfl ?_
                refine sf_R_lcmp pm_M189 (pc_q := 210) (pm_q189_1 (Nat.le_of_ble_eq_true rfl)) rfl (fun z599 e600 => ?_)
                have B601 : sf_B (-2147483648) (-1) z599 := lf_cmpLt e600 B346 (⟨by decide, by decide⟩ : lf_B 1935767923 1935767923 1935767923) (by decide)
                refine pm_R_ifc pm_M189 (t := 226) (pc_q := 213) (pm_q189_1 (Nat.le_of_ble_eq_true rfl)) rfl rfl (fun c602 => ?_) (fun c602 => absurd (Classical.not_not.mp c602) (sf_neq2 B601 sf_k0 (by decide)))
                have k603 := sf_lneC e600 c602
                refine pm_R_lo pm_M189 (pc_q := 227) (pm_q189_2 (Nat.le_of_ble_eq_true rfl)) rfl rfl ?_
                refine pm_R_op pm_M189 (pc_q := 228) (st_q := [.int 1, .ref 41]) (pm_q189_2 (Nat.le_of_ble_eq_true rfl)) rfl rfl ?_
                refine pm_R_op pm_M189 (pc_q := 229) (st_q := [.int 2, .int 1, .ref 41]) (pm_q189_2 (Nat.le_of_ble_eq_true rfl)) rfl rfl ?_
                refine pm_R_op pm_M189 (pc_q := 230) (st_q := [.int 3, .int 2, .int 1, .ref 41]) (pm_q189_2 (Nat.le_of_ble_eq_true rfl)) rfl rfl ?_
                refine pm_R_op pm_M189 (pc_q := 232) (st_q := [.int 50, .int 3, .int 2, .int 1, .ref 41]) (pm_q189_2 (Nat.le_of_ble_eq_true rfl)) rfl rfl ?_
                refine pm_R_op pm_M189 (pc_q := 233) (st_q := [.int 0, .int 50, .int 3, .int 2, .int 1, .ref 41]) (pm_q189_2 (Nat.le_of_ble_eq_true rfl)) rfl rfl ?_
                refine pm_R_cv pm_M189 (pc_q := 236) (a := 41) (ra := [.int 0, .int 50, .int 3, .int 2, .int 1]) (rest := []) (ls_q := [.ref 41, .int 1, .int 2, .int 3, .int 50, .int 0, pm_no, pm_no]) (pm_q189_2 (Nat.le_of_ble_eq_true rfl)) rfl (Or.inl rfl) pm_M185 T583.2.1 rfl (by decide) (Nat.lt_of_lt_of_le (by decide) T583.1) rfl rfl (Nat.le_of_ble_eq_true rfl) rfl rfl ?_
                have e604 := (F584.cell (by decide) (F521.cell (by decide) (F485.cell (by decide) (F423.cell (by decide) (F405.cell (by decide) (F397.cell (by decide) (F392.cell (by decide) (F387.cell (by decide) (F382.cell (by decide) (F361.cell (by decide) e3))))))))))
                have e605 := (F584.cell (by decide) e578)
                refine rf_c185_d (d := d + 3) T583 (⟨f2, e604, ct4, fun z => (bd5 (sf_aux73 _ _ _ _ ek367 ek494 ek593 z))⟩) (fun _ g eg => by rw [e605] at eg; cases eg; exact ⟨sf_eqL (Eq.trans (sf_upd_nec (k := Int32.toNatClampNeg 2) (j := Int32.toNatClampNeg 0) (by decide)) (Eq.trans (sf_upd_nec (k := Int32.toNatClampNeg 1) (j := Int32.toNatClampNeg 0) (by decide)) sf_upd_eq)) (sf_weak sf_k0 (by decide) (by decide)), sf_eqL (Eq.trans (sf_upd_nec (k := Int32.toNatClampNeg 2) (j := Int32.toNatClampNeg 1) (by decide)) sf_upd_eq) B476, sf_eqL sf_upd_eq (sf_weak B577 (by decide) (by decide))⟩) (fun m608 w609 h610 T611 F612 W613 X614 => ?_)
                have F615 := F587.trans F612 (by decide)
                have B616 : sf_B 0 600 (m608 10) := by rw [W613 10 (by decide)]; exact B588
                have ek617 : (m608 10).toInt = ((m517 10)).toInt := by rw [W613 10 (by decide)]; exact ek589
                have B618 : sf_B 0 4 (m608 13) := by rw [W613 13 (by decide)]; exact B590
                have ek619 : (m608 13).toInt = ((m517 13)).toInt := by rw [W613 13 (by decide)]; exact ek591
                have B620 : sf_B 0 4 (m608 17) := by rw [W613 17 (by decide)]; exact B592
                have ek621 : (m608 17).toInt = ((m486 17)).toInt := by rw [W613 17 (by decide)]; exact ek593
                have B622 : sf_B 0 1 (m608 22) := by rw [W613 22 (by decide)]; exact B594
                have ek623 : (m608 22).toInt = ((m486 22)).toInt := by rw [W613 22 (by decide)]; exact ek595
                have B624 : sf_B 0 99 (m608 21) := by rw [W613 21 (by decide)]; exact B596
                have ek625 : (m608 21).toInt = ((m517 21)).toInt := by rw [W613 21 (by decide)]; exact ek597
                have W626 : rf_W [10, 12, 13, 14, 16, 17, 18, 21, 22] m m608 := W598.trans W613 (by decide)
                show pm_R _ 189 236 [.ref 41, .long a0, pm_no, .int a1, pm_no] [] _ _
                obtain ⟨f627, e628, ct629, bd630⟩ := X614
                refine pm_R_op pm_M189 (pc_q := 237) (st_q := [.int 1]) (pm_q189_2 (Nat.le_of_ble_eq_true rfl)) rfl rfl ?_
                exact pm_R_ret pm_M189 (r := some (.int 1)) (pm_q189_2 (Nat.le_of_ble_eq_true rfl)) rfl (K1 m608 w609 h610 T611 F615 W626 (⟨f627, e628, ct629, fun z => (bd630 z)⟩) (sf_aux39 _ _ _ ek617 R575))
              · have B631 : sf_B 0 4 (m517 21) := sf_ltL (Int32.not_le.mp c581) B568 B577
                have B632 : sf_B 1 5 v576 := sf_ltR (Int32.not_le.mp c581) B568 B577
                refine pm_R_lo pm_M191 (pc_q := 27) rfl rfl rfl ?_
                refine rf_R_get pm_M191 T520 (pc_q := 30) (v := .ref 52) rfl rfl rfl rfl ?_
                refine pm_R_lo pm_M191 (pc_q := 31) rfl rfl rfl ?_
                refine pm_R_iald pm_M191 (pc_q := 32) (v := v576) rfl e578 (Nat.lt_of_lt_of_le (by decide) T520.1) rfl sf_upd_eq rfl ?_
                refine pm_R_br pm_M191 (pc_q := 39) rfl rfl ?_
                refine rf_R_put pm_M191 T520 (pc_q := 42) rfl rfl rfl (by decide) rfl rfl (sf_weak B632 (by decide) (by decide)) rfl rfl (fun h635 m638 em639 T636 F637 => ?_)
                have F640 := F567.trans F637 (by decide)
                have B641 : sf_B 0 600 (m638 10) := by rw [em639]; exact B571
                have ek642 : (m638 10).toInt = ((m517 10)).toInt := by rw [em639]; rfl
                have B643 : sf_B 0 4 (m638 13) := by rw [em639]; exact B572
                have ek644 : (m638 13).toInt = ((m517 13)).toInt := by rw [em639]; rfl
                have B645 : sf_B 0 4 (m638 17) := by rw [em639]; exact (sf_eqT X524 B493)
                have ek646 : (m638 17).toInt = ((m486 17)).toInt := by rw [em639]; exact X524
                have B647 : sf_B 0 1 (m638 22) := by rw [em639]; exact (sf_eqT X525 B495)
                have ek648 : (m638 22).toInt = ((m486 22)).toInt := by rw [em639]; exact X525
                have B649 : sf_B 1 5 (m638 21) := by rw [em639]; exact B632
                have ek650 : (m638 21).toInt = (v576).toInt := by rw [em639]; rfl
                have W651 : rf_W [10, 12, 13, 14, 16, 17, 18, 21, 22] m m638 := by rw [em639]; exact W570.put (by decide)
                refine pm_R_lo pm_M191 (pc_q := 43) rfl rfl rfl ?_
                refine pm_R_ret pm_M191 (r := some (.int 1)) rfl rfl ?_
                show pm_R _ 189 202 [.ref 41, .long a0, pm_no, .int a1, pm_no] [.int 1] _ _
                refine pm_R_br pm_M189 (pc_q := 205) (st_q := []) (pm_q189_1 (Nat.le_of_ble_eq_true rfl)) rfl ?_
                refine pm_R_lo pm_M189 (pc_q := 206) (pm_q189_1 (Nat.le_of_ble_eq_true rfl)) rfl rfl ?_
                refine pm_R_ldc2 pm_M189 (pc_q := 209) (pm_q189_1 (Nat.le_of_ble_eq_true rfl)) rfl rfl ?_
                refine sf_R_lcmp pm_M189 (pc_q := 210) (pm_q189_1 (Nat.le_of_ble_eq_true rfl)) rfl (fun z652 e653 => ?_)
                have B654 : sf_B (-2147483648) (-1) z652 := lf_cmpLt e653 B346 (⟨by decide, by decide⟩ : lf_B 1935767923 1935767923 1935767923) (by decide)
                refine pm_R_ifc pm_M189 (t := 226) (pc_q := 213) (pm_q189_1 (Nat.le_of_ble_eq_true rfl)) rfl rfl (fun c655 => ?_) (fun c655 => absurd (Classical.not_not.mp c655) (sf_neq2 B654 sf_k0 (by decide)))
                have k656 := sf_lneC e653 c655
                refine pm_R_lo pm_M189 (pc_q := 227) (pm_q189_2 (Nat.le_of_ble_eq_true rfl)) rfl rfl ?_
                refine pm_R_op pm_M189 (pc_q := 228) (st_q := [.int 1, .ref 41]) (pm_q189_2 (Nat.le_of_ble_eq_true rfl)) rfl rfl ?_
                refine pm_R_op pm_M189 (pc_q := 229) (st_q := [.int 2, .int 1, .ref 41]) (pm_q189_2 (Nat.le_of_ble_eq_true rfl)) rfl rfl ?_
                refine pm_R_op pm_M189 (pc_q := 230) (st_q := [.int 3, .int 2, .int 1, .ref 41]) (pm_q189_2 (Nat.le_of_ble_eq_true rfl)) rfl rfl ?_
                refine pm_R_op pm_M189 (pc_q := 232) (st_q := [.int 50, .int 3, .int 2, .int 1, .ref 41]) (pm_q189_2 (Nat.le_of_ble_eq_true rfl)) rfl rfl ?_
                refine pm_R_op pm_M189 (pc_q := 233) (st_q := [.int 0, .int 50, .int 3, .int 2, .int 1, .ref 41]) (pm_q189_2 (Nat.le_of_ble_eq_true rfl)) rfl rfl ?_
                refine pm_R_cv pm_M189 (pc_q := 236) (a := 41) (ra := [.int 0, .int 50, .int 3, .int 2, .int 1]) (rest := []) (ls_q := [.ref 41, .int 1, .int 2, .int 3, .int 50, .int 0, pm_no, pm_no]) (pm_q189_2 (Nat.le_of_ble_eq_true rfl)) rfl (Or.inl rfl) pm_M185 T636.2.1 rfl (by decide) (Nat.lt_of_lt_of_le (by decide) T636.1) rfl rfl (Nat.le_of_ble_eq_true rfl) rfl rfl ?_
                have e657 := (F637.cell (by decide) (F521.cell (by decide) (F485.cell (by decide) (F423.cell (by decide) (F405.cell (by decide) (F397.cell (by decide) (F392.cell (by decide) (F387.cell (by decide) (F382.cell (by decide) (F361.cell (by decide) e3))))))))))
                have e658 := (F637.cell (by decide) e578)
                refine rf_c185_d (d := d + 3) T636 (⟨f2, e657, ct4, fun z => (bd5 (sf_aux73 _ _ _ _ ek367 ek494 ek646 z))⟩) (fun _ g eg => by rw [e658] at eg; cases eg; exact ⟨sf_eqL (Eq.trans (sf_upd_nec (k := Int32.toNatClampNeg 2) (j := Int32.toNatClampNeg 0) (by decide)) (Eq.trans (sf_upd_nec (k := Int32.toNatClampNeg 1) (j := Int32.toNatClampNeg 0) (by decide)) sf_upd_eq)) (sf_weak sf_k0 (by decide) (by decide)), sf_eqL (Eq.trans (sf_upd_nec (k := Int32.toNatClampNeg 2) (j := Int32.toNatClampNeg 1) (by decide)) sf_upd_eq) B476, sf_eqL sf_upd_eq (sf_weak B632 (by decide) (by decide))⟩) (fun m661 w662 h663 T664 F665 W666 X667 => ?_)
                have F668 := F640.trans F665 (by decide)
                have B669 : sf_B 0 600 (m661 10) := by rw [W666 10 (by decide)]; exact B641
                have ek670 : (m661 10).toInt = ((m517 10)).toInt := by rw [W666 10 (by decide)]; exact ek642
                have B671 : sf_B 0 4 (m661 13) := by rw [W666 13 (by decide)]; exact B643
                have ek672 : (m661 13).toInt = ((m517 13)).toInt := by rw [W666 13 (by decide)]; exact ek644
                have B673 : sf_B 0 4 (m661 17) := by rw [W666 17 (by decide)]; exact B645
                have ek674 : (m661 17).toInt = ((m486 17)).toInt := by rw [W666 17 (by decide)]; exact ek646
                have B675 : sf_B 0 1 (m661 22) := by rw [W666 22 (by decide)]; exact B647
                have ek676 : (m661 22).toInt = ((m486 22)).toInt := by rw [W666 22 (by decide)]; exact ek648
                have B677 : sf_B 1 5 (m661 21) := by rw [W666 21 (by decide)]; exact B649
                have ek678 : (m661 21).toInt = (v576).toInt := by rw [W666 21 (by decide)]; exact ek650
                have W679 : rf_W [10, 12, 13, 14, 16, 17, 18, 21, 22] m m661 := W651.trans W666 (by decide)
                show pm_R _ 189 236 [.ref 41, .long a0, pm_no, .int a1, pm_no] [] _ _
                obtain ⟨f680, e681, ct682, bd683⟩ := X667
                refine pm_R_op pm_M189 (pc_q := 237) (st_q := [.int 1]) (pm_q189_2 (Nat.le_of_ble_eq_true rfl)) rfl rfl ?_
                exact pm_R_ret pm_M189 (r := some (.int 1)) (pm_q189_2 (Nat.le_of_ble_eq_true rfl)) rfl (K1 m661 w662 h663 T664 F668 W679 (⟨f680, e681, ct682, fun z => (bd683 z)⟩) (sf_aux39 _ _ _ ek670 R575))
            · have F684 := F488.trans F534 (by decide)
              have B685 : sf_B 0 99 (m530 21) := by rw [W535 21 (by decide)]; exact B497
              have ek686 : (m530 21).toInt = ((m419 21)).toInt := by rw [W535 21 (by decide)]; exact ek498
              have W687 : rf_W [10, 12, 13, 14, 16, 17, 18, 21, 22] m m530 := W499.trans W535 (by decide)
              have B688 : sf_B 0 600 (m530 10) := T533.2.2.1 10
              have B689 : sf_B 0 4 (m530 13) := T533.2.2.1 13
              have B690 : sf_B 0 4 (m530 17) := T533.2.2.1 17
              have B691 : sf_B 0 1 (m530 22) := T533.2.2.1 22
              show pm_R _ 191 7 [.ref 41, .int 2, .int v475, pm_no] [.int 1] _ _
              have R692 : (m 10).toInt ≤ (m530 10).toInt := (sf_aux76 _ _ _ _ ek490 R474 X538)
              obtain ⟨v693, B694, e695⟩ := X536 _ e503
              refine pm_R_lo pm_M191 (pc_q := 8) (ls_q := [.ref 41, .int 2, .int v475, .int 1]) (st_q := []) rfl rfl rfl ?_
              refine pm_R_lo pm_M191 (pc_q := 9) rfl rfl rfl ?_
              refine pm_R_lo pm_M191 (pc_q := 10) rfl rfl rfl ?_
              refine pm_R_br pm_M191 (pc_q := 13) (st_q := [.ref 41]) rfl rfl ?_
              refine pm_R_lo pm_M191 (pc_q := 14) rfl rfl rfl ?_
              refine rf_R_get pm_M191 T533 (pc_q := 17) (v := .ref 52) rfl rfl rfl rfl ?_
              refine pm_R_lo pm_M191 (pc_q := 18) rfl rfl rfl ?_
              refine pm_R_iald pm_M191 (pc_q := 19) (v := v693) rfl e695 (Nat.lt_of_lt_of_le (by decide) T533.1) rfl sf_upd_eq rfl ?_
              refine pm_R_lo pm_M191 (pc_q := 20) rfl rfl rfl ?_
              refine rf_R_get pm_M191 T533 (pc_q := 23) (v := .int (m530 21)) rfl rfl rfl rfl ?_
              refine pm_R_icmp pm_M191 (t := 35) (pc_q := 26) rfl rfl rfl (fun c698 => ?_) (fun c698 => ?_)
              · skip
                refine pm_R_lo pm_M191 (pc_q := 36) rfl rfl rfl ?_
                refine rf_R_get pm_M191 T533 (pc_q := 39) (v := .int (m530 21)) rfl rfl rfl rfl ?_
                refine rf_R_put pm_M191 T533 (pc_q := 42) rfl rfl rfl (by decide) rfl rfl (sf_weak B685 (by decide) (by decide)) rfl rfl (fun h699 m702 em703 T700 F701 => ?_)
                have F704 := F684.trans F701 (by decide)
                have B705 : sf_B 0 600 (m702 10) := by rw [em703]; exact B688
                have ek706 : (m702 10).toInt = ((m530 10)).toInt := by rw [em703]; rfl
                have B707 : sf_B 0 4 (m702 13) := by rw [em703]; exact B689
                have ek708 : (m702 13).toInt = ((m530 13)).toInt := by rw [em703]; rfl
                have B709 : sf_B 1 4 (m702 17) := by rw [em703]; exact B539
                have ek710 : (m702 17).toInt = ((m530 17)).toInt := by rw [em703]; rfl
                have B711 : sf_B 0 0 (m702 22) := by rw [em703]; exact B540
                have ek712 : (m702 22).toInt = ((m530 22)).toInt := by rw [em703]; rfl
                have B713 : sf_B 0 99 (m702 21) := by rw [em703]; exact B685
                have ek714 : (m702 21).toInt = ((m530 21)).toInt := by rw [em703]; rfl
                have W715 : rf_W [10, 12, 13, 14, 16, 17, 18, 21, 22] m m702 := by rw [em703]; exact W687.put (by decide)
                refine pm_R_lo pm_M191 (pc_q := 43) rfl rfl rfl ?_
                refine pm_R_ret pm_M191 (r := some (.int 1)) rfl rfl ?_
                show pm_R _ 189 202 [.ref 41, .long a0, pm_no, .int a1, pm_no] [.int 1] _ _
                refine pm_R_br pm_M189 (pc_q := 205) (st_q := []) (pm_q189_1 (Nat.le_of_ble_eq_true rfl)) rfl ?_
                refine pm_R_lo pm_M189 (pc_q := 206) (pm_q189_1 (Nat.le_of_ble_eq_true rfl)) rfl rfl ?_
                refine pm_R_ldc2 pm_M189 (pc_q := 209) (pm_q189_1 (Nat.le_of_ble_eq_true rfl)) rfl rfl ?_
                refine sf_R_lcmp pm_M189 (pc_q := 210) (pm_q189_1 (Nat.le_of_ble_eq_true rfl)) rfl (fun z716 e717 => ?_)
                have B718 : sf_B (-2147483648) (-1) z716 := lf_cmpLt e717 B346 (⟨by decide, by decide⟩ : lf_B 1935767923 1935767923 1935767923) (by decide)
                refine pm_R_ifc pm_M189 (t := 226) (pc_q := 213) (pm_q189_1 (Nat.le_of_ble_eq_true rfl)) rfl rfl (fun c719 => ?_) (fun c719 => absurd (Classical.not_not.mp c719) (sf_neq2 B718 sf_k0 (by decide)))
                have k720 := sf_lneC e717 c719
                refine pm_R_lo pm_M189 (pc_q := 227) (pm_q189_2 (Nat.le_of_ble_eq_true rfl)) rfl rfl ?_
                refine pm_R_op pm_M189 (pc_q := 228) (st_q := [.int 1, .ref 41]) (pm_q189_2 (Nat.le_of_ble_eq_true rfl)) rfl rfl ?_
                refine pm_R_op pm_M189 (pc_q := 229) (st_q := [.int 2, .int 1, .ref 41]) (pm_q189_2 (Nat.le_of_ble_eq_true rfl)) rfl rfl ?_
                refine pm_R_op pm_M189 (pc_q := 230) (st_q := [.int 3, .int 2, .int 1, .ref 41]) (pm_q189_2 (Nat.le_of_ble_eq_true rfl)) rfl rfl ?_
                refine pm_R_op pm_M189 (pc_q := 232) (st_q := [.int 50, .int 3, .int 2, .int 1, .ref 41]) (pm_q189_2 (Nat.le_of_ble_eq_true rfl)) rfl rfl ?_
                refine pm_R_op pm_M189 (pc_q := 233) (st_q := [.int 0, .int 50, .int 3, .int 2, .int 1, .ref 41]) (pm_q189_2 (Nat.le_of_ble_eq_true rfl)) rfl rfl ?_
                refine pm_R_cv pm_M189 (pc_q := 236) (a := 41) (ra := [.int 0, .int 50, .int 3, .int 2, .int 1]) (rest := []) (ls_q := [.ref 41, .int 1, .int 2, .int 3, .int 50, .int 0, pm_no, pm_no]) (pm_q189_2 (Nat.le_of_ble_eq_true rfl)) rfl (Or.inl rfl) pm_M185 T700.2.1 rfl (by decide) (Nat.lt_of_lt_of_le (by decide) T700.1) rfl rfl (Nat.le_of_ble_eq_true rfl) rfl rfl ?_
                have e721 := (F701.cell (by decide) (F534.cell (by decide) (F485.cell (by decide) (F423.cell (by decide) (F405.cell (by decide) (F397.cell (by decide) (F392.cell (by decide) (F387.cell (by decide) (F382.cell (by decide) (F361.cell (by decide) e3))))))))))
                refine rf_c185_d (d := d + 3) T700 (⟨f2, e721, ct4, fun z => (sf_pos B709 (by decide) z)⟩) (fun z => sf_pos B709 (by decide) z) (fun m724 w725 h726 T727 F728 W729 X730 => ?_)
                have F731 := F704.trans F728 (by decide)
                have B732 : sf_B 0 600 (m724 10) := by rw [W729 10 (by decide)]; exact B705
                have ek733 : (m724 10).toInt = ((m530 10)).toInt := by rw [W729 10 (by decide)]; exact ek706
                have B734 : sf_B 0 4 (m724 13) := by rw [W729 13 (by decide)]; exact B707
                have ek735 : (m724 13).toInt = ((m530 13)).toInt := by rw [W729 13 (by decide)]; exact ek708
                have B736 : sf_B 1 4 (m724 17) := by rw [W729 17 (by decide)]; exact B709
                have ek737 : (m724 17).toInt = ((m530 17)).toInt := by rw [W729 17 (by decide)]; exact ek710
                have B738 : sf_B 0 0 (m724 22) := by rw [W729 22 (by decide)]; exact B711
                have ek739 : (m724 22).toInt = ((m530 22)).toInt := by rw [W729 22 (by decide)]; exact ek712
                have B740 : sf_B 0 99 (m724 21) := by rw [W729 21 (by decide)]; exact B713
                have ek741 : (m724 21).toInt = ((m530 21)).toInt := by rw [W729 21 (by decide)]; exact ek714
                have W742 : rf_W [10, 12, 13, 14, 16, 17, 18, 21, 22] m m724 := W715.trans W729 (by decide)
                show pm_R _ 189 236 [.ref 41, .long a0, pm_no, .int a1, pm_no] [] _ _
                obtain ⟨f743, e744, ct745, bd746⟩ := X730
                refine pm_R_op pm_M189 (pc_q := 237) (st_q := [.int 1]) (pm_q189_2 (Nat.le_of_ble_eq_true rfl)) rfl rfl ?_
                exact pm_R_ret pm_M189 (r := some (.int 1)) (pm_q189_2 (Nat.le_of_ble_eq_true rfl)) rfl (K1 m724 w725 h726 T727 F731 W742 (⟨f743, e744, ct745, fun z => (sf_pos B736 (by decide) z)⟩) (sf_aux39 _ _ _ ek733 R692))
              · have B747 : sf_B 0 98 (m530 21) := sf_ltL (Int32.not_le.mp c698) B685 B694
                have B748 : sf_B 1 99 v693 := sf_ltR (Int32.not_le.mp c698) B685 B694
                refine pm_R_lo pm_M191 (pc_q := 27) rfl rfl rfl ?_
                refine rf_R_get pm_M191 T533 (pc_q := 30) (v := .ref 52) rfl rfl rfl rfl ?_
                refine pm_R_lo pm_M191 (pc_q := 31) rfl rfl rfl ?_
                refine pm_R_iald pm_M191 (pc_q := 32) (v := v693) rfl e695 (Nat.lt_of_lt_of_le (by decide) T533.1) rfl sf_upd_eq rfl ?_
                refine pm_R_br pm_M191 (pc_q := 39) rfl rfl ?_
                refine rf_R_put pm_M191 T533 (pc_q := 42) rfl rfl rfl (by decide) rfl rfl (sf_weak B748 (by decide) (by decide)) rfl rfl (fun h751 m754 em755 T752 F753 => ?_)
                have F756 := F684.trans F753 (by decide)
                have B757 : sf_B 0 600 (m754 10) := by rw [em755]; exact B688
                have ek758 : (m754 10).toInt = ((m530 10)).toInt := by rw [em755]; rfl
                have B759 : sf_B 0 4 (m754 13) := by rw [em755]; exact B689
                have ek760 : (m754 13).toInt = ((m530 13)).toInt := by rw [em755]; rfl
                have B761 : sf_B 1 4 (m754 17) := by rw [em755]; exact B539
                have ek762 : (m754 17).toInt = ((m530 17)).toInt := by rw [em755]; rfl
                have B763 : sf_B 0 0 (m754 22) := by rw [em755]; exact B540
                have ek764 : (m754 22).toInt = ((m530 22)).toInt := by rw [em755]; rfl
                have B765 : sf_B 1 99 (m754 21) := by rw [em755]; exact B748
                have ek766 : (m754 21).toInt = (v693).toInt := by rw [em755]; rfl
                have W767 : rf_W [10, 12, 13, 14, 16, 17, 18, 21, 22] m m754 := by rw [em755]; exact W687.put (by decide)
                refine pm_R_lo pm_M191 (pc_q := 43) rfl rfl rfl ?_
                refine pm_R_ret pm_M191 (r := some (.int 1)) rfl rfl ?_
                show pm_R _ 189 202 [.ref 41, .long a0, pm_no, .int a1, pm_no] [.int 1] _ _
                refine pm_R_br pm_M189 (pc_q := 205) (st_q := []) (pm_q189_1 (Nat.le_of_ble_eq_true rfl)) rfl ?_
                refine pm_R_lo pm_M189 (pc_q := 206) (pm_q189_1 (Nat.le_of_ble_eq_true rfl)) rfl rfl ?_
                refine pm_R_ldc2 pm_M189 (pc_q := 209) (pm_q189_1 (Nat.le_of_ble_eq_true rfl)) rfl rfl ?_
                refine sf_R_lcmp pm_M189 (pc_q := 210) (pm_q189_1 (Nat.le_of_ble_eq_true rfl)) rfl (fun z768 e769 => ?_)
                have B770 : sf_B (-2147483648) (-1) z768 := lf_cmpLt e769 B346 (⟨by decide, by decide⟩ : lf_B 1935767923 1935767923 1935767923) (by decide)
                refine pm_R_ifc pm_M189 (t := 226) (pc_q := 213) (pm_q189_1 (Nat.le_of_ble_eq_true rfl)) rfl rfl (fun c771 => ?_) (fun c771 => absurd (Classical.not_not.mp c771) (sf_neq2 B770 sf_k0 (by decide)))
                have k772 := sf_lneC e769 c771
                refine pm_R_lo pm_M189 (pc_q := 227) (pm_q189_2 (Nat.le_of_ble_eq_true rfl)) rfl rfl ?_
                refine pm_R_op pm_M189 (pc_q := 228) (st_q := [.int 1, .ref 41]) (pm_q189_2 (Nat.le_of_ble_eq_true rfl)) rfl rfl ?_
                refine pm_R_op pm_M189 (pc_q := 229) (st_q := [.int 2, .int 1, .ref 41]) (pm_q189_2 (Nat.le_of_ble_eq_true rfl)) rfl rfl ?_
                refine pm_R_op pm_M189 (pc_q := 230) (st_q := [.int 3, .int 2, .int 1, .ref 41]) (pm_q189_2 (Nat.le_of_ble_eq_true rfl)) rfl rfl ?_
                refine pm_R_op pm_M189 (pc_q := 232) (st_q := [.int 50, .int 3, .int 2, .int 1, .ref 41]) (pm_q189_2 (Nat.le_of_ble_eq_true rfl)) rfl rfl ?_
                refine pm_R_op pm_M189 (pc_q := 233) (st_q := [.int 0, .int 50, .int 3, .int 2, .int 1, .ref 41]) (pm_q189_2 (Nat.le_of_ble_eq_true rfl)) rfl rfl ?_
                refine pm_R_cv pm_M189 (pc_q := 236) (a := 41) (ra := [.int 0, .int 50, .int 3, .int 2, .int 1]) (rest := []) (ls_q := [.ref 41, .int 1, .int 2, .int 3, .int 50, .int 0, pm_no, pm_no]) (pm_q189_2 (Nat.le_of_ble_eq_true rfl)) rfl (Or.inl rfl) pm_M185 T752.2.1 rfl (by decide) (Nat.lt_of_lt_of_le (by decide) T752.1) rfl rfl (Nat.le_of_ble_eq_true rfl) rfl rfl ?_
                have e773 := (F753.cell (by decide) (F534.cell (by decide) (F485.cell (by decide) (F423.cell (by decide) (F405.cell (by decide) (F397.cell (by decide) (F392.cell (by decide) (F387.cell (by decide) (F382.cell (by decide) (F361.cell (by decide) e3))))))))))
                refine rf_c185_d (d := d + 3) T752 (⟨f2, e773, ct4, fun z => (sf_pos B761 (by decide) z)⟩) (fun z => sf_pos B761 (by decide) z) (fun m776 w777 h778 T779 F780 W781 X782 => ?_)
                have F783 := F756.trans F780 (by decide)
                have B784 : sf_B 0 600 (m776 10) := by rw [W781 10 (by decide)]; exact B757
                have ek785 : (m776 10).toInt = ((m530 10)).toInt := by rw [W781 10 (by decide)]; exact ek758
                have B786 : sf_B 0 4 (m776 13) := by rw [W781 13 (by decide)]; exact B759
                have ek787 : (m776 13).toInt = ((m530 13)).toInt := by rw [W781 13 (by decide)]; exact ek760
                have B788 : sf_B 1 4 (m776 17) := by rw [W781 17 (by decide)]; exact B761
                have ek789 : (m776 17).toInt = ((m530 17)).toInt := by rw [W781 17 (by decide)]; exact ek762
                have B790 : sf_B 0 0 (m776 22) := by rw [W781 22 (by decide)]; exact B763
                have ek791 : (m776 22).toInt = ((m530 22)).toInt := by rw [W781 22 (by decide)]; exact ek764
                have B792 : sf_B 1 99 (m776 21) := by rw [W781 21 (by decide)]; exact B765
                have ek793 : (m776 21).toInt = (v693).toInt := by rw [W781 21 (by decide)]; exact ek766
                have W794 : rf_W [10, 12, 13, 14, 16, 17, 18, 21, 22] m m776 := W767.trans W781 (by decide)
                show pm_R _ 189 236 [.ref 41, .long a0, pm_no, .int a1, pm_no] [] _ _
                obtain ⟨f795, e796, ct797, bd798⟩ := X782
                refine pm_R_op pm_M189 (pc_q := 237) (st_q := [.int 1]) (pm_q189_2 (Nat.le_of_ble_eq_true rfl)) rfl rfl ?_
                exact pm_R_ret pm_M189 (r := some (.int 1)) (pm_q189_2 (Nat.le_of_ble_eq_true rfl)) rfl (K1 m776 w777 h778 T779 F783 W794 (⟨f795, e796, ct797, fun z => (sf_pos B788 (by decide) z)⟩) (sf_aux39 _ _ _ ek785 R692))
          · have B799 : sf_B (-1) 4 (m419 21) := sf_ltL (Int32.not_le.mp c481) B480 B476
            refine pm_R_lo pm_M191 (pc_q := 27) rfl rfl rfl ?_
            refine rf_R_get pm_M191 T422 (pc_q := 30) (v := .ref 52) rfl rfl rfl rfl ?_
            refine pm_R_lo pm_M191 (pc_q := 31) rfl rfl rfl ?_
            refine pm_R_iald pm_M191 (pc_q := 32) (v := v475) rfl e477 (Nat.lt_of_lt_of_le (by decide) T422.1) rfl sf_upd_eq rfl ?_
            refine pm_R_br pm_M191 (pc_q := 39) rfl rfl ?_
            refine rf_R_put pm_M191 T422 (pc_q := 42) rfl rfl rfl (by decide) rfl rfl (sf_weak B476 (by decide) (by decide)) rfl rfl (fun h802 m805 em806 T803 F804 => ?_)
            have F807 := F468.trans F804 (by decide)
            have B808 : sf_B 0 600 (m805 10) := by rw [em806]; exact B470
            have ek809 : (m805 10).toInt = ((m419 10)).toInt := by rw [em806]; rfl
            have B810 : sf_B 0 4 (m805 13) := by rw [em806]; exact B471
            have ek811 : (m805 13).toInt = ((m419 13)).toInt := by rw [em806]; rfl
            have B812 : sf_B 0 4 (m805 17) := by rw [em806]; exact (sf_eqT X426 B366)
            have ek813 : (m805 17).toInt = ((m357 17)).toInt := by rw [em806]; exact X426
            have B814 : sf_B 0 1 (m805 22) := by rw [em806]; exact (sf_eqT X427 B371)
            have ek815 : (m805 22).toInt = ((m357 22)).toInt := by rw [em806]; exact X427
            have B816 : sf_B 0 5 (m805 21) := by rw [em806]; exact B476
            have ek817 : (m805 21).toInt = (v475).toInt := by rw [em806]; rfl
            have W818 : rf_W [10, 12, 13, 14, 16, 17, 18, 21, 22] m m805 := by rw [em806]; exact W469.put (by decide)
            refine pm_R_lo pm_M191 (pc_q := 43) rfl rfl rfl ?_
            refine pm_R_ret pm_M191 (r := some (.int 1)) rfl rfl ?_
            show pm_R _ 189 178 [.ref 41, .long a0, pm_no, .int a1, pm_no] [.int 1] _ _
            refine pm_R_br pm_M189 (pc_q := 183) (st_q := []) (pm_q189_1 (Nat.le_of_ble_eq_true rfl)) rfl ?_
            refine pm_R_lo pm_M189 (pc_q := 184) (pm_q189_1 (Nat.le_of_ble_eq_true rfl)) rfl rfl ?_
            refine pm_R_ldc2 pm_M189 (pc_q := 187) (pm_q189_1 (Nat.le_of_ble_eq_true rfl)) rfl rfl ?_
            refine pm_R_op pm_M189 (pc_q := 188) (st_q := [.int z342]) (pm_q189_1 (Nat.le_of_ble_eq_true rfl)) (by show some (Value.int (lg_cmp a0 1819242347) :: _) = _; rw [← e343]) rfl ?_
            refine pm_R_ifc pm_M189 (t := 205) (pc_q := 191) (pm_q189_1 (Nat.le_of_ble_eq_true rfl)) rfl rfl (fun c821 => absurd (sf_pt2 B345 sf_k0) c821) (fun c821 => ?_)
            refine pm_R_lo pm_M189 (pc_q := 192) (pm_q189_1 (Nat.le_of_ble_eq_true rfl)) rfl rfl ?_
            refine pm_R_op pm_M189 (pc_q := 193) (st_q := [.int 2, .ref 41]) (pm_q189_1 (Nat.le_of_ble_eq_true rfl)) rfl rfl ?_
            refine pm_R_lo pm_M189 (pc_q := 194) (pm_q189_1 (Nat.le_of_ble_eq_true rfl)) rfl rfl ?_
            refine rf_R_get pm_M189 T803 (pc_q := 197) (v := .ref 52) (pm_q189_1 (Nat.le_of_ble_eq_true rfl)) rfl rfl rfl ?_
            refine pm_R_op pm_M189 (pc_q := 198) (st_q := [.int 1, .ref 52, .int 2, .ref 41]) (pm_q189_1 (Nat.le_of_ble_eq_true rfl)) rfl rfl ?_
            have e822 := (F804.cell (by decide) e477)
            refine pm_R_iald pm_M189 (pc_q := 199) (v := v475) (pm_q189_1 (Nat.le_of_ble_eq_true rfl)) e822 (Nat.lt_of_lt_of_le (by decide) T803.1) rfl sf_upd_eq rfl ?_
            refine pm_R_cv pm_M189 (pc_q := 202) (a := 41) (ra := [.int v475, .int 2]) (rest := []) (ls_q := [.ref 41, .int 2, .int v475, pm_no]) (pm_q189_1 (Nat.le_of_ble_eq_true rfl)) rfl (Or.inl rfl) pm_M191 T803.2.1 rfl (by decide) (Nat.lt_of_lt_of_le (by decide) T803.1) rfl rfl (Nat.le_of_ble_eq_true rfl) rfl rfl ?_
            refine pm_R_lo pm_M191 (pc_q := 1) rfl rfl rfl ?_
            refine pm_R_lo pm_M191 (pc_q := 2) rfl rfl rfl ?_
            refine pm_R_op pm_M191 (pc_q := 3) (st_q := [.int 5, .int 2, .ref 41]) rfl rfl rfl ?_
            refine pm_R_lo pm_M191 (pc_q := 4) rfl rfl rfl ?_
            refine pm_R_cv pm_M191 (pc_q := 7) (a := 41) (ra := [.int v475, .int 5, .int 2]) (rest := []) (ls_q := [.ref 41, .int 2, .int 5, .int v475]) rfl rfl (Or.inl rfl) pm_M183 T803.2.1 rfl (by decide) (Nat.lt_of_lt_of_le (by decide) T803.1) rfl rfl (Nat.le_of_ble_eq_true rfl) rfl rfl ?_
            refine rf_c183_2_5 (d := d + 0) T803  (fun m827 w828 h829 T830 F831 W832 X833 => ?_) (fun m836 w837 h838 T839 F840 W841 X842 X843 X844 X845 X846 => ?_) (fun m849 w850 h851 T852 F853 W854 X855 X856 X857 B858 B859 => ?_)
            · have F860 := F807.trans F831 (by decide)
              have B861 : sf_B 0 5 (m827 21) := by rw [W832 21 (by decide)]; exact B816
              have ek862 : (m827 21).toInt = (v475).toInt := by rw [W832 21 (by decide)]; exact ek817
              have W863 : rf_W [10, 12, 13, 14, 16, 17, 18, 21, 22] m m827 := W818.trans W832 (by decide)
              have B864 : sf_B 0 600 (m827 10) := T830.2.2.1 10
              have B865 : sf_B 0 4 (m827 13) := T830.2.2.1 13
              have B866 : sf_B 0 4 (m827 17) := T830.2.2.1 17
              have B867 : sf_B 0 1 (m827 22) := T830.2.2.1 22
              show pm_R _ 191 7 [.ref 41, .int 2, .int v475, pm_no] [.int 0] _ _
              have R868 : (m 10).toInt ≤ (m827 10).toInt := (sf_aux76 _ _ _ _ ek809 R474 X833)
              refine pm_R_lo pm_M191 (pc_q := 8) (ls_q := [.ref 41, .int 2, .int v475, .int 0]) (st_q := []) rfl rfl rfl ?_
              refine pm_R_lo pm_M191 (pc_q := 9) rfl rfl rfl ?_
              refine pm_R_lo pm_M191 (pc_q := 10) rfl rfl rfl ?_
              refine pm_R_br pm_M191 (pc_q := 35) (st_q := [.ref 41]) rfl rfl ?_
              refine pm_R_lo pm_M191 (pc_q := 36) rfl rfl rfl ?_
              refine rf_R_get pm_M191 T830 (pc_q := 39) (v := .int (m827 21)) rfl rfl rfl rfl ?_
              refine rf_R_put pm_M191 T830 (pc_q := 42) rfl rfl rfl (by decide) rfl rfl (sf_weak B861 (by decide) (by decide)) rfl rfl (fun h869 m872 em873 T870 F871 => ?_)
              have F874 := F860.trans F871 (by decide)
              have B875 : sf_B 0 600 (m872 10) := by rw [em873]; exact B864
              have ek876 : (m872 10).toInt = ((m827 10)).toInt := by rw [em873]; rfl
              have B877 : sf_B 0 4 (m872 13) := by rw [em873]; exact B865
              have ek878 : (m872 13).toInt = ((m827 13)).toInt := by rw [em873]; rfl
              have B879 : sf_B 0 4 (m872 17) := by rw [em873]; exact B866
              have ek880 : (m872 17).toInt = ((m827 17)).toInt := by rw [em873]; rfl
              have B881 : sf_B 0 1 (m872 22) := by rw [em873]; exact B867
              have ek882 : (m872 22).toInt = ((m827 22)).toInt := by rw [em873]; rfl
              have B883 : sf_B 0 5 (m872 21) := by rw [em873]; exact B861
              have ek884 : (m872 21).toInt = ((m827 21)).toInt := by rw [em873]; rfl
              have W885 : rf_W [10, 12, 13, 14, 16, 17, 18, 21, 22] m m872 := by rw [em873]; exact W863.put (by decide)
              refine pm_R_lo pm_M191 (pc_q := 43) rfl rfl rfl ?_
              refine pm_R_ret pm_M191 (r := some (.int 0)) rfl rfl ?_
              show pm_R _ 189 202 [.ref 41, .long a0, pm_no, .int a1, pm_no] [.int 0] _ _
              refine pm_R_br pm_M189 (pc_q := 224) (st_q := []) (pm_q189_1 (Nat.le_of_ble_eq_true rfl)) rfl ?_
              refine pm_R_op pm_M189 (pc_q := 225) (st_q := [.int 0]) (pm_q189_2 (Nat.le_of_ble_eq_true rfl)) rfl rfl ?_
              exact pm_R_ret pm_M189 (r := some (.int 0)) (pm_q189_2 (Nat.le_of_ble_eq_true rfl)) rfl (K0 m872 w828 h869 T870 F874 W885 (sf_aux39 _ _ _ ek876 R868))
            · have F886 := F807.trans F840 (by decide)
              have B887 : sf_B 0 5 (m836 21) := by rw [W841 21 (by decide)]; exact B816
              have ek888 : (m836 21).toInt = (v475).toInt := by rw [W841 21 (by decide)]; exact ek817
              have W889 : rf_W [10, 12, 13, 14, 16, 17, 18, 21, 22] m m836 := W818.trans W841 (by decide)
              have B890 : sf_B 0 600 (m836 10) := T839.2.2.1 10
              have B891 : sf_B 0 4 (m836 13) := T839.2.2.1 13
              have B892 : sf_B 0 4 (m836 17) := T839.2.2.1 17
              have B893 : sf_B 0 1 (m836 22) := T839.2.2.1 22
              show pm_R _ 191 7 [.ref 41, .int 2, .int v475, pm_no] [.int 1] _ _
              have R894 : (m 10).toInt ≤ (m836 10).toInt := (sf_aux76 _ _ _ _ ek809 R474 X846)
              obtain ⟨v895, B896, e897⟩ := X842 _ e822
              refine pm_R_lo pm_M191 (pc_q := 8) (ls_q := [.ref 41, .int 2, .int v475, .int 1]) (st_q := []) rfl rfl rfl ?_
              refine pm_R_lo pm_M191 (pc_q := 9) rfl rfl rfl ?_
              refine pm_R_lo pm_M191 (pc_q := 10) rfl rfl rfl ?_
              refine pm_R_br pm_M191 (pc_q := 13) (st_q := [.ref 41]) rfl rfl ?_
              refine pm_R_lo pm_M191 (pc_q := 14) rfl rfl rfl ?_
              refine rf_R_get pm_M191 T839 (pc_q := 17) (v := .ref 52) rfl rfl rfl rfl ?_
              refine pm_R_lo pm_M191 (pc_q := 18) rfl rfl rfl ?_
              refine pm_R_iald pm_M191 (pc_q := 19) (v := v895) rfl e897 (Nat.lt_of_lt_of_le (by decide) T839.1) rfl sf_upd_eq rfl ?_
              refine pm_R_lo pm_M191 (pc_q := 20) rfl rfl rfl ?_
              refine rf_R_get pm_M191 T839 (pc_q := 23) (v := .int (m836 21)) rfl rfl rfl rfl ?_
              refine pm_R_icmp pm_M191 (t := 35) (pc_q := 26) rfl rfl rfl (fun c900 => ?_) (fun c900 => ?_)
              · skip
                refine pm_R_lo pm_M191 (pc_q := 36) rfl rfl rfl ?_
                refine rf_R_get pm_M191 T839 (pc_q := 39) (v := .int (m836 21)) rfl rfl rfl rfl ?_
                refine rf_R_put pm_M191 T839 (pc_q := 42) rfl rfl rfl (by decide) rfl rfl (sf_weak B887 (by decide) (by decide)) rfl rfl (fun h901 m904 em905 T902 F903 => ?_)
                have F906 := F886.trans F903 (by decide)
                have B907 : sf_B 0 600 (m904 10) := by rw [em905]; exact B890
                have ek908 : (m904 10).toInt = ((m836 10)).toInt := by rw [em905]; rfl
                have B909 : sf_B 0 4 (m904 13) := by rw [em905]; exact B891
                have ek910 : (m904 13).toInt = ((m836 13)).toInt := by rw [em905]; rfl
                have B911 : sf_B 0 4 (m904 17) := by rw [em905]; exact (sf_eqT X843 B812)
                have ek912 : (m904 17).toInt = ((m805 17)).toInt := by rw [em905]; exact X843
                have B913 : sf_B 0 1 (m904 22) := by rw [em905]; exact (sf_eqT X844 B814)
                have ek914 : (m904 22).toInt = ((m805 22)).toInt := by rw [em905]; exact X844
                have B915 : sf_B 0 5 (m904 21) := by rw [em905]; exact B887
                have ek916 : (m904 21).toInt = ((m836 21)).toInt := by rw [em905]; rfl
                have W917 : rf_W [10, 12, 13, 14, 16, 17, 18, 21, 22] m m904 := by rw [em905]; exact W889.put (by decide)
                refine pm_R_lo pm_M191 (pc_q := 43) rfl rfl rfl ?_
                refine pm_R_ret pm_M191 (r := some (.int 1)) rfl rfl ?_
                show pm_R _ 189 202 [.ref 41, .long a0, pm_no, .int a1, pm_no] [.int 1] _ _
                refine pm_R_br pm_M189 (pc_q := 205) (st_q := []) (pm_q189_1 (Nat.le_of_ble_eq_true rfl)) rfl ?_
                refine pm_R_lo pm_M189 (pc_q := 206) (pm_q189_1 (Nat.le_of_ble_eq_true rfl)) rfl rfl ?_
                refine pm_R_ldc2 pm_M189 (pc_q := 209) (pm_q189_1 (Nat.le_of_ble_eq_true rfl)) rfl rfl ?_
                refine sf_R_lcmp pm_M189 (pc_q := 210) (pm_q189_1 (Nat.le_of_ble_eq_true rfl)) rfl (fun z918 e919 => ?_)
                have B920 : sf_B (-2147483648) (-1) z918 := lf_cmpLt e919 B346 (⟨by decide, by decide⟩ : lf_B 1935767923 1935767923 1935767923) (by decide)
                refine pm_R_ifc pm_M189 (t := 226) (pc_q := 213) (pm_q189_1 (Nat.le_of_ble_eq_true rfl)) rfl rfl (fun c921 => ?_) (fun c921 => absurd (Classical.not_not.mp c921) (sf_neq2 B920 sf_k0 (by decide)))
                have k922 := sf_lneC e919 c921
                refine pm_R_lo pm_M189 (pc_q := 227) (pm_q189_2 (Nat.le_of_ble_eq_true rfl)) rfl rfl ?_
                refine pm_R_op pm_M189 (pc_q := 228) (st_q := [.int 1, .ref 41]) (pm_q189_2 (Nat.le_of_ble_eq_true rfl)) rfl rfl ?_
                refine pm_R_op pm_M189 (pc_q := 229) (st_q := [.int 2, .int 1, .ref 41]) (pm_q189_2 (Nat.le_of_ble_eq_true rfl)) rfl rfl ?_
                refine pm_R_op pm_M189 (pc_q := 230) (st_q := [.int 3, .int 2, .int 1, .ref 41]) (pm_q189_2 (Nat.le_of_ble_eq_true rfl)) rfl rfl ?_
                refine pm_R_op pm_M189 (pc_q := 232) (st_q := [.int 50, .int 3, .int 2, .int 1, .ref 41]) (pm_q189_2 (Nat.le_of_ble_eq_true rfl)) rfl rfl ?_
                refine pm_R_op pm_M189 (pc_q := 233) (st_q := [.int 0, .int 50, .int 3, .int 2, .int 1, .ref 41]) (pm_q189_2 (Nat.le_of_ble_eq_true rfl)) rfl rfl ?_
                refine pm_R_cv pm_M189 (pc_q := 236) (a := 41) (ra := [.int 0, .int 50, .int 3, .int 2, .int 1]) (rest := []) (ls_q := [.ref 41, .int 1, .int 2, .int 3, .int 50, .int 0, pm_no, pm_no]) (pm_q189_2 (Nat.le_of_ble_eq_true rfl)) rfl (Or.inl rfl) pm_M185 T902.2.1 rfl (by decide) (Nat.lt_of_lt_of_le (by decide) T902.1) rfl rfl (Nat.le_of_ble_eq_true rfl) rfl rfl ?_
                have e923 := (F903.cell (by decide) (F840.cell (by decide) (F804.cell (by decide) (F423.cell (by decide) (F405.cell (by decide) (F397.cell (by decide) (F392.cell (by decide) (F387.cell (by decide) (F382.cell (by decide) (F361.cell (by decide) e3))))))))))
                have e924 := (F903.cell (by decide) e897)
                refine rf_c185_d (d := d + 3) T902 (⟨f2, e923, ct4, fun z => (bd5 (sf_aux73 _ _ _ _ ek367 ek813 ek912 z))⟩) (fun _ g eg => by rw [e924] at eg; cases eg; exact ⟨sf_eqL (Eq.trans (sf_upd_nec (k := Int32.toNatClampNeg 2) (j := Int32.toNatClampNeg 0) (by decide)) (Eq.trans (sf_upd_nec (k := Int32.toNatClampNeg 1) (j := Int32.toNatClampNeg 0) (by decide)) sf_upd_eq)) (sf_weak sf_k0 (by decide) (by decide)), sf_eqL (Eq.trans (sf_upd_nec (k := Int32.toNatClampNeg 2) (j := Int32.toNatClampNeg 1) (by decide)) sf_upd_eq) B476, sf_eqL sf_upd_eq (sf_weak B896 (by decide) (by decide))⟩) (fun m927 w928 h929 T930 F931 W932 X933 => ?_)
                have F934 := F906.trans F931 (by decide)
                have B935 : sf_B 0 600 (m927 10) := by rw [W932 10 (by decide)]; exact B907
                have ek936 : (m927 10).toInt = ((m836 10)).toInt := by rw [W932 10 (by decide)]; exact ek908
                have B937 : sf_B 0 4 (m927 13) := by rw [W932 13 (by decide)]; exact B909
                have ek938 : (m927 13).toInt = ((m836 13)).toInt := by rw [W932 13 (by decide)]; exact ek910
                have B939 : sf_B 0 4 (m927 17) := by rw [W932 17 (by decide)]; exact B911
                have ek940 : (m927 17).toInt = ((m805 17)).toInt := by rw [W932 17 (by decide)]; exact ek912
                have B941 : sf_B 0 1 (m927 22) := by rw [W932 22 (by decide)]; exact B913
                have ek942 : (m927 22).toInt = ((m805 22)).toInt := by rw [W932 22 (by decide)]; exact ek914
                have B943 : sf_B 0 5 (m927 21) := by rw [W932 21 (by decide)]; exact B915
                have ek944 : (m927 21).toInt = ((m836 21)).toInt := by rw [W932 21 (by decide)]; exact ek916
                have W945 : rf_W [10, 12, 13, 14, 16, 17, 18, 21, 22] m m927 := W917.trans W932 (by decide)
                show pm_R _ 189 236 [.ref 41, .long a0, pm_no, .int a1, pm_no] [] _ _
                obtain ⟨f946, e947, ct948, bd949⟩ := X933
                refine pm_R_op pm_M189 (pc_q := 237) (st_q := [.int 1]) (pm_q189_2 (Nat.le_of_ble_eq_true rfl)) rfl rfl ?_
                exact pm_R_ret pm_M189 (r := some (.int 1)) (pm_q189_2 (Nat.le_of_ble_eq_true rfl)) rfl (K1 m927 w928 h929 T930 F934 W945 (⟨f946, e947, ct948, fun z => (bd949 z)⟩) (sf_aux39 _ _ _ ek936 R894))
              · have B950 : sf_B 0 4 (m836 21) := sf_ltL (Int32.not_le.mp c900) B887 B896
                have B951 : sf_B 1 5 v895 := sf_ltR (Int32.not_le.mp c900) B887 B896
                refine pm_R_lo pm_M191 (pc_q := 27) rfl rfl rfl ?_
                refine rf_R_get pm_M191 T839 (pc_q := 30) (v := .ref 52) rfl rfl rfl rfl ?_
                refine pm_R_lo pm_M191 (pc_q := 31) rfl rfl rfl ?_
                refine pm_R_iald pm_M191 (pc_q := 32) (v := v895) rfl e897 (Nat.lt_of_lt_of_le (by decide) T839.1) rfl sf_upd_eq rfl ?_
                refine pm_R_br pm_M191 (pc_q := 39) rfl rfl ?_
                refine rf_R_put pm_M191 T839 (pc_q := 42) rfl rfl rfl (by decide) rfl rfl (sf_weak B951 (by decide) (by decide)) rfl rfl (fun h954 m957 em958 T955 F956 => ?_)
                have F959 := F886.trans F956 (by decide)
                have B960 : sf_B 0 600 (m957 10) := by rw [em958]; exact B890
                have ek961 : (m957 10).toInt = ((m836 10)).toInt := by rw [em958]; rfl
                have B962 : sf_B 0 4 (m957 13) := by rw [em958]; exact B891
                have ek963 : (m957 13).toInt = ((m836 13)).toInt := by rw [em958]; rfl
                have B964 : sf_B 0 4 (m957 17) := by rw [em958]; exact (sf_eqT X843 B812)
                have ek965 : (m957 17).toInt = ((m805 17)).toInt := by rw [em958]; exact X843
                have B966 : sf_B 0 1 (m957 22) := by rw [em958]; exact (sf_eqT X844 B814)
                have ek967 : (m957 22).toInt = ((m805 22)).toInt := by rw [em958]; exact X844
                have B968 : sf_B 1 5 (m957 21) := by rw [em958]; exact B951
                have ek969 : (m957 21).toInt = (v895).toInt := by rw [em958]; rfl
                have W970 : rf_W [10, 12, 13, 14, 16, 17, 18, 21, 22] m m957 := by rw [em958]; exact W889.put (by decide)
                refine pm_R_lo pm_M191 (pc_q := 43) rfl rfl rfl ?_
                refine pm_R_ret pm_M191 (r := some (.int 1)) rfl rfl ?_
                show pm_R _ 189 202 [.ref 41, .long a0, pm_no, .int a1, pm_no] [.int 1] _ _
                refine pm_R_br pm_M189 (pc_q := 205) (st_q := []) (pm_q189_1 (Nat.le_of_ble_eq_true rfl)) rfl ?_
                refine pm_R_lo pm_M189 (pc_q := 206) (pm_q189_1 (Nat.le_of_ble_eq_true rfl)) rfl rfl ?_
                refine pm_R_ldc2 pm_M189 (pc_q := 209) (pm_q189_1 (Nat.le_of_ble_eq_true rfl)) rfl rfl ?_
                refine sf_R_lcmp pm_M189 (pc_q := 210) (pm_q189_1 (Nat.le_of_ble_eq_true rfl)) rfl (fun z971 e972 => ?_)
                have B973 : sf_B (-2147483648) (-1) z971 := lf_cmpLt e972 B346 (⟨by decide, by decide⟩ : lf_B 1935767923 1935767923 1935767923) (by decide)
                refine pm_R_ifc pm_M189 (t := 226) (pc_q := 213) (pm_q189_1 (Nat.le_of_ble_eq_true rfl)) rfl rfl (fun c974 => ?_) (fun c974 => absurd (Classical.not_not.mp c974) (sf_neq2 B973 sf_k0 (by decide)))
                have k975 := sf_lneC e972 c974
                refine pm_R_lo pm_M189 (pc_q := 227) (pm_q189_2 (Nat.le_of_ble_eq_true rfl)) rfl rfl ?_
                refine pm_R_op pm_M189 (pc_q := 228) (st_q := [.int 1, .ref 41]) (pm_q189_2 (Nat.le_of_ble_eq_true rfl)) rfl rfl ?_
                refine pm_R_op pm_M189 (pc_q := 229) (st_q := [.int 2, .int 1, .ref 41]) (pm_q189_2 (Nat.le_of_ble_eq_true rfl)) rfl rfl ?_
                refine pm_R_op pm_M189 (pc_q := 230) (st_q := [.int 3, .int 2, .int 1, .ref 41]) (pm_q189_2 (Nat.le_of_ble_eq_true rfl)) rfl rfl ?_
                refine pm_R_op pm_M189 (pc_q := 232) (st_q := [.int 50, .int 3, .int 2, .int 1, .ref 41]) (pm_q189_2 (Nat.le_of_ble_eq_true rfl)) rfl rfl ?_
                refine pm_R_op pm_M189 (pc_q := 233) (st_q := [.int 0, .int 50, .int 3, .int 2, .int 1, .ref 41]) (pm_q189_2 (Nat.le_of_ble_eq_true rfl)) rfl rfl ?_
                refine pm_R_cv pm_M189 (pc_q := 236) (a := 41) (ra := [.int 0, .int 50, .int 3, .int 2, .int 1]) (rest := []) (ls_q := [.ref 41, .int 1, .int 2, .int 3, .int 50, .int 0, pm_no, pm_no]) (pm_q189_2 (Nat.le_of_ble_eq_true rfl)) rfl (Or.inl rfl) pm_M185 T955.2.1 rfl (by decide) (Nat.lt_of_lt_of_le (by decide) T955.1) rfl rfl (Nat.le_of_ble_eq_true rfl) rfl rfl ?_
                have e976 := (F956.cell (by decide) (F840.cell (by decide) (F804.cell (by decide) (F423.cell (by decide) (F405.cell (by decide) (F397.cell (by decide) (F392.cell (by decide) (F387.cell (by decide) (F382.cell (by decide) (F361.cell (by decide) e3))))))))))
                have e977 := (F956.cell (by decide) e897)
                refine rf_c185_d (d := d + 3) T955 (⟨f2, e976, ct4, fun z => (bd5 (sf_aux73 _ _ _ _ ek367 ek813 ek965 z))⟩) (fun _ g eg => by rw [e977] at eg; cases eg; exact ⟨sf_eqL (Eq.trans (sf_upd_nec (k := Int32.toNatClampNeg 2) (j := Int32.toNatClampNeg 0) (by decide)) (Eq.trans (sf_upd_nec (k := Int32.toNatClampNeg 1) (j := Int32.toNatClampNeg 0) (by decide)) sf_upd_eq)) (sf_weak sf_k0 (by decide) (by decide)), sf_eqL (Eq.trans (sf_upd_nec (k := Int32.toNatClampNeg 2) (j := Int32.toNatClampNeg 1) (by decide)) sf_upd_eq) B476, sf_eqL sf_upd_eq (sf_weak B951 (by decide) (by decide))⟩) (fun m980 w981 h982 T983 F984 W985 X986 => ?_)
                have F987 := F959.trans F984 (by decide)
                have B988 : sf_B 0 600 (m980 10) := by rw [W985 10 (by decide)]; exact B960
                have ek989 : (m980 10).toInt = ((m836 10)).toInt := by rw [W985 10 (by decide)]; exact ek961
                have B990 : sf_B 0 4 (m980 13) := by rw [W985 13 (by decide)]; exact B962
                have ek991 : (m980 13).toInt = ((m836 13)).toInt := by rw [W985 13 (by decide)]; exact ek963
                have B992 : sf_B 0 4 (m980 17) := by rw [W985 17 (by decide)]; exact B964
                have ek993 : (m980 17).toInt = ((m805 17)).toInt := by rw [W985 17 (by decide)]; exact ek965
                have B994 : sf_B 0 1 (m980 22) := by rw [W985 22 (by decide)]; exact B966
                have ek995 : (m980 22).toInt = ((m805 22)).toInt := by rw [W985 22 (by decide)]; exact ek967
                have B996 : sf_B 1 5 (m980 21) := by rw [W985 21 (by decide)]; exact B968
                have ek997 : (m980 21).toInt = (v895).toInt := by rw [W985 21 (by decide)]; exact ek969
                have W998 : rf_W [10, 12, 13, 14, 16, 17, 18, 21, 22] m m980 := W970.trans W985 (by decide)
                show pm_R _ 189 236 [.ref 41, .long a0, pm_no, .int a1, pm_no] [] _ _
                obtain ⟨f999, e1000, ct1001, bd1002⟩ := X986
                refine pm_R_op pm_M189 (pc_q := 237) (st_q := [.int 1]) (pm_q189_2 (Nat.le_of_ble_eq_true rfl)) rfl rfl ?_
                exact pm_R_ret pm_M189 (r := some (.int 1)) (pm_q189_2 (Nat.le_of_ble_eq_true rfl)) rfl (K1 m980 w981 h982 T983 F987 W998 (⟨f999, e1000, ct1001, fun z => (bd1002 z)⟩) (sf_aux39 _ _ _ ek989 R894))
            · have F1003 := F807.trans F853 (by decide)
              have B1004 : sf_B 0 5 (m849 21) := by rw [W854 21 (by decide)]; exact B816
              have ek1005 : (m849 21).toInt = (v475).toInt := by rw [W854 21 (by decide)]; exact ek817
              have W1006 : rf_W [10, 12, 13, 14, 16, 17, 18, 21, 22] m m849 := W818.trans W854 (by decide)
              have B1007 : sf_B 0 600 (m849 10) := T852.2.2.1 10
              have B1008 : sf_B 0 4 (m849 13) := T852.2.2.1 13
              have B1009 : sf_B 0 4 (m849 17) := T852.2.2.1 17
              have B1010 : sf_B 0 1 (m849 22) := T852.2.2.1 22
              show pm_R _ 191 7 [.ref 41, .int 2, .int v475, pm_no] [.int 1] _ _
              have R1011 : (m 10).toInt ≤ (m849 10).toInt := (sf_aux76 _ _ _ _ ek809 R474 X857)
              obtain ⟨v1012, B1013, e1014⟩ := X855 _ e822
              refine pm_R_lo pm_M191 (pc_q := 8) (ls_q := [.ref 41, .int 2, .int v475, .int 1]) (st_q := []) rfl rfl rfl ?_
              refine pm_R_lo pm_M191 (pc_q := 9) rfl rfl rfl ?_
              refine pm_R_lo pm_M191 (pc_q := 10) rfl rfl rfl ?_
              refine pm_R_br pm_M191 (pc_q := 13) (st_q := [.ref 41]) rfl rfl ?_
              refine pm_R_lo pm_M191 (pc_q := 14) rfl rfl rfl ?_
              refine rf_R_get pm_M191 T852 (pc_q := 17) (v := .ref 52) rfl rfl rfl rfl ?_
              refine pm_R_lo pm_M191 (pc_q := 18) rfl rfl rfl ?_
              refine pm_R_iald pm_M191 (pc_q := 19) (v := v1012) rfl e1014 (Nat.lt_of_lt_of_le (by decide) T852.1) rfl sf_upd_eq rfl ?_
              refine pm_R_lo pm_M191 (pc_q := 20) rfl rfl rfl ?_
              refine rf_R_get pm_M191 T852 (pc_q := 23) (v := .int (m849 21)) rfl rfl rfl rfl ?_
              refine pm_R_icmp pm_M191 (t := 35) (pc_q := 26) rfl rfl rfl (fun c1017 => ?_) (fun c1017 => ?_)
              · have B1018 : sf_B 0 5 v1012 := sf_leL c1017 B1013 B1004
                refine pm_R_lo pm_M191 (pc_q := 36) rfl rfl rfl ?_
                refine rf_R_get pm_M191 T852 (pc_q := 39) (v := .int (m849 21)) rfl rfl rfl rfl ?_
                refine rf_R_put pm_M191 T852 (pc_q := 42) rfl rfl rfl (by decide) rfl rfl (sf_weak B1004 (by decide) (by decide)) rfl rfl (fun h1019 m1022 em1023 T1020 F1021 => ?_)
                have F1024 := F1003.trans F1021 (by decide)
                have B1025 : sf_B 0 600 (m1022 10) := by rw [em1023]; exact B1007
                have ek1026 : (m1022 10).toInt = ((m849 10)).toInt := by rw [em1023]; rfl
                have B1027 : sf_B 0 4 (m1022 13) := by rw [em1023]; exact B1008
                have ek1028 : (m1022 13).toInt = ((m849 13)).toInt := by rw [em1023]; rfl
                have B1029 : sf_B 1 4 (m1022 17) := by rw [em1023]; exact B858
                have ek1030 : (m1022 17).toInt = ((m849 17)).toInt := by rw [em1023]; rfl
                have B1031 : sf_B 0 0 (m1022 22) := by rw [em1023]; exact B859
                have ek1032 : (m1022 22).toInt = ((m849 22)).toInt := by rw [em1023]; rfl
                have B1033 : sf_B 0 5 (m1022 21) := by rw [em1023]; exact B1004
                have ek1034 : (m1022 21).toInt = ((m849 21)).toInt := by rw [em1023]; rfl
                have W1035 : rf_W [10, 12, 13, 14, 16, 17, 18, 21, 22] m m1022 := by rw [em1023]; exact W1006.put (by decide)
                refine pm_R_lo pm_M191 (pc_q := 43) rfl rfl rfl ?_
                refine pm_R_ret pm_M191 (r := some (.int 1)) rfl rfl ?_
                show pm_R _ 189 202 [.ref 41, .long a0, pm_no, .int a1, pm_no] [.int 1] _ _
                refine pm_R_br pm_M189 (pc_q := 205) (st_q := []) (pm_q189_1 (Nat.le_of_ble_eq_true rfl)) rfl ?_
                refine pm_R_lo pm_M189 (pc_q := 206) (pm_q189_1 (Nat.le_of_ble_eq_true rfl)) rfl rfl ?_
                refine pm_R_ldc2 pm_M189 (pc_q := 209) (pm_q189_1 (Nat.le_of_ble_eq_true rfl)) rfl rfl ?_
                refine sf_R_lcmp pm_M189 (pc_q := 210) (pm_q189_1 (Nat.le_of_ble_eq_true rfl)) rfl (fun z1036 e1037 => ?_)
                have B1038 : sf_B (-2147483648) (-1) z1036 := lf_cmpLt e1037 B346 (⟨by decide, by decide⟩ : lf_B 1935767923 1935767923 1935767923) (by decide)
                refine pm_R_ifc pm_M189 (t := 226) (pc_q := 213) (pm_q189_1 (Nat.le_of_ble_eq_true rfl)) rfl rfl (fun c1039 => ?_) (fun c1039 => absurd (Classical.not_not.mp c1039) (sf_neq2 B1038 sf_k0 (by decide)))
                have k1040 := sf_lneC e1037 c1039
                refine pm_R_lo pm_M189 (pc_q := 227) (pm_q189_2 (Nat.le_of_ble_eq_true rfl)) rfl rfl ?_
                refine pm_R_op pm_M189 (pc_q := 228) (st_q := [.int 1, .ref 41]) (pm_q189_2 (Nat.le_of_ble_eq_true rfl)) rfl rfl ?_
                refine pm_R_op pm_M189 (pc_q := 229) (st_q := [.int 2, .int 1, .ref 41]) (pm_q189_2 (Nat.le_of_ble_eq_true rfl)) rfl rfl ?_
                refine pm_R_op pm_M189 (pc_q := 230) (st_q := [.int 3, .int 2, .int 1, .ref 41]) (pm_q189_2 (Nat.le_of_ble_eq_true rfl)) rfl rfl ?_
                refine pm_R_op pm_M189 (pc_q := 232) (st_q := [.int 50, .int 3, .int 2, .int 1, .ref 41]) (pm_q189_2 (Nat.le_of_ble_eq_true rfl)) rfl rfl ?_
                refine pm_R_op pm_M189 (pc_q := 233) (st_q := [.int 0, .int 50, .int 3, .int 2, .int 1, .ref 41]) (pm_q189_2 (Nat.le_of_ble_eq_true rfl)) rfl rfl ?_
                refine pm_R_cv pm_M189 (pc_q := 236) (a := 41) (ra := [.int 0, .int 50, .int 3, .int 2, .int 1]) (rest := []) (ls_q := [.ref 41, .int 1, .int 2, .int 3, .int 50, .int 0, pm_no, pm_no]) (pm_q189_2 (Nat.le_of_ble_eq_true rfl)) rfl (Or.inl rfl) pm_M185 T1020.2.1 rfl (by decide) (Nat.lt_of_lt_of_le (by decide) T1020.1) rfl rfl (Nat.le_of_ble_eq_true rfl) rfl rfl ?_
                have e1041 := (F1021.cell (by decide) (F853.cell (by decide) (F804.cell (by decide) (F423.cell (by decide) (F405.cell (by decide) (F397.cell (by decide) (F392.cell (by decide) (F387.cell (by decide) (F382.cell (by decide) (F361.cell (by decide) e3))))))))))
                refine rf_c185_d (d := d + 3) T1020 (⟨f2, e1041, ct4, fun z => (sf_pos B1029 (by decide) z)⟩) (fun z => sf_pos B1029 (by decide) z) (fun m1044 w1045 h1046 T1047 F1048 W1049 X1050 => ?_)
                have F1051 := F1024.trans F1048 (by decide)
                have B1052 : sf_B 0 600 (m1044 10) := by rw [W1049 10 (by decide)]; exact B1025
                have ek1053 : (m1044 10).toInt = ((m849 10)).toInt := by rw [W1049 10 (by decide)]; exact ek1026
                have B1054 : sf_B 0 4 (m1044 13) := by rw [W1049 13 (by decide)]; exact B1027
                have ek1055 : (m1044 13).toInt = ((m849 13)).toInt := by rw [W1049 13 (by decide)]; exact ek1028
                have B1056 : sf_B 1 4 (m1044 17) := by rw [W1049 17 (by decide)]; exact B1029
                have ek1057 : (m1044 17).toInt = ((m849 17)).toInt := by rw [W1049 17 (by decide)]; exact ek1030
                have B1058 : sf_B 0 0 (m1044 22) := by rw [W1049 22 (by decide)]; exact B1031
                have ek1059 : (m1044 22).toInt = ((m849 22)).toInt := by rw [W1049 22 (by decide)]; exact ek1032
                have B1060 : sf_B 0 5 (m1044 21) := by rw [W1049 21 (by decide)]; exact B1033
                have ek1061 : (m1044 21).toInt = ((m849 21)).toInt := by rw [W1049 21 (by decide)]; exact ek1034
                have W1062 : rf_W [10, 12, 13, 14, 16, 17, 18, 21, 22] m m1044 := W1035.trans W1049 (by decide)
                show pm_R _ 189 236 [.ref 41, .long a0, pm_no, .int a1, pm_no] [] _ _
                obtain ⟨f1063, e1064, ct1065, bd1066⟩ := X1050
                refine pm_R_op pm_M189 (pc_q := 237) (st_q := [.int 1]) (pm_q189_2 (Nat.le_of_ble_eq_true rfl)) rfl rfl ?_
                exact pm_R_ret pm_M189 (r := some (.int 1)) (pm_q189_2 (Nat.le_of_ble_eq_true rfl)) rfl (K1 m1044 w1045 h1046 T1047 F1051 W1062 (⟨f1063, e1064, ct1065, fun z => (sf_pos B1056 (by decide) z)⟩) (sf_aux39 _ _ _ ek1053 R1011))
              · have B1067 : sf_B 1 99 v1012 := sf_ltR (Int32.not_le.mp c1017) B1004 B1013
                refine pm_R_lo pm_M191 (pc_q := 27) rfl rfl rfl ?_
                refine rf_R_get pm_M191 T852 (pc_q := 30) (v := .ref 52) rfl rfl rfl rfl ?_
                refine pm_R_lo pm_M191 (pc_q := 31) rfl rfl rfl ?_
                refine pm_R_iald pm_M191 (pc_q := 32) (v := v1012) rfl e1014 (Nat.lt_of_lt_of_le (by decide) T852.1) rfl sf_upd_eq rfl ?_
                refine pm_R_br pm_M191 (pc_q := 39) rfl rfl ?_
                refine rf_R_put pm_M191 T852 (pc_q := 42) rfl rfl rfl (by decide) rfl rfl (sf_weak B1067 (by decide) (by decide)) rfl rfl (fun h1070 m1073 em1074 T1071 F1072 => ?_)
                have F1075 := F1003.trans F1072 (by decide)
                have B1076 : sf_B 0 600 (m1073 10) := by rw [em1074]; exact B1007
                have ek1077 : (m1073 10).toInt = ((m849 10)).toInt := by rw [em1074]; rfl
                have B1078 : sf_B 0 4 (m1073 13) := by rw [em1074]; exact B1008
                have ek1079 : (m1073 13).toInt = ((m849 13)).toInt := by rw [em1074]; rfl
                have B1080 : sf_B 1 4 (m1073 17) := by rw [em1074]; exact B858
                have ek1081 : (m1073 17).toInt = ((m849 17)).toInt := by rw [em1074]; rfl
                have B1082 : sf_B 0 0 (m1073 22) := by rw [em1074]; exact B859
                have ek1083 : (m1073 22).toInt = ((m849 22)).toInt := by rw [em1074]; rfl
                have B1084 : sf_B 1 99 (m1073 21) := by rw [em1074]; exact B1067
                have ek1085 : (m1073 21).toInt = (v1012).toInt := by rw [em1074]; rfl
                have W1086 : rf_W [10, 12, 13, 14, 16, 17, 18, 21, 22] m m1073 := by rw [em1074]; exact W1006.put (by decide)
                refine pm_R_lo pm_M191 (pc_q := 43) rfl rfl rfl ?_
                refine pm_R_ret pm_M191 (r := some (.int 1)) rfl rfl ?_
                show pm_R _ 189 202 [.ref 41, .long a0, pm_no, .int a1, pm_no] [.int 1] _ _
                refine pm_R_br pm_M189 (pc_q := 205) (st_q := []) (pm_q189_1 (Nat.le_of_ble_eq_true rfl)) rfl ?_
                refine pm_R_lo pm_M189 (pc_q := 206) (pm_q189_1 (Nat.le_of_ble_eq_true rfl)) rfl rfl ?_
                refine pm_R_ldc2 pm_M189 (pc_q := 209) (pm_q189_1 (Nat.le_of_ble_eq_true rfl)) rfl rfl ?_
                refine sf_R_lcmp pm_M189 (pc_q := 210) (pm_q189_1 (Nat.le_of_ble_eq_true rfl)) rfl (fun z1087 e1088 => ?_)
                have B1089 : sf_B (-2147483648) (-1) z1087 := lf_cmpLt e1088 B346 (⟨by decide, by decide⟩ : lf_B 1935767923 1935767923 1935767923) (by decide)
                refine pm_R_ifc pm_M189 (t := 226) (pc_q := 213) (pm_q189_1 (Nat.le_of_ble_eq_true rfl)) rfl rfl (fun c1090 => ?_) (fun c1090 => absurd (Classical.not_not.mp c1090) (sf_neq2 B1089 sf_k0 (by decide)))
                have k1091 := sf_lneC e1088 c1090
                refine pm_R_lo pm_M189 (pc_q := 227) (pm_q189_2 (Nat.le_of_ble_eq_true rfl)) rfl rfl ?_
                refine pm_R_op pm_M189 (pc_q := 228) (st_q := [.int 1, .ref 41]) (pm_q189_2 (Nat.le_of_ble_eq_true rfl)) rfl rfl ?_
                refine pm_R_op pm_M189 (pc_q := 229) (st_q := [.int 2, .int 1, .ref 41]) (pm_q189_2 (Nat.le_of_ble_eq_true rfl)) rfl rfl ?_
                refine pm_R_op pm_M189 (pc_q := 230) (st_q := [.int 3, .int 2, .int 1, .ref 41]) (pm_q189_2 (Nat.le_of_ble_eq_true rfl)) rfl rfl ?_
                refine pm_R_op pm_M189 (pc_q := 232) (st_q := [.int 50, .int 3, .int 2, .int 1, .ref 41]) (pm_q189_2 (Nat.le_of_ble_eq_true rfl)) rfl rfl ?_
                refine pm_R_op pm_M189 (pc_q := 233) (st_q := [.int 0, .int 50, .int 3, .int 2, .int 1, .ref 41]) (pm_q189_2 (Nat.le_of_ble_eq_true rfl)) rfl rfl ?_
                refine pm_R_cv pm_M189 (pc_q := 236) (a := 41) (ra := [.int 0, .int 50, .int 3, .int 2, .int 1]) (rest := []) (ls_q := [.ref 41, .int 1, .int 2, .int 3, .int 50, .int 0, pm_no, pm_no]) (pm_q189_2 (Nat.le_of_ble_eq_true rfl)) rfl (Or.inl rfl) pm_M185 T1071.2.1 rfl (by decide) (Nat.lt_of_lt_of_le (by decide) T1071.1) rfl rfl (Nat.le_of_ble_eq_true rfl) rfl rfl ?_
                have e1092 := (F1072.cell (by decide) (F853.cell (by decide) (F804.cell (by decide) (F423.cell (by decide) (F405.cell (by decide) (F397.cell (by decide) (F392.cell (by decide) (F387.cell (by decide) (F382.cell (by decide) (F361.cell (by decide) e3))))))))))
                refine rf_c185_d (d := d + 3) T1071 (⟨f2, e1092, ct4, fun z => (sf_pos B1080 (by decide) z)⟩) (fun z => sf_pos B1080 (by decide) z) (fun m1095 w1096 h1097 T1098 F1099 W1100 X1101 => ?_)
                have F1102 := F1075.trans F1099 (by decide)
                have B1103 : sf_B 0 600 (m1095 10) := by rw [W1100 10 (by decide)]; exact B1076
                have ek1104 : (m1095 10).toInt = ((m849 10)).toInt := by rw [W1100 10 (by decide)]; exact ek1077
                have B1105 : sf_B 0 4 (m1095 13) := by rw [W1100 13 (by decide)]; exact B1078
                have ek1106 : (m1095 13).toInt = ((m849 13)).toInt := by rw [W1100 13 (by decide)]; exact ek1079
                have B1107 : sf_B 1 4 (m1095 17) := by rw [W1100 17 (by decide)]; exact B1080
                have ek1108 : (m1095 17).toInt = ((m849 17)).toInt := by rw [W1100 17 (by decide)]; exact ek1081
                have B1109 : sf_B 0 0 (m1095 22) := by rw [W1100 22 (by decide)]; exact B1082
                have ek1110 : (m1095 22).toInt = ((m849 22)).toInt := by rw [W1100 22 (by decide)]; exact ek1083
                have B1111 : sf_B 1 99 (m1095 21) := by rw [W1100 21 (by decide)]; exact B1084
                have ek1112 : (m1095 21).toInt = (v1012).toInt := by rw [W1100 21 (by decide)]; exact ek1085
                have W1113 : rf_W [10, 12, 13, 14, 16, 17, 18, 21, 22] m m1095 := W1086.trans W1100 (by decide)
                show pm_R _ 189 236 [.ref 41, .long a0, pm_no, .int a1, pm_no] [] _ _
                obtain ⟨f1114, e1115, ct1116, bd1117⟩ := X1101
                refine pm_R_op pm_M189 (pc_q := 237) (st_q := [.int 1]) (pm_q189_2 (Nat.le_of_ble_eq_true rfl)) rfl rfl ?_
                exact pm_R_ret pm_M189 (r := some (.int 1)) (pm_q189_2 (Nat.le_of_ble_eq_true rfl)) rfl (K1 m1095 w1096 h1097 T1098 F1102 W1113 (⟨f1114, e1115, ct1116, fun z => (sf_pos B1107 (by decide) z)⟩) (sf_aux39 _ _ _ ek1104 R1011))
        · have F1118 := F407.trans F436 (by decide)
          have W1119 : rf_W [10, 12, 13, 14, 16, 17, 18, 21, 22] m m432 := W368.trans W437 (by decide)
          have B1120 : sf_B 0 600 (m432 10) := T435.2.2.1 10
          have B1121 : sf_B 0 4 (m432 13) := T435.2.2.1 13
          have B1122 : sf_B 0 4 (m432 17) := T435.2.2.1 17
          have B1123 : sf_B 0 1 (m432 22) := T435.2.2.1 22
          show pm_R _ 191 7 [.ref 41, .int 1, .int (-1), pm_no] [.int 1] _ _
          have R1124 : (m 10).toInt ≤ (m432 10).toInt := (sf_aux70 _ _ _ R372 X440)
          obtain ⟨v1125, B1126, e1127⟩ := X438 _ e406
          refine pm_R_lo pm_M191 (pc_q := 8) (ls_q := [.ref 41, .int 1, .int (-1), .int 1]) (st_q := []) rfl rfl rfl ?_
          refine pm_R_lo pm_M191 (pc_q := 9) rfl rfl rfl ?_
          refine pm_R_lo pm_M191 (pc_q := 10) rfl rfl rfl ?_
          refine pm_R_br pm_M191 (pc_q := 13) (st_q := [.ref 41]) rfl rfl ?_
          refine pm_R_lo pm_M191 (pc_q := 14) rfl rfl rfl ?_
          refine rf_R_get pm_M191 T435 (pc_q := 17) (v := .ref 52) rfl rfl rfl rfl ?_
          refine pm_R_lo pm_M191 (pc_q := 18) rfl rfl rfl ?_
          refine pm_R_iald pm_M191 (pc_q := 19) (v := v1125) rfl e1127 (Nat.lt_of_lt_of_le (by decide) T435.1) rfl sf_upd_eq rfl ?_
          refine pm_R_lo pm_M191 (pc_q := 20) rfl rfl rfl ?_
          have B1130 : sf_B (-1) 99 (m432 21) := T435.2.2.1 21
          refine rf_R_get pm_M191 T435 (pc_q := 23) (v := .int (m432 21)) rfl rfl rfl rfl ?_
          refine pm_R_icmp pm_M191 (t := 35) (pc_q := 26) rfl rfl rfl (fun c1131 => ?_) (fun c1131 => ?_)
          · have B1132 : sf_B 0 99 (m432 21) := sf_leR c1131 B1126 B1130
            refine pm_R_lo pm_M191 (pc_q := 36) rfl rfl rfl ?_
            refine rf_R_get pm_M191 T435 (pc_q := 39) (v := .int (m432 21)) rfl rfl rfl rfl ?_
            refine rf_R_put pm_M191 T435 (pc_q := 42) rfl rfl rfl (by decide) rfl rfl (sf_weak B1132 (by decide) (by decide)) rfl rfl (fun h1133 m1136 em1137 T1134 F1135 => ?_)
            have F1138 := F1118.trans F1135 (by decide)
            have B1139 : sf_B 0 600 (m1136 10) := by rw [em1137]; exact B1120
            have ek1140 : (m1136 10).toInt = ((m432 10)).toInt := by rw [em1137]; rfl
            have B1141 : sf_B 0 4 (m1136 13) := by rw [em1137]; exact B1121
            have ek1142 : (m1136 13).toInt = ((m432 13)).toInt := by rw [em1137]; rfl
            have B1143 : sf_B 1 4 (m1136 17) := by rw [em1137]; exact B441
            have ek1144 : (m1136 17).toInt = ((m432 17)).toInt := by rw [em1137]; rfl
            have B1145 : sf_B 0 0 (m1136 22) := by rw [em1137]; exact B442
            have ek1146 : (m1136 22).toInt = ((m432 22)).toInt := by rw [em1137]; rfl
            have B1147 : sf_B 0 99 (m1136 21) := by rw [em1137]; exact B1132
            have ek1148 : (m1136 21).toInt = ((m432 21)).toInt := by rw [em1137]; rfl
            have W1149 : rf_W [10, 12, 13, 14, 16, 17, 18, 21, 22] m m1136 := by rw [em1137]; exact W1119.put (by decide)
            refine pm_R_lo pm_M191 (pc_q := 43) rfl rfl rfl ?_
            refine pm_R_ret pm_M191 (r := some (.int 1)) rfl rfl ?_
            show pm_R _ 189 178 [.ref 41, .long a0, pm_no, .int a1, pm_no] [.int 1] _ _
            refine pm_R_br pm_M189 (pc_q := 183) (st_q := []) (pm_q189_1 (Nat.le_of_ble_eq_true rfl)) rfl ?_
            refine pm_R_lo pm_M189 (pc_q := 184) (pm_q189_1 (Nat.le_of_ble_eq_true rfl)) rfl rfl ?_
            refine pm_R_ldc2 pm_M189 (pc_q := 187) (pm_q189_1 (Nat.le_of_ble_eq_true rfl)) rfl rfl ?_
            refine pm_R_op pm_M189 (pc_q := 188) (st_q := [.int z342]) (pm_q189_1 (Nat.le_of_ble_eq_true rfl)) (by show some (Value.int (lg_cmp a0 1819242347) :: _) = _; rw [← e343]) rfl ?_
            refine pm_R_ifc pm_M189 (t := 205) (pc_q := 191) (pm_q189_1 (Nat.le_of_ble_eq_true rfl)) rfl rfl (fun c1152 => absurd (sf_pt2 B345 sf_k0) c1152) (fun c1152 => ?_)
            refine pm_R_lo pm_M189 (pc_q := 192) (pm_q189_1 (Nat.le_of_ble_eq_true rfl)) rfl rfl ?_
            refine pm_R_op pm_M189 (pc_q := 193) (st_q := [.int 2, .ref 41]) (pm_q189_1 (Nat.le_of_ble_eq_true rfl)) rfl rfl ?_
            refine pm_R_lo pm_M189 (pc_q := 194) (pm_q189_1 (Nat.le_of_ble_eq_true rfl)) rfl rfl ?_
            refine rf_R_get pm_M189 T1134 (pc_q := 197) (v := .ref 52) (pm_q189_1 (Nat.le_of_ble_eq_true rfl)) rfl rfl rfl ?_
            refine pm_R_op pm_M189 (pc_q := 198) (st_q := [.int 1, .ref 52, .int 2, .ref 41]) (pm_q189_1 (Nat.le_of_ble_eq_true rfl)) rfl rfl ?_
            have e1153 := (F1135.cell (by decide) e1127)
            refine pm_R_iald pm_M189 (pc_q := 199) (v := v1125) (pm_q189_1 (Nat.le_of_ble_eq_true rfl)) e1153 (Nat.lt_of_lt_of_le (by decide) T1134.1) rfl sf_upd_eq rfl ?_
            refine pm_R_cv pm_M189 (pc_q := 202) (a := 41) (ra := [.int v1125, .int 2]) (rest := []) (ls_q := [.ref 41, .int 2, .int v1125, pm_no]) (pm_q189_1 (Nat.le_of_ble_eq_true rfl)) rfl (Or.inl rfl) pm_M191 T1134.2.1 rfl (by decide) (Nat.lt_of_lt_of_le (by decide) T1134.1) rfl rfl (Nat.le_of_ble_eq_true rfl) rfl rfl ?_
            refine pm_R_lo pm_M191 (pc_q := 1) rfl rfl rfl ?_
            refine pm_R_lo pm_M191 (pc_q := 2) rfl rfl rfl ?_
            refine pm_R_op pm_M191 (pc_q := 3) (st_q := [.int 5, .int 2, .ref 41]) rfl rfl rfl ?_
            refine pm_R_lo pm_M191 (pc_q := 4) rfl rfl rfl ?_
            refine pm_R_cv pm_M191 (pc_q := 7) (a := 41) (ra := [.int v1125, .int 5, .int 2]) (rest := []) (ls_q := [.ref 41, .int 2, .int 5, .int v1125]) rfl rfl (Or.inl rfl) pm_M183 T1134.2.1 rfl (by decide) (Nat.lt_of_lt_of_le (by decide) T1134.1) rfl rfl (Nat.le_of_ble_eq_true rfl) rfl rfl ?_
            refine rf_c183_2_5 (d := d + 0) T1134  (fun m1158 w1159 h1160 T1161 F1162 W1163 X1164 => ?_) (fun m1167 w1168 h1169 T1170 F1171 W1172 X1173 X1174 X1175 X1176 X1177 => ?_) (fun m1180 w1181 h1182 T1183 F1184 W1185 X1186 X1187 X1188 B1189 B1190 => ?_)
            · have F1191 := F1138.trans F1162 (by decide)
              have B1192 : sf_B 0 99 (m1158 21) := by rw [W1163 21 (by decide)]; exact B1147
              have ek1193 : (m1158 21).toInt = ((m432 21)).toInt := by rw [W1163 21 (by decide)]; exact ek1148
              have W1194 : rf_W [10, 12, 13, 14, 16, 17, 18, 21, 22] m m1158 := W1149.trans W1163 (by decide)
              have B1195 : sf_B 0 600 (m1158 10) := T1161.2.2.1 10
              have B1196 : sf_B 0 4 (m1158 13) := T1161.2.2.1 13
              have B1197 : sf_B 0 4 (m1158 17) := T1161.2.2.1 17
              have B1198 : sf_B 0 1 (m1158 22) := T1161.2.2.1 22
              show pm_R _ 191 7 [.ref 41, .int 2, .int v1125, pm_no] [.int 0] _ _
              have R1199 : (m 10).toInt ≤ (m1158 10).toInt := (sf_aux76 _ _ _ _ ek1140 R1124 X1164)
              refine pm_R_lo pm_M191 (pc_q := 8) (ls_q := [.ref 41, .int 2, .int v1125, .int 0]) (st_q := []) rfl rfl rfl ?_
              refine pm_R_lo pm_M191 (pc_q := 9) rfl rfl rfl ?_
              refine pm_R_lo pm_M191 (pc_q := 10) rfl rfl rfl ?_
              refine pm_R_br pm_M191 (pc_q := 35) (st_q := [.ref 41]) rfl rfl ?_
              refine pm_R_lo pm_M191 (pc_q := 36) rfl rfl rfl ?_
              refine rf_R_get pm_M191 T1161 (pc_q := 39) (v := .int (m1158 21)) rfl rfl rfl rfl ?_
              refine rf_R_put pm_M191 T1161 (pc_q := 42) rfl rfl rfl (by decide) rfl rfl (sf_weak B1192 (by decide) (by decide)) rfl rfl (fun h1200 m1203 em1204 T1201 F1202 => ?_)
              have F1205 := F1191.trans F1202 (by decide)
              have B1206 : sf_B 0 600 (m1203 10) := by rw [em1204]; exact B1195
              have ek1207 : (m1203 10).toInt = ((m1158 10)).toInt := by rw [em1204]; rfl
              have B1208 : sf_B 0 4 (m1203 13) := by rw [em1204]; exact B1196
              have ek1209 : (m1203 13).toInt = ((m1158 13)).toInt := by rw [em1204]; rfl
              have B1210 : sf_B 0 4 (m1203 17) := by rw [em1204]; exact B1197
              have ek1211 : (m1203 17).toInt = ((m1158 17)).toInt := by rw [em1204]; rfl
              have B1212 : sf_B 0 1 (m1203 22) := by rw [em1204]; exact B1198
              have ek1213 : (m1203 22).toInt = ((m1158 22)).toInt := by rw [em1204]; rfl
              have B1214 : sf_B 0 99 (m1203 21) := by rw [em1204]; exact B1192
              have ek1215 : (m1203 21).toInt = ((m1158 21)).toInt := by rw [em1204]; rfl
              have W1216 : rf_W [10, 12, 13, 14, 16, 17, 18, 21, 22] m m1203 := by rw [em1204]; exact W1194.put (by decide)
              refine pm_R_lo pm_M191 (pc_q := 43) rfl rfl rfl ?_
              refine pm_R_ret pm_M191 (r := some (.int 0)) rfl rfl ?_
              show pm_R _ 189 202 [.ref 41, .long a0, pm_no, .int a1, pm_no] [.int 0] _ _
              refine pm_R_br pm_M189 (pc_q := 224) (st_q := []) (pm_q189_1 (Nat.le_of_ble_eq_true rfl)) rfl ?_
              refine pm_R_op pm_M189 (pc_q := 225) (st_q := [.int 0]) (pm_q189_2 (Nat.le_of_ble_eq_true rfl)) rfl rfl ?_
              exact pm_R_ret pm_M189 (r := some (.int 0)) (pm_q189_2 (Nat.le_of_ble_eq_true rfl)) rfl (K0 m1203 w1159 h1200 T1201 F1205 W1216 (sf_aux39 _ _ _ ek1207 R1199))
            · have F1217 := F1138.trans F1171 (by decide)
              have B1218 : sf_B 0 99 (m1167 21) := by rw [W1172 21 (by decide)]; exact B1147
              have ek1219 : (m1167 21).toInt = ((m432 21)).toInt := by rw [W1172 21 (by decide)]; exact ek1148
              have W1220 : rf_W [10, 12, 13, 14, 16, 17, 18, 21, 22] m m1167 := W1149.trans W1172 (by decide)
              have B1221 : sf_B 0 600 (m1167 10) := T1170.2.2.1 10
              have B1222 : sf_B 0 4 (m1167 13) := T1170.2.2.1 13
              have B1223 : sf_B 0 4 (m1167 17) := T1170.2.2.1 17
              have B1224 : sf_B 0 1 (m1167 22) := T1170.2.2.1 22
              show pm_R _ 191 7 [.ref 41, .int 2, .int v1125, pm_no] [.int 1] _ _
              have R1225 : (m 10).toInt ≤ (m1167 10).toInt := (sf_aux76 _ _ _ _ ek1140 R1124 X1177)
              obtain ⟨v1226, B1227, e1228⟩ := X1173 _ e1153
              refine pm_R_lo pm_M191 (pc_q := 8) (ls_q := [.ref 41, .int 2, .int v1125, .int 1]) (st_q := []) rfl rfl rfl ?_
              refine pm_R_lo pm_M191 (pc_q := 9) rfl rfl rfl ?_
              refine pm_R_lo pm_M191 (pc_q := 10) rfl rfl rfl ?_
              refine pm_R_br pm_M191 (pc_q := 13) (st_q := [.ref 41]) rfl rfl ?_
              refine pm_R_lo pm_M191 (pc_q := 14) rfl rfl rfl ?_
              refine rf_R_get pm_M191 T1170 (pc_q := 17) (v := .ref 52) rfl rfl rfl rfl ?_
              refine pm_R_lo pm_M191 (pc_q := 18) rfl rfl rfl ?_
              refine pm_R_iald pm_M191 (pc_q := 19) (v := v1226) rfl e1228 (Nat.lt_of_lt_of_le (by decide) T1170.1) rfl sf_upd_eq rfl ?_
              refine pm_R_lo pm_M191 (pc_q := 20) rfl rfl rfl ?_
              refine rf_R_get pm_M191 T1170 (pc_q := 23) (v := .int (m1167 21)) rfl rfl rfl rfl ?_
              refine pm_R_icmp pm_M191 (t := 35) (pc_q := 26) rfl rfl rfl (fun c1231 => ?_) (fun c1231 => ?_)
              · skip
                refine pm_R_lo pm_M191 (pc_q := 36) rfl rfl rfl ?_
                refine rf_R_get pm_M191 T1170 (pc_q := 39) (v := .int (m1167 21)) rfl rfl rfl rfl ?_
                refine rf_R_put pm_M191 T1170 (pc_q := 42) rfl rfl rfl (by decide) rfl rfl (sf_weak B1218 (by decide) (by decide)) rfl rfl (fun h1232 m1235 em1236 T1233 F1234 => ?_)
                have F1237 := F1217.trans F1234 (by decide)
                have B1238 : sf_B 0 600 (m1235 10) := by rw [em1236]; exact B1221
                have ek1239 : (m1235 10).toInt = ((m1167 10)).toInt := by rw [em1236]; rfl
                have B1240 : sf_B 0 4 (m1235 13) := by rw [em1236]; exact B1222
                have ek1241 : (m1235 13).toInt = ((m1167 13)).toInt := by rw [em1236]; rfl
                have B1242 : sf_B 1 4 (m1235 17) := by rw [em1236]; exact (sf_eqT X1174 B1143)
                have ek1243 : (m1235 17).toInt = ((m1136 17)).toInt := by rw [em1236]; exact X1174
                have B1244 : sf_B 0 0 (m1235 22) := by rw [em1236]; exact (sf_eqT X1175 B1145)
                have ek1245 : (m1235 22).toInt = ((m1136 22)).toInt := by rw [em1236]; exact X1175
                have B1246 : sf_B 0 99 (m1235 21) := by rw [em1236]; exact B1218
                have ek1247 : (m1235 21).toInt = ((m1167 21)).toInt := by rw [em1236]; rfl
                have W1248 : rf_W [10, 12, 13, 14, 16, 17, 18, 21, 22] m m1235 := by rw [em1236]; exact W1220.put (by decide)
                refine pm_R_lo pm_M191 (pc_q := 43) rfl rfl rfl ?_
                refine pm_R_ret pm_M191 (r := some (.int 1)) rfl rfl ?_
                show pm_R _ 189 202 [.ref 41, .long a0, pm_no, .int a1, pm_no] [.int 1] _ _
                refine pm_R_br pm_M189 (pc_q := 205) (st_q := []) (pm_q189_1 (Nat.le_of_ble_eq_true rfl)) rfl ?_
                refine pm_R_lo pm_M189 (pc_q := 206) (pm_q189_1 (Nat.le_of_ble_eq_true rfl)) rfl rfl ?_
                refine pm_R_ldc2 pm_M189 (pc_q := 209) (pm_q189_1 (Nat.le_of_ble_eq_true rfl)) rfl rfl ?_
                refine sf_R_lcmp pm_M189 (pc_q := 210) (pm_q189_1 (Nat.le_of_ble_eq_true rfl)) rfl (fun z1249 e1250 => ?_)
                have B1251 : sf_B (-2147483648) (-1) z1249 := lf_cmpLt e1250 B346 (⟨by decide, by decide⟩ : lf_B 1935767923 1935767923 1935767923) (by decide)
                refine pm_R_ifc pm_M189 (t := 226) (pc_q := 213) (pm_q189_1 (Nat.le_of_ble_eq_true rfl)) rfl rfl (fun c1252 => ?_) (fun c1252 => absurd (Classical.not_not.mp c1252) (sf_neq2 B1251 sf_k0 (by decide)))
                have k1253 := sf_lneC e1250 c1252
                refine pm_R_lo pm_M189 (pc_q := 227) (pm_q189_2 (Nat.le_of_ble_eq_true rfl)) rfl rfl ?_
                refine pm_R_op pm_M189 (pc_q := 228) (st_q := [.int 1, .ref 41]) (pm_q189_2 (Nat.le_of_ble_eq_true rfl)) rfl rfl ?_
                refine pm_R_op pm_M189 (pc_q := 229) (st_q := [.int 2, .int 1, .ref 41]) (pm_q189_2 (Nat.le_of_ble_eq_true rfl)) rfl rfl ?_
                refine pm_R_op pm_M189 (pc_q := 230) (st_q := [.int 3, .int 2, .int 1, .ref 41]) (pm_q189_2 (Nat.le_of_ble_eq_true rfl)) rfl rfl ?_
                refine pm_R_op pm_M189 (pc_q := 232) (st_q := [.int 50, .int 3, .int 2, .int 1, .ref 41]) (pm_q189_2 (Nat.le_of_ble_eq_true rfl)) rfl rfl ?_
                refine pm_R_op pm_M189 (pc_q := 233) (st_q := [.int 0, .int 50, .int 3, .int 2, .int 1, .ref 41]) (pm_q189_2 (Nat.le_of_ble_eq_true rfl)) rfl rfl ?_
                refine pm_R_cv pm_M189 (pc_q := 236) (a := 41) (ra := [.int 0, .int 50, .int 3, .int 2, .int 1]) (rest := []) (ls_q := [.ref 41, .int 1, .int 2, .int 3, .int 50, .int 0, pm_no, pm_no]) (pm_q189_2 (Nat.le_of_ble_eq_true rfl)) rfl (Or.inl rfl) pm_M185 T1233.2.1 rfl (by decide) (Nat.lt_of_lt_of_le (by decide) T1233.1) rfl rfl (Nat.le_of_ble_eq_true rfl) rfl rfl ?_
                have e1254 := (F1234.cell (by decide) (F1171.cell (by decide) (F1135.cell (by decide) (F436.cell (by decide) (F405.cell (by decide) (F397.cell (by decide) (F392.cell (by decide) (F387.cell (by decide) (F382.cell (by decide) (F361.cell (by decide) e3))))))))))
                refine rf_c185_d (d := d + 3) T1233 (⟨f2, e1254, ct4, fun z => (sf_pos B1242 (by decide) z)⟩) (fun z => sf_pos B1242 (by decide) z) (fun m1257 w1258 h1259 T1260 F1261 W1262 X1263 => ?_)
                have F1264 := F1237.trans F1261 (by decide)
                have B1265 : sf_B 0 600 (m1257 10) := by rw [W1262 10 (by decide)]; exact B1238
                have ek1266 : (m1257 10).toInt = ((m1167 10)).toInt := by rw [W1262 10 (by decide)]; exact ek1239
                have B1267 : sf_B 0 4 (m1257 13) := by rw [W1262 13 (by decide)]; exact B1240
                have ek1268 : (m1257 13).toInt = ((m1167 13)).toInt := by rw [W1262 13 (by decide)]; exact ek1241
                have B1269 : sf_B 1 4 (m1257 17) := by rw [W1262 17 (by decide)]; exact B1242
                have ek1270 : (m1257 17).toInt = ((m1136 17)).toInt := by rw [W1262 17 (by decide)]; exact ek1243
                have B1271 : sf_B 0 0 (m1257 22) := by rw [W1262 22 (by decide)]; exact B1244
                have ek1272 : (m1257 22).toInt = ((m1136 22)).toInt := by rw [W1262 22 (by decide)]; exact ek1245
                have B1273 : sf_B 0 99 (m1257 21) := by rw [W1262 21 (by decide)]; exact B1246
                have ek1274 : (m1257 21).toInt = ((m1167 21)).toInt := by rw [W1262 21 (by decide)]; exact ek1247
                have W1275 : rf_W [10, 12, 13, 14, 16, 17, 18, 21, 22] m m1257 := W1248.trans W1262 (by decide)
                show pm_R _ 189 236 [.ref 41, .long a0, pm_no, .int a1, pm_no] [] _ _
                obtain ⟨f1276, e1277, ct1278, bd1279⟩ := X1263
                refine pm_R_op pm_M189 (pc_q := 237) (st_q := [.int 1]) (pm_q189_2 (Nat.le_of_ble_eq_true rfl)) rfl rfl ?_
                exact pm_R_ret pm_M189 (r := some (.int 1)) (pm_q189_2 (Nat.le_of_ble_eq_true rfl)) rfl (K1 m1257 w1258 h1259 T1260 F1264 W1275 (⟨f1276, e1277, ct1278, fun z => (sf_pos B1269 (by decide) z)⟩) (sf_aux39 _ _ _ ek1266 R1225))
              · have B1280 : sf_B 0 4 (m1167 21) := sf_ltL (Int32.not_le.mp c1231) B1218 B1227
                have B1281 : sf_B 1 5 v1226 := sf_ltR (Int32.not_le.mp c1231) B1218 B1227
                refine pm_R_lo pm_M191 (pc_q := 27) rfl rfl rfl ?_
                refine rf_R_get pm_M191 T1170 (pc_q := 30) (v := .ref 52) rfl rfl rfl rfl ?_
                refine pm_R_lo pm_M191 (pc_q := 31) rfl rfl rfl ?_
                refine pm_R_iald pm_M191 (pc_q := 32) (v := v1226) rfl e1228 (Nat.lt_of_lt_of_le (by decide) T1170.1) rfl sf_upd_eq rfl ?_
                refine pm_R_br pm_M191 (pc_q := 39) rfl rfl ?_
                refine rf_R_put pm_M191 T1170 (pc_q := 42) rfl rfl rfl (by decide) rfl rfl (sf_weak B1281 (by decide) (by decide)) rfl rfl (fun h1284 m1287 em1288 T1285 F1286 => ?_)
                have F1289 := F1217.trans F1286 (by decide)
                have B1290 : sf_B 0 600 (m1287 10) := by rw [em1288]; exact B1221
                have ek1291 : (m1287 10).toInt = ((m1167 10)).toInt := by rw [em1288]; rfl
                have B1292 : sf_B 0 4 (m1287 13) := by rw [em1288]; exact B1222
                have ek1293 : (m1287 13).toInt = ((m1167 13)).toInt := by rw [em1288]; rfl
                have B1294 : sf_B 1 4 (m1287 17) := by rw [em1288]; exact (sf_eqT X1174 B1143)
                have ek1295 : (m1287 17).toInt = ((m1136 17)).toInt := by rw [em1288]; exact X1174
                have B1296 : sf_B 0 0 (m1287 22) := by rw [em1288]; exact (sf_eqT X1175 B1145)
                have ek1297 : (m1287 22).toInt = ((m1136 22)).toInt := by rw [em1288]; exact X1175
                have B1298 : sf_B 1 5 (m1287 21) := by rw [em1288]; exact B1281
                have ek1299 : (m1287 21).toInt = (v1226).toInt := by rw [em1288]; rfl
                have W1300 : rf_W [10, 12, 13, 14, 16, 17, 18, 21, 22] m m1287 := by rw [em1288]; exact W1220.put (by decide)
                refine pm_R_lo pm_M191 (pc_q := 43) rfl rfl rfl ?_
                refine pm_R_ret pm_M191 (r := some (.int 1)) rfl rfl ?_
                show pm_R _ 189 202 [.ref 41, .long a0, pm_no, .int a1, pm_no] [.int 1] _ _
                refine pm_R_br pm_M189 (pc_q := 205) (st_q := []) (pm_q189_1 (Nat.le_of_ble_eq_true rfl)) rfl ?_
                refine pm_R_lo pm_M189 (pc_q := 206) (pm_q189_1 (Nat.le_of_ble_eq_true rfl)) rfl rfl ?_
                refine pm_R_ldc2 pm_M189 (pc_q := 209) (pm_q189_1 (Nat.le_of_ble_eq_true rfl)) rfl rfl ?_
                refine sf_R_lcmp pm_M189 (pc_q := 210) (pm_q189_1 (Nat.le_of_ble_eq_true rfl)) rfl (fun z1301 e1302 => ?_)
                have B1303 : sf_B (-2147483648) (-1) z1301 := lf_cmpLt e1302 B346 (⟨by decide, by decide⟩ : lf_B 1935767923 1935767923 1935767923) (by decide)
                refine pm_R_ifc pm_M189 (t := 226) (pc_q := 213) (pm_q189_1 (Nat.le_of_ble_eq_true rfl)) rfl rfl (fun c1304 => ?_) (fun c1304 => absurd (Classical.not_not.mp c1304) (sf_neq2 B1303 sf_k0 (by decide)))
                have k1305 := sf_lneC e1302 c1304
                refine pm_R_lo pm_M189 (pc_q := 227) (pm_q189_2 (Nat.le_of_ble_eq_true rfl)) rfl rfl ?_
                refine pm_R_op pm_M189 (pc_q := 228) (st_q := [.int 1, .ref 41]) (pm_q189_2 (Nat.le_of_ble_eq_true rfl)) rfl rfl ?_
                refine pm_R_op pm_M189 (pc_q := 229) (st_q := [.int 2, .int 1, .ref 41]) (pm_q189_2 (Nat.le_of_ble_eq_true rfl)) rfl rfl ?_
                refine pm_R_op pm_M189 (pc_q := 230) (st_q := [.int 3, .int 2, .int 1, .ref 41]) (pm_q189_2 (Nat.le_of_ble_eq_true rfl)) rfl rfl ?_
                refine pm_R_op pm_M189 (pc_q := 232) (st_q := [.int 50, .int 3, .int 2, .int 1, .ref 41]) (pm_q189_2 (Nat.le_of_ble_eq_true rfl)) rfl rfl ?_
                refine pm_R_op pm_M189 (pc_q := 233) (st_q := [.int 0, .int 50, .int 3, .int 2, .int 1, .ref 41]) (pm_q189_2 (Nat.le_of_ble_eq_true rfl)) rfl rfl ?_
                refine pm_R_cv pm_M189 (pc_q := 236) (a := 41) (ra := [.int 0, .int 50, .int 3, .int 2, .int 1]) (rest := []) (ls_q := [.ref 41, .int 1, .int 2, .int 3, .int 50, .int 0, pm_no, pm_no]) (pm_q189_2 (Nat.le_of_ble_eq_true rfl)) rfl (Or.inl rfl) pm_M185 T1285.2.1 rfl (by decide) (Nat.lt_of_lt_of_le (by decide) T1285.1) rfl rfl (Nat.le_of_ble_eq_true rfl) rfl rfl ?_
                have e1306 := (F1286.cell (by decide) (F1171.cell (by decide) (F1135.cell (by decide) (F436.cell (by decide) (F405.cell (by decide) (F397.cell (by decide) (F392.cell (by decide) (F387.cell (by decide) (F382.cell (by decide) (F361.cell (by decide) e3))))))))))
                refine rf_c185_d (d := d + 3) T1285 (⟨f2, e1306, ct4, fun z => (sf_pos B1294 (by decide) z)⟩) (fun z => sf_pos B1294 (by decide) z) (fun m1309 w1310 h1311 T1312 F1313 W1314 X1315 => ?_)
                have F1316 := F1289.trans F1313 (by decide)
                have B1317 : sf_B 0 600 (m1309 10) := by rw [W1314 10 (by decide)]; exact B1290
                have ek1318 : (m1309 10).toInt = ((m1167 10)).toInt := by rw [W1314 10 (by decide)]; exact ek1291
                have B1319 : sf_B 0 4 (m1309 13) := by rw [W1314 13 (by decide)]; exact B1292
                have ek1320 : (m1309 13).toInt = ((m1167 13)).toInt := by rw [W1314 13 (by decide)]; exact ek1293
                have B1321 : sf_B 1 4 (m1309 17) := by rw [W1314 17 (by decide)]; exact B1294
                have ek1322 : (m1309 17).toInt = ((m1136 17)).toInt := by rw [W1314 17 (by decide)]; exact ek1295
                have B1323 : sf_B 0 0 (m1309 22) := by rw [W1314 22 (by decide)]; exact B1296
                have ek1324 : (m1309 22).toInt = ((m1136 22)).toInt := by rw [W1314 22 (by decide)]; exact ek1297
                have B1325 : sf_B 1 5 (m1309 21) := by rw [W1314 21 (by decide)]; exact B1298
                have ek1326 : (m1309 21).toInt = (v1226).toInt := by rw [W1314 21 (by decide)]; exact ek1299
                have W1327 : rf_W [10, 12, 13, 14, 16, 17, 18, 21, 22] m m1309 := W1300.trans W1314 (by decide)
                show pm_R _ 189 236 [.ref 41, .long a0, pm_no, .int a1, pm_no] [] _ _
                obtain ⟨f1328, e1329, ct1330, bd1331⟩ := X1315
                refine pm_R_op pm_M189 (pc_q := 237) (st_q := [.int 1]) (pm_q189_2 (Nat.le_of_ble_eq_true rfl)) rfl rfl ?_
                exact pm_R_ret pm_M189 (r := some (.int 1)) (pm_q189_2 (Nat.le_of_ble_eq_true rfl)) rfl (K1 m1309 w1310 h1311 T1312 F1316 W1327 (⟨f1328, e1329, ct1330, fun z => (sf_pos B1321 (by decide) z)⟩) (sf_aux39 _ _ _ ek1318 R1225))
            · have F1332 := F1138.trans F1184 (by decide)
              have B1333 : sf_B 0 99 (m1180 21) := by rw [W1185 21 (by decide)]; exact B1147
              have ek1334 : (m1180 21).toInt = ((m432 21)).toInt := by rw [W1185 21 (by decide)]; exact ek1148
              have W1335 : rf_W [10, 12, 13, 14, 16, 17, 18, 21, 22] m m1180 := W1149.trans W1185 (by decide)
              have B1336 : sf_B 0 600 (m1180 10) := T1183.2.2.1 10
              have B1337 : sf_B 0 4 (m1180 13) := T1183.2.2.1 13
              have B1338 : sf_B 0 4 (m1180 17) := T1183.2.2.1 17
              have B1339 : sf_B 0 1 (m1180 22) := T1183.2.2.1 22
              show pm_R _ 191 7 [.ref 41, .int 2, .int v1125, pm_no] [.int 1] _ _
              have R1340 : (m 10).toInt ≤ (m1180 10).toInt := (sf_aux76 _ _ _ _ ek1140 R1124 X1188)
              obtain ⟨v1341, B1342, e1343⟩ := X1186 _ e1153
              refine pm_R_lo pm_M191 (pc_q := 8) (ls_q := [.ref 41, .int 2, .int v1125, .int 1]) (st_q := []) rfl rfl rfl ?_
              refine pm_R_lo pm_M191 (pc_q := 9) rfl rfl rfl ?_
              refine pm_R_lo pm_M191 (pc_q := 10) rfl rfl rfl ?_
              refine pm_R_br pm_M191 (pc_q := 13) (st_q := [.ref 41]) rfl rfl ?_
              refine pm_R_lo pm_M191 (pc_q := 14) rfl rfl rfl ?_
              refine rf_R_get pm_M191 T1183 (pc_q := 17) (v := .ref 52) rfl rfl rfl rfl ?_
              refine pm_R_lo pm_M191 (pc_q := 18) rfl rfl rfl ?_
              refine pm_R_iald pm_M191 (pc_q := 19) (v := v1341) rfl e1343 (Nat.lt_of_lt_of_le (by decide) T1183.1) rfl sf_upd_eq rfl ?_
              refine pm_R_lo pm_M191 (pc_q := 20) rfl rfl rfl ?_
              refine rf_R_get pm_M191 T1183 (pc_q := 23) (v := .int (m1180 21)) rfl rfl rfl rfl ?_
              refine pm_R_icmp pm_M191 (t := 35) (pc_q := 26) rfl rfl rfl (fun c1346 => ?_) (fun c1346 => ?_)
              · skip
                refine pm_R_lo pm_M191 (pc_q := 36) rfl rfl rfl ?_
                refine rf_R_get pm_M191 T1183 (pc_q := 39) (v := .int (m1180 21)) rfl rfl rfl rfl ?_
                refine rf_R_put pm_M191 T1183 (pc_q := 42) rfl rfl rfl (by decide) rfl rfl (sf_weak B1333 (by decide) (by decide)) rfl rfl (fun h1347 m1350 em1351 T1348 F1349 => ?_)
                have F1352 := F1332.trans F1349 (by decide)
                have B1353 : sf_B 0 600 (m1350 10) := by rw [em1351]; exact B1336
                have ek1354 : (m1350 10).toInt = ((m1180 10)).toInt := by rw [em1351]; rfl
                have B1355 : sf_B 0 4 (m1350 13) := by rw [em1351]; exact B1337
                have ek1356 : (m1350 13).toInt = ((m1180 13)).toInt := by rw [em1351]; rfl
                have B1357 : sf_B 1 4 (m1350 17) := by rw [em1351]; exact B1189
                have ek1358 : (m1350 17).toInt = ((m1180 17)).toInt := by rw [em1351]; rfl
                have B1359 : sf_B 0 0 (m1350 22) := by rw [em1351]; exact B1190
                have ek1360 : (m1350 22).toInt = ((m1180 22)).toInt := by rw [em1351]; rfl
                have B1361 : sf_B 0 99 (m1350 21) := by rw [em1351]; exact B1333
                have ek1362 : (m1350 21).toInt = ((m1180 21)).toInt := by rw [em1351]; rfl
                have W1363 : rf_W [10, 12, 13, 14, 16, 17, 18, 21, 22] m m1350 := by rw [em1351]; exact W1335.put (by decide)
                refine pm_R_lo pm_M191 (pc_q := 43) rfl rfl rfl ?_
                refine pm_R_ret pm_M191 (r := some (.int 1)) rfl rfl ?_
                show pm_R _ 189 202 [.ref 41, .long a0, pm_no, .int a1, pm_no] [.int 1] _ _
                refine pm_R_br pm_M189 (pc_q := 205) (st_q := []) (pm_q189_1 (Nat.le_of_ble_eq_true rfl)) rfl ?_
                refine pm_R_lo pm_M189 (pc_q := 206) (pm_q189_1 (Nat.le_of_ble_eq_true rfl)) rfl rfl ?_
                refine pm_R_ldc2 pm_M189 (pc_q := 209) (pm_q189_1 (Nat.le_of_ble_eq_true rfl)) rfl rfl ?_
                refine sf_R_lcmp pm_M189 (pc_q := 210) (pm_q189_1 (Nat.le_of_ble_eq_true rfl)) rfl (fun z1364 e1365 => ?_)
                have B1366 : sf_B (-2147483648) (-1) z1364 := lf_cmpLt e1365 B346 (⟨by decide, by decide⟩ : lf_B 1935767923 1935767923 1935767923) (by decide)
                refine pm_R_ifc pm_M189 (t := 226) (pc_q := 213) (pm_q189_1 (Nat.le_of_ble_eq_true rfl)) rfl rfl (fun c1367 => ?_) (fun c1367 => absurd (Classical.not_not.mp c1367) (sf_neq2 B1366 sf_k0 (by decide)))
                have k1368 := sf_lneC e1365 c1367
                refine pm_R_lo pm_M189 (pc_q := 227) (pm_q189_2 (Nat.le_of_ble_eq_true rfl)) rfl rfl ?_
                refine pm_R_op pm_M189 (pc_q := 228) (st_q := [.int 1, .ref 41]) (pm_q189_2 (Nat.le_of_ble_eq_true rfl)) rfl rfl ?_
                refine pm_R_op pm_M189 (pc_q := 229) (st_q := [.int 2, .int 1, .ref 41]) (pm_q189_2 (Nat.le_of_ble_eq_true rfl)) rfl rfl ?_
                refine pm_R_op pm_M189 (pc_q := 230) (st_q := [.int 3, .int 2, .int 1, .ref 41]) (pm_q189_2 (Nat.le_of_ble_eq_true rfl)) rfl rfl ?_
                refine pm_R_op pm_M189 (pc_q := 232) (st_q := [.int 50, .int 3, .int 2, .int 1, .ref 41]) (pm_q189_2 (Nat.le_of_ble_eq_true rfl)) rfl rfl ?_
                refine pm_R_op pm_M189 (pc_q := 233) (st_q := [.int 0, .int 50, .int 3, .int 2, .int 1, .ref 41]) (pm_q189_2 (Nat.le_of_ble_eq_true rfl)) rfl rfl ?_
                refine pm_R_cv pm_M189 (pc_q := 236) (a := 41) (ra := [.int 0, .int 50, .int 3, .int 2, .int 1]) (rest := []) (ls_q := [.ref 41, .int 1, .int 2, .int 3, .int 50, .int 0, pm_no, pm_no]) (pm_q189_2 (Nat.le_of_ble_eq_true rfl)) rfl (Or.inl rfl) pm_M185 T1348.2.1 rfl (by decide) (Nat.lt_of_lt_of_le (by decide) T1348.1) rfl rfl (Nat.le_of_ble_eq_true rfl) rfl rfl ?_
                have e1369 := (F1349.cell (by decide) (F1184.cell (by decide) (F1135.cell (by decide) (F436.cell (by decide) (F405.cell (by decide) (F397.cell (by decide) (F392.cell (by decide) (F387.cell (by decide) (F382.cell (by decide) (F361.cell (by decide) e3))))))))))
                refine rf_c185_d (d := d + 3) T1348 (⟨f2, e1369, ct4, fun z => (sf_pos B1357 (by decide) z)⟩) (fun z => sf_pos B1357 (by decide) z) (fun m1372 w1373 h1374 T1375 F1376 W1377 X1378 => ?_)
                have F1379 := F1352.trans F1376 (by decide)
                have B1380 : sf_B 0 600 (m1372 10) := by rw [W1377 10 (by decide)]; exact B1353
                have ek1381 : (m1372 10).toInt = ((m1180 10)).toInt := by rw [W1377 10 (by decide)]; exact ek1354
                have B1382 : sf_B 0 4 (m1372 13) := by rw [W1377 13 (by decide)]; exact B1355
                have ek1383 : (m1372 13).toInt = ((m1180 13)).toInt := by rw [W1377 13 (by decide)]; exact ek1356
                have B1384 : sf_B 1 4 (m1372 17) := by rw [W1377 17 (by decide)]; exact B1357
                have ek1385 : (m1372 17).toInt = ((m1180 17)).toInt := by rw [W1377 17 (by decide)]; exact ek1358
                have B1386 : sf_B 0 0 (m1372 22) := by rw [W1377 22 (by decide)]; exact B1359
                have ek1387 : (m1372 22).toInt = ((m1180 22)).toInt := by rw [W1377 22 (by decide)]; exact ek1360
                have B1388 : sf_B 0 99 (m1372 21) := by rw [W1377 21 (by decide)]; exact B1361
                have ek1389 : (m1372 21).toInt = ((m1180 21)).toInt := by rw [W1377 21 (by decide)]; exact ek1362
                have W1390 : rf_W [10, 12, 13, 14, 16, 17, 18, 21, 22] m m1372 := W1363.trans W1377 (by decide)
                show pm_R _ 189 236 [.ref 41, .long a0, pm_no, .int a1, pm_no] [] _ _
                obtain ⟨f1391, e1392, ct1393, bd1394⟩ := X1378
                refine pm_R_op pm_M189 (pc_q := 237) (st_q := [.int 1]) (pm_q189_2 (Nat.le_of_ble_eq_true rfl)) rfl rfl ?_
                exact pm_R_ret pm_M189 (r := some (.int 1)) (pm_q189_2 (Nat.le_of_ble_eq_true rfl)) rfl (K1 m1372 w1373 h1374 T1375 F1379 W1390 (⟨f1391, e1392, ct1393, fun z => (sf_pos B1384 (by decide) z)⟩) (sf_aux39 _ _ _ ek1381 R1340))
              · have B1395 : sf_B 0 98 (m1180 21) := sf_ltL (Int32.not_le.mp c1346) B1333 B1342
                have B1396 : sf_B 1 99 v1341 := sf_ltR (Int32.not_le.mp c1346) B1333 B1342
                refine pm_R_lo pm_M191 (pc_q := 27) rfl rfl rfl ?_
                refine rf_R_get pm_M191 T1183 (pc_q := 30) (v := .ref 52) rfl rfl rfl rfl ?_
                refine pm_R_lo pm_M191 (pc_q := 31) rfl rfl rfl ?_
                refine pm_R_iald pm_M191 (pc_q := 32) (v := v1341) rfl e1343 (Nat.lt_of_lt_of_le (by decide) T1183.1) rfl sf_upd_eq rfl ?_
                refine pm_R_br pm_M191 (pc_q := 39) rfl rfl ?_
                refine rf_R_put pm_M191 T1183 (pc_q := 42) rfl rfl rfl (by decide) rfl rfl (sf_weak B1396 (by decide) (by decide)) rfl rfl (fun h1399 m1402 em1403 T1400 F1401 => ?_)
                have F1404 := F1332.trans F1401 (by decide)
                have B1405 : sf_B 0 600 (m1402 10) := by rw [em1403]; exact B1336
                have ek1406 : (m1402 10).toInt = ((m1180 10)).toInt := by rw [em1403]; rfl
                have B1407 : sf_B 0 4 (m1402 13) := by rw [em1403]; exact B1337
                have ek1408 : (m1402 13).toInt = ((m1180 13)).toInt := by rw [em1403]; rfl
                have B1409 : sf_B 1 4 (m1402 17) := by rw [em1403]; exact B1189
                have ek1410 : (m1402 17).toInt = ((m1180 17)).toInt := by rw [em1403]; rfl
                have B1411 : sf_B 0 0 (m1402 22) := by rw [em1403]; exact B1190
                have ek1412 : (m1402 22).toInt = ((m1180 22)).toInt := by rw [em1403]; rfl
                have B1413 : sf_B 1 99 (m1402 21) := by rw [em1403]; exact B1396
                have ek1414 : (m1402 21).toInt = (v1341).toInt := by rw [em1403]; rfl
                have W1415 : rf_W [10, 12, 13, 14, 16, 17, 18, 21, 22] m m1402 := by rw [em1403]; exact W1335.put (by decide)
                refine pm_R_lo pm_M191 (pc_q := 43) rfl rfl rfl ?_
                refine pm_R_ret pm_M191 (r := some (.int 1)) rfl rfl ?_
                show pm_R _ 189 202 [.ref 41, .long a0, pm_no, .int a1, pm_no] [.int 1] _ _
                refine pm_R_br pm_M189 (pc_q := 205) (st_q := []) (pm_q189_1 (Nat.le_of_ble_eq_true rfl)) rfl ?_
                refine pm_R_lo pm_M189 (pc_q := 206) (pm_q189_1 (Nat.le_of_ble_eq_true rfl)) rfl rfl ?_
                refine pm_R_ldc2 pm_M189 (pc_q := 209) (pm_q189_1 (Nat.le_of_ble_eq_true rfl)) rfl rfl ?_
                refine sf_R_lcmp pm_M189 (pc_q := 210) (pm_q189_1 (Nat.le_of_ble_eq_true rfl)) rfl (fun z1416 e1417 => ?_)
                have B1418 : sf_B (-2147483648) (-1) z1416 := lf_cmpLt e1417 B346 (⟨by decide, by decide⟩ : lf_B 1935767923 1935767923 1935767923) (by decide)
                refine pm_R_ifc pm_M189 (t := 226) (pc_q := 213) (pm_q189_1 (Nat.le_of_ble_eq_true rfl)) rfl rfl (fun c1419 => ?_) (fun c1419 => absurd (Classical.not_not.mp c1419) (sf_neq2 B1418 sf_k0 (by decide)))
                have k1420 := sf_lneC e1417 c1419
                refine pm_R_lo pm_M189 (pc_q := 227) (pm_q189_2 (Nat.le_of_ble_eq_true rfl)) rfl rfl ?_
                refine pm_R_op pm_M189 (pc_q := 228) (st_q := [.int 1, .ref 41]) (pm_q189_2 (Nat.le_of_ble_eq_true rfl)) rfl rfl ?_
                refine pm_R_op pm_M189 (pc_q := 229) (st_q := [.int 2, .int 1, .ref 41]) (pm_q189_2 (Nat.le_of_ble_eq_true rfl)) rfl rfl ?_
                refine pm_R_op pm_M189 (pc_q := 230) (st_q := [.int 3, .int 2, .int 1, .ref 41]) (pm_q189_2 (Nat.le_of_ble_eq_true rfl)) rfl rfl ?_
                refine pm_R_op pm_M189 (pc_q := 232) (st_q := [.int 50, .int 3, .int 2, .int 1, .ref 41]) (pm_q189_2 (Nat.le_of_ble_eq_true rfl)) rfl rfl ?_
                refine pm_R_op pm_M189 (pc_q := 233) (st_q := [.int 0, .int 50, .int 3, .int 2, .int 1, .ref 41]) (pm_q189_2 (Nat.le_of_ble_eq_true rfl)) rfl rfl ?_
                refine pm_R_cv pm_M189 (pc_q := 236) (a := 41) (ra := [.int 0, .int 50, .int 3, .int 2, .int 1]) (rest := []) (ls_q := [.ref 41, .int 1, .int 2, .int 3, .int 50, .int 0, pm_no, pm_no]) (pm_q189_2 (Nat.le_of_ble_eq_true rfl)) rfl (Or.inl rfl) pm_M185 T1400.2.1 rfl (by decide) (Nat.lt_of_lt_of_le (by decide) T1400.1) rfl rfl (Nat.le_of_ble_eq_true rfl) rfl rfl ?_
                have e1421 := (F1401.cell (by decide) (F1184.cell (by decide) (F1135.cell (by decide) (F436.cell (by decide) (F405.cell (by decide) (F397.cell (by decide) (F392.cell (by decide) (F387.cell (by decide) (F382.cell (by decide) (F361.cell (by decide) e3))))))))))
                refine rf_c185_d (d := d + 3) T1400 (⟨f2, e1421, ct4, fun z => (sf_pos B1409 (by decide) z)⟩) (fun z => sf_pos B1409 (by decide) z) (fun m1424 w1425 h1426 T1427 F1428 W1429 X1430 => ?_)
                have F1431 := F1404.trans F1428 (by decide)
                have B1432 : sf_B 0 600 (m1424 10) := by rw [W1429 10 (by decide)]; exact B1405
                have ek1433 : (m1424 10).toInt = ((m1180 10)).toInt := by rw [W1429 10 (by decide)]; exact ek1406
                have B1434 : sf_B 0 4 (m1424 13) := by rw [W1429 13 (by decide)]; exact B1407
                have ek1435 : (m1424 13).toInt = ((m1180 13)).toInt := by rw [W1429 13 (by decide)]; exact ek1408
                have B1436 : sf_B 1 4 (m1424 17) := by rw [W1429 17 (by decide)]; exact B1409
                have ek1437 : (m1424 17).toInt = ((m1180 17)).toInt := by rw [W1429 17 (by decide)]; exact ek1410
                have B1438 : sf_B 0 0 (m1424 22) := by rw [W1429 22 (by decide)]; exact B1411
                have ek1439 : (m1424 22).toInt = ((m1180 22)).toInt := by rw [W1429 22 (by decide)]; exact ek1412
                have B1440 : sf_B 1 99 (m1424 21) := by rw [W1429 21 (by decide)]; exact B1413
                have ek1441 : (m1424 21).toInt = (v1341).toInt := by rw [W1429 21 (by decide)]; exact ek1414
                have W1442 : rf_W [10, 12, 13, 14, 16, 17, 18, 21, 22] m m1424 := W1415.trans W1429 (by decide)
                show pm_R _ 189 236 [.ref 41, .long a0, pm_no, .int a1, pm_no] [] _ _
                obtain ⟨f1443, e1444, ct1445, bd1446⟩ := X1430
                refine pm_R_op pm_M189 (pc_q := 237) (st_q := [.int 1]) (pm_q189_2 (Nat.le_of_ble_eq_true rfl)) rfl rfl ?_
                exact pm_R_ret pm_M189 (r := some (.int 1)) (pm_q189_2 (Nat.le_of_ble_eq_true rfl)) rfl (K1 m1424 w1425 h1426 T1427 F1431 W1442 (⟨f1443, e1444, ct1445, fun z => (sf_pos B1436 (by decide) z)⟩) (sf_aux39 _ _ _ ek1433 R1340))
          · have B1447 : sf_B (-1) 98 (m432 21) := sf_ltL (Int32.not_le.mp c1131) B1130 B1126
            refine pm_R_lo pm_M191 (pc_q := 27) rfl rfl rfl ?_
            refine rf_R_get pm_M191 T435 (pc_q := 30) (v := .ref 52) rfl rfl rfl rfl ?_
            refine pm_R_lo pm_M191 (pc_q := 31) rfl rfl rfl ?_
            refine pm_R_iald pm_M191 (pc_q := 32) (v := v1125) rfl e1127 (Nat.lt_of_lt_of_le (by decide) T435.1) rfl sf_upd_eq rfl ?_
            refine pm_R_br pm_M191 (pc_q := 39) rfl rfl ?_
            refine rf_R_put pm_M191 T435 (pc_q := 42) rfl rfl rfl (by decide) rfl rfl (sf_weak B1126 (by decide) (by decide)) rfl rfl (fun h1450 m1453 em1454 T1451 F1452 => ?_)
            have F1455 := F1118.trans F1452 (by decide)
            have B1456 : sf_B 0 600 (m1453 10) := by rw [em1454]; exact B1120
            have ek1457 : (m1453 10).toInt = ((m432 10)).toInt := by rw [em1454]; rfl
            have B1458 : sf_B 0 4 (m1453 13) := by rw [em1454]; exact B1121
            have ek1459 : (m1453 13).toInt = ((m432 13)).toInt := by rw [em1454]; rfl
            have B1460 : sf_B 1 4 (m1453 17) := by rw [em1454]; exact B441
            have ek1461 : (m1453 17).toInt = ((m432 17)).toInt := by rw [em1454]; rfl
            have B1462 : sf_B 0 0 (m1453 22) := by rw [em1454]; exact B442
            have ek1463 : (m1453 22).toInt = ((m432 22)).toInt := by rw [em1454]; rfl
            have B1464 : sf_B 0 99 (m1453 21) := by rw [em1454]; exact B1126
            have ek1465 : (m1453 21).toInt = (v1125).toInt := by rw [em1454]; rfl
            have W1466 : rf_W [10, 12, 13, 14, 16, 17, 18, 21, 22] m m1453 := by rw [em1454]; exact W1119.put (by decide)
            refine pm_R_lo pm_M191 (pc_q := 43) rfl rfl rfl ?_
            refine pm_R_ret pm_M191 (r := some (.int 1)) rfl rfl ?_
            show pm_R _ 189 178 [.ref 41, .long a0, pm_no, .int a1, pm_no] [.int 1] _ _
            refine pm_R_br pm_M189 (pc_q := 183) (st_q := []) (pm_q189_1 (Nat.le_of_ble_eq_true rfl)) rfl ?_
            refine pm_R_lo pm_M189 (pc_q := 184) (pm_q189_1 (Nat.le_of_ble_eq_true rfl)) rfl rfl ?_
            refine pm_R_ldc2 pm_M189 (pc_q := 187) (pm_q189_1 (Nat.le_of_ble_eq_true rfl)) rfl rfl ?_
            refine pm_R_op pm_M189 (pc_q := 188) (st_q := [.int z342]) (pm_q189_1 (Nat.le_of_ble_eq_true rfl)) (by show some (Value.int (lg_cmp a0 1819242347) :: _) = _; rw [← e343]) rfl ?_
            refine pm_R_ifc pm_M189 (t := 205) (pc_q := 191) (pm_q189_1 (Nat.le_of_ble_eq_true rfl)) rfl rfl (fun c1469 => absurd (sf_pt2 B345 sf_k0) c1469) (fun c1469 => ?_)
            refine pm_R_lo pm_M189 (pc_q := 192) (pm_q189_1 (Nat.le_of_ble_eq_true rfl)) rfl rfl ?_
            refine pm_R_op pm_M189 (pc_q := 193) (st_q := [.int 2, .ref 41]) (pm_q189_1 (Nat.le_of_ble_eq_true rfl)) rfl rfl ?_
            refine pm_R_lo pm_M189 (pc_q := 194) (pm_q189_1 (Nat.le_of_ble_eq_true rfl)) rfl rfl ?_
            refine rf_R_get pm_M189 T1451 (pc_q := 197) (v := .ref 52) (pm_q189_1 (Nat.le_of_ble_eq_true rfl)) rfl rfl rfl ?_
            refine pm_R_op pm_M189 (pc_q := 198) (st_q := [.int 1, .ref 52, .int 2, .ref 41]) (pm_q189_1 (Nat.le_of_ble_eq_true rfl)) rfl rfl ?_
            have e1470 := (F1452.cell (by decide) e1127)
            refine pm_R_iald pm_M189 (pc_q := 199) (v := v1125) (pm_q189_1 (Nat.le_of_ble_eq_true rfl)) e1470 (Nat.lt_of_lt_of_le (by decide) T1451.1) rfl sf_upd_eq rfl ?_
            refine pm_R_cv pm_M189 (pc_q := 202) (a := 41) (ra := [.int v1125, .int 2]) (rest := []) (ls_q := [.ref 41, .int 2, .int v1125, pm_no]) (pm_q189_1 (Nat.le_of_ble_eq_true rfl)) rfl (Or.inl rfl) pm_M191 T1451.2.1 rfl (by decide) (Nat.lt_of_lt_of_le (by decide) T1451.1) rfl rfl (Nat.le_of_ble_eq_true rfl) rfl rfl ?_
            refine pm_R_lo pm_M191 (pc_q := 1) rfl rfl rfl ?_
            refine pm_R_lo pm_M191 (pc_q := 2) rfl rfl rfl ?_
            refine pm_R_op pm_M191 (pc_q := 3) (st_q := [.int 5, .int 2, .ref 41]) rfl rfl rfl ?_
            refine pm_R_lo pm_M191 (pc_q := 4) rfl rfl rfl ?_
            refine pm_R_cv pm_M191 (pc_q := 7) (a := 41) (ra := [.int v1125, .int 5, .int 2]) (rest := []) (ls_q := [.ref 41, .int 2, .int 5, .int v1125]) rfl rfl (Or.inl rfl) pm_M183 T1451.2.1 rfl (by decide) (Nat.lt_of_lt_of_le (by decide) T1451.1) rfl rfl (Nat.le_of_ble_eq_true rfl) rfl rfl ?_
            refine rf_c183_2_5 (d := d + 0) T1451  (fun m1475 w1476 h1477 T1478 F1479 W1480 X1481 => ?_) (fun m1484 w1485 h1486 T1487 F1488 W1489 X1490 X1491 X1492 X1493 X1494 => ?_) (fun m1497 w1498 h1499 T1500 F1501 W1502 X1503 X1504 X1505 B1506 B1507 => ?_)
            · have F1508 := F1455.trans F1479 (by decide)
              have B1509 : sf_B 0 99 (m1475 21) := by rw [W1480 21 (by decide)]; exact B1464
              have ek1510 : (m1475 21).toInt = (v1125).toInt := by rw [W1480 21 (by decide)]; exact ek1465
              have W1511 : rf_W [10, 12, 13, 14, 16, 17, 18, 21, 22] m m1475 := W1466.trans W1480 (by decide)
              have B1512 : sf_B 0 600 (m1475 10) := T1478.2.2.1 10
              have B1513 : sf_B 0 4 (m1475 13) := T1478.2.2.1 13
              have B1514 : sf_B 0 4 (m1475 17) := T1478.2.2.1 17
              have B1515 : sf_B 0 1 (m1475 22) := T1478.2.2.1 22
              show pm_R _ 191 7 [.ref 41, .int 2, .int v1125, pm_no] [.int 0] _ _
              have R1516 : (m 10).toInt ≤ (m1475 10).toInt := (sf_aux76 _ _ _ _ ek1457 R1124 X1481)
              refine pm_R_lo pm_M191 (pc_q := 8) (ls_q := [.ref 41, .int 2, .int v1125, .int 0]) (st_q := []) rfl rfl rfl ?_
              refine pm_R_lo pm_M191 (pc_q := 9) rfl rfl rfl ?_
              refine pm_R_lo pm_M191 (pc_q := 10) rfl rfl rfl ?_
              refine pm_R_br pm_M191 (pc_q := 35) (st_q := [.ref 41]) rfl rfl ?_
              refine pm_R_lo pm_M191 (pc_q := 36) rfl rfl rfl ?_
              refine rf_R_get pm_M191 T1478 (pc_q := 39) (v := .int (m1475 21)) rfl rfl rfl rfl ?_
              refine rf_R_put pm_M191 T1478 (pc_q := 42) rfl rfl rfl (by decide) rfl rfl (sf_weak B1509 (by decide) (by decide)) rfl rfl (fun h1517 m1520 em1521 T1518 F1519 => ?_)
              have F1522 := F1508.trans F1519 (by decide)
              have B1523 : sf_B 0 600 (m1520 10) := by rw [em1521]; exact B1512
              have ek1524 : (m1520 10).toInt = ((m1475 10)).toInt := by rw [em1521]; rfl
              have B1525 : sf_B 0 4 (m1520 13) := by rw [em1521]; exact B1513
              have ek1526 : (m1520 13).toInt = ((m1475 13)).toInt := by rw [em1521]; rfl
              have B1527 : sf_B 0 4 (m1520 17) := by rw [em1521]; exact B1514
              have ek1528 : (m1520 17).toInt = ((m1475 17)).toInt := by rw [em1521]; rfl
              have B1529 : sf_B 0 1 (m1520 22) := by rw [em1521]; exact B1515
              have ek1530 : (m1520 22).toInt = ((m1475 22)).toInt := by rw [em1521]; rfl
              have B1531 : sf_B 0 99 (m1520 21) := by rw [em1521]; exact B1509
              have ek1532 : (m1520 21).toInt = ((m1475 21)).toInt := by rw [em1521]; rfl
              have W1533 : rf_W [10, 12, 13, 14, 16, 17, 18, 21, 22] m m1520 := by rw [em1521]; exact W1511.put (by decide)
              refine pm_R_lo pm_M191 (pc_q := 43) rfl rfl rfl ?_
              refine pm_R_ret pm_M191 (r := some (.int 0)) rfl rfl ?_
              show pm_R _ 189 202 [.ref 41, .long a0, pm_no, .int a1, pm_no] [.int 0] _ _
              refine pm_R_br pm_M189 (pc_q := 224) (st_q := []) (pm_q189_1 (Nat.le_of_ble_eq_true rfl)) rfl ?_
              refine pm_R_op pm_M189 (pc_q := 225) (st_q := [.int 0]) (pm_q189_2 (Nat.le_of_ble_eq_true rfl)) rfl rfl ?_
              exact pm_R_ret pm_M189 (r := some (.int 0)) (pm_q189_2 (Nat.le_of_ble_eq_true rfl)) rfl (K0 m1520 w1476 h1517 T1518 F1522 W1533 (sf_aux39 _ _ _ ek1524 R1516))
            · have F1534 := F1455.trans F1488 (by decide)
              have B1535 : sf_B 0 99 (m1484 21) := by rw [W1489 21 (by decide)]; exact B1464
              have ek1536 : (m1484 21).toInt = (v1125).toInt := by rw [W1489 21 (by decide)]; exact ek1465
              have W1537 : rf_W [10, 12, 13, 14, 16, 17, 18, 21, 22] m m1484 := W1466.trans W1489 (by decide)
              have B1538 : sf_B 0 600 (m1484 10) := T1487.2.2.1 10
              have B1539 : sf_B 0 4 (m1484 13) := T1487.2.2.1 13
              have B1540 : sf_B 0 4 (m1484 17) := T1487.2.2.1 17
              have B1541 : sf_B 0 1 (m1484 22) := T1487.2.2.1 22
              show pm_R _ 191 7 [.ref 41, .int 2, .int v1125, pm_no] [.int 1] _ _
              have R1542 : (m 10).toInt ≤ (m1484 10).toInt := (sf_aux76 _ _ _ _ ek1457 R1124 X1494)
              obtain ⟨v1543, B1544, e1545⟩ := X1490 _ e1470
              refine pm_R_lo pm_M191 (pc_q := 8) (ls_q := [.ref 41, .int 2, .int v1125, .int 1]) (st_q := []) rfl rfl rfl ?_
              refine pm_R_lo pm_M191 (pc_q := 9) rfl rfl rfl ?_
              refine pm_R_lo pm_M191 (pc_q := 10) rfl rfl rfl ?_
              refine pm_R_br pm_M191 (pc_q := 13) (st_q := [.ref 41]) rfl rfl ?_
              refine pm_R_lo pm_M191 (pc_q := 14) rfl rfl rfl ?_
              refine rf_R_get pm_M191 T1487 (pc_q := 17) (v := .ref 52) rfl rfl rfl rfl ?_
              refine pm_R_lo pm_M191 (pc_q := 18) rfl rfl rfl ?_
              refine pm_R_iald pm_M191 (pc_q := 19) (v := v1543) rfl e1545 (Nat.lt_of_lt_of_le (by decide) T1487.1) rfl sf_upd_eq rfl ?_
              refine pm_R_lo pm_M191 (pc_q := 20) rfl rfl rfl ?_
              refine rf_R_get pm_M191 T1487 (pc_q := 23) (v := .int (m1484 21)) rfl rfl rfl rfl ?_
              refine pm_R_icmp pm_M191 (t := 35) (pc_q := 26) rfl rfl rfl (fun c1548 => ?_) (fun c1548 => ?_)
              · skip
                refine pm_R_lo pm_M191 (pc_q := 36) rfl rfl rfl ?_
                refine rf_R_get pm_M191 T1487 (pc_q := 39) (v := .int (m1484 21)) rfl rfl rfl rfl ?_
                refine rf_R_put pm_M191 T1487 (pc_q := 42) rfl rfl rfl (by decide) rfl rfl (sf_weak B1535 (by decide) (by decide)) rfl rfl (fun h1549 m1552 em1553 T1550 F1551 => ?_)
                have F1554 := F1534.trans F1551 (by decide)
                have B1555 : sf_B 0 600 (m1552 10) := by rw [em1553]; exact B1538
                have ek1556 : (m1552 10).toInt = ((m1484 10)).toInt := by rw [em1553]; rfl
                have B1557 : sf_B 0 4 (m1552 13) := by rw [em1553]; exact B1539
                have ek1558 : (m1552 13).toInt = ((m1484 13)).toInt := by rw [em1553]; rfl
                have B1559 : sf_B 1 4 (m1552 17) := by rw [em1553]; exact (sf_eqT X1491 B1460)
                have ek1560 : (m1552 17).toInt = ((m1453 17)).toInt := by rw [em1553]; exact X1491
                have B1561 : sf_B 0 0 (m1552 22) := by rw [em1553]; exact (sf_eqT X1492 B1462)
                have ek1562 : (m1552 22).toInt = ((m1453 22)).toInt := by rw [em1553]; exact X1492
                have B1563 : sf_B 0 99 (m1552 21) := by rw [em1553]; exact B1535
                have ek1564 : (m1552 21).toInt = ((m1484 21)).toInt := by rw [em1553]; rfl
                have W1565 : rf_W [10, 12, 13, 14, 16, 17, 18, 21, 22] m m1552 := by rw [em1553]; exact W1537.put (by decide)
                refine pm_R_lo pm_M191 (pc_q := 43) rfl rfl rfl ?_
                refine pm_R_ret pm_M191 (r := some (.int 1)) rfl rfl ?_
                show pm_R _ 189 202 [.ref 41, .long a0, pm_no, .int a1, pm_no] [.int 1] _ _
                refine pm_R_br pm_M189 (pc_q := 205) (st_q := []) (pm_q189_1 (Nat.le_of_ble_eq_true rfl)) rfl ?_
                refine pm_R_lo pm_M189 (pc_q := 206) (pm_q189_1 (Nat.le_of_ble_eq_true rfl)) rfl rfl ?_
                refine pm_R_ldc2 pm_M189 (pc_q := 209) (pm_q189_1 (Nat.le_of_ble_eq_true rfl)) rfl rfl ?_
                refine sf_R_lcmp pm_M189 (pc_q := 210) (pm_q189_1 (Nat.le_of_ble_eq_true rfl)) rfl (fun z1566 e1567 => ?_)
                have B1568 : sf_B (-2147483648) (-1) z1566 := lf_cmpLt e1567 B346 (⟨by decide, by decide⟩ : lf_B 1935767923 1935767923 1935767923) (by decide)
                refine pm_R_ifc pm_M189 (t := 226) (pc_q := 213) (pm_q189_1 (Nat.le_of_ble_eq_true rfl)) rfl rfl (fun c1569 => ?_) (fun c1569 => absurd (Classical.not_not.mp c1569) (sf_neq2 B1568 sf_k0 (by decide)))
                have k1570 := sf_lneC e1567 c1569
                refine pm_R_lo pm_M189 (pc_q := 227) (pm_q189_2 (Nat.le_of_ble_eq_true rfl)) rfl rfl ?_
                refine pm_R_op pm_M189 (pc_q := 228) (st_q := [.int 1, .ref 41]) (pm_q189_2 (Nat.le_of_ble_eq_true rfl)) rfl rfl ?_
                refine pm_R_op pm_M189 (pc_q := 229) (st_q := [.int 2, .int 1, .ref 41]) (pm_q189_2 (Nat.le_of_ble_eq_true rfl)) rfl rfl ?_
                refine pm_R_op pm_M189 (pc_q := 230) (st_q := [.int 3, .int 2, .int 1, .ref 41]) (pm_q189_2 (Nat.le_of_ble_eq_true rfl)) rfl rfl ?_
                refine pm_R_op pm_M189 (pc_q := 232) (st_q := [.int 50, .int 3, .int 2, .int 1, .ref 41]) (pm_q189_2 (Nat.le_of_ble_eq_true rfl)) rfl rfl ?_
                refine pm_R_op pm_M189 (pc_q := 233) (st_q := [.int 0, .int 50, .int 3, .int 2, .int 1, .ref 41]) (pm_q189_2 (Nat.le_of_ble_eq_true rfl)) rfl rfl ?_
                refine pm_R_cv pm_M189 (pc_q := 236) (a := 41) (ra := [.int 0, .int 50, .int 3, .int 2, .int 1]) (rest := []) (ls_q := [.ref 41, .int 1, .int 2, .int 3, .int 50, .int 0, pm_no, pm_no]) (pm_q189_2 (Nat.le_of_ble_eq_true rfl)) rfl (Or.inl rfl) pm_M185 T1550.2.1 rfl (by decide) (Nat.lt_of_lt_of_le (by decide) T1550.1) rfl rfl (Nat.le_of_ble_eq_true rfl) rfl rfl ?_
                have e1571 := (F1551.cell (by decide) (F1488.cell (by decide) (F1452.cell (by decide) (F436.cell (by decide) (F405.cell (by decide) (F397.cell (by decide) (F392.cell (by decide) (F387.cell (by decide) (F382.cell (by decide) (F361.cell (by decide) e3))))))))))
                refine rf_c185_d (d := d + 3) T1550 (⟨f2, e1571, ct4, fun z => (sf_pos B1559 (by decide) z)⟩) (fun z => sf_pos B1559 (by decide) z) (fun m1574 w1575 h1576 T1577 F1578 W1579 X1580 => ?_)
                have F1581 := F1554.trans F1578 (by decide)
                have B1582 : sf_B 0 600 (m1574 10) := by rw [W1579 10 (by decide)]; exact B1555
                have ek1583 : (m1574 10).toInt = ((m1484 10)).toInt := by rw [W1579 10 (by decide)]; exact ek1556
                have B1584 : sf_B 0 4 (m1574 13) := by rw [W1579 13 (by decide)]; exact B1557
                have ek1585 : (m1574 13).toInt = ((m1484 13)).toInt := by rw [W1579 13 (by decide)]; exact ek1558
                have B1586 : sf_B 1 4 (m1574 17) := by rw [W1579 17 (by decide)]; exact B1559
                have ek1587 : (m1574 17).toInt = ((m1453 17)).toInt := by rw [W1579 17 (by decide)]; exact ek1560
                have B1588 : sf_B 0 0 (m1574 22) := by rw [W1579 22 (by decide)]; exact B1561
                have ek1589 : (m1574 22).toInt = ((m1453 22)).toInt := by rw [W1579 22 (by decide)]; exact ek1562
                have B1590 : sf_B 0 99 (m1574 21) := by rw [W1579 21 (by decide)]; exact B1563
                have ek1591 : (m1574 21).toInt = ((m1484 21)).toInt := by rw [W1579 21 (by decide)]; exact ek1564
                have W1592 : rf_W [10, 12, 13, 14, 16, 17, 18, 21, 22] m m1574 := W1565.trans W1579 (by decide)
                show pm_R _ 189 236 [.ref 41, .long a0, pm_no, .int a1, pm_no] [] _ _
                obtain ⟨f1593, e1594, ct1595, bd1596⟩ := X1580
                refine pm_R_op pm_M189 (pc_q := 237) (st_q := [.int 1]) (pm_q189_2 (Nat.le_of_ble_eq_true rfl)) rfl rfl ?_
                exact pm_R_ret pm_M189 (r := some (.int 1)) (pm_q189_2 (Nat.le_of_ble_eq_true rfl)) rfl (K1 m1574 w1575 h1576 T1577 F1581 W1592 (⟨f1593, e1594, ct1595, fun z => (sf_pos B1586 (by decide) z)⟩) (sf_aux39 _ _ _ ek1583 R1542))
              · have B1597 : sf_B 0 4 (m1484 21) := sf_ltL (Int32.not_le.mp c1548) B1535 B1544
                have B1598 : sf_B 1 5 v1543 := sf_ltR (Int32.not_le.mp c1548) B1535 B1544
                refine pm_R_lo pm_M191 (pc_q := 27) rfl rfl rfl ?_
                refine rf_R_get pm_M191 T1487 (pc_q := 30) (v := .ref 52) rfl rfl rfl rfl ?_
                refine pm_R_lo pm_M191 (pc_q := 31) rfl rfl rfl ?_
                refine pm_R_iald pm_M191 (pc_q := 32) (v := v1543) rfl e1545 (Nat.lt_of_lt_of_le (by decide) T1487.1) rfl sf_upd_eq rfl ?_
                refine pm_R_br pm_M191 (pc_q := 39) rfl rfl ?_
                refine rf_R_put pm_M191 T1487 (pc_q := 42) rfl rfl rfl (by decide) rfl rfl (sf_weak B1598 (by decide) (by decide)) rfl rfl (fun h1601 m1604 em1605 T1602 F1603 => ?_)
                have F1606 := F1534.trans F1603 (by decide)
                have B1607 : sf_B 0 600 (m1604 10) := by rw [em1605]; exact B1538
                have ek1608 : (m1604 10).toInt = ((m1484 10)).toInt := by rw [em1605]; rfl
                have B1609 : sf_B 0 4 (m1604 13) := by rw [em1605]; exact B1539
                have ek1610 : (m1604 13).toInt = ((m1484 13)).toInt := by rw [em1605]; rfl
                have B1611 : sf_B 1 4 (m1604 17) := by rw [em1605]; exact (sf_eqT X1491 B1460)
                have ek1612 : (m1604 17).toInt = ((m1453 17)).toInt := by rw [em1605]; exact X1491
                have B1613 : sf_B 0 0 (m1604 22) := by rw [em1605]; exact (sf_eqT X1492 B1462)
                have ek1614 : (m1604 22).toInt = ((m1453 22)).toInt := by rw [em1605]; exact X1492
                have B1615 : sf_B 1 5 (m1604 21) := by rw [em1605]; exact B1598
                have ek1616 : (m1604 21).toInt = (v1543).toInt := by rw [em1605]; rfl
                have W1617 : rf_W [10, 12, 13, 14, 16, 17, 18, 21, 22] m m1604 := by rw [em1605]; exact W1537.put (by decide)
                refine pm_R_lo pm_M191 (pc_q := 43) rfl rfl rfl ?_
                refine pm_R_ret pm_M191 (r := some (.int 1)) rfl rfl ?_
                show pm_R _ 189 202 [.ref 41, .long a0, pm_no, .int a1, pm_no] [.int 1] _ _
                refine pm_R_br pm_M189 (pc_q := 205) (st_q := []) (pm_q189_1 (Nat.le_of_ble_eq_true rfl)) rfl ?_
                refine pm_R_lo pm_M189 (pc_q := 206) (pm_q189_1 (Nat.le_of_ble_eq_true rfl)) rfl rfl ?_
                refine pm_R_ldc2 pm_M189 (pc_q := 209) (pm_q189_1 (Nat.le_of_ble_eq_true rfl)) rfl rfl ?_
                refine sf_R_lcmp pm_M189 (pc_q := 210) (pm_q189_1 (Nat.le_of_ble_eq_true rfl)) rfl (fun z1618 e1619 => ?_)
                have B1620 : sf_B (-2147483648) (-1) z1618 := lf_cmpLt e1619 B346 (⟨by decide, by decide⟩ : lf_B 1935767923 1935767923 1935767923) (by decide)
                refine pm_R_ifc pm_M189 (t := 226) (pc_q := 213) (pm_q189_1 (Nat.le_of_ble_eq_true rfl)) rfl rfl (fun c1621 => ?_) (fun c1621 => absurd (Classical.not_not.mp c1621) (sf_neq2 B1620 sf_k0 (by decide)))
                have k1622 := sf_lneC e1619 c1621
                refine pm_R_lo pm_M189 (pc_q := 227) (pm_q189_2 (Nat.le_of_ble_eq_true rfl)) rfl rfl ?_
                refine pm_R_op pm_M189 (pc_q := 228) (st_q := [.int 1, .ref 41]) (pm_q189_2 (Nat.le_of_ble_eq_true rfl)) rfl rfl ?_
                refine pm_R_op pm_M189 (pc_q := 229) (st_q := [.int 2, .int 1, .ref 41]) (pm_q189_2 (Nat.le_of_ble_eq_true rfl)) rfl rfl ?_
                refine pm_R_op pm_M189 (pc_q := 230) (st_q := [.int 3, .int 2, .int 1, .ref 41]) (pm_q189_2 (Nat.le_of_ble_eq_true rfl)) rfl rfl ?_
                refine pm_R_op pm_M189 (pc_q := 232) (st_q := [.int 50, .int 3, .int 2, .int 1, .ref 41]) (pm_q189_2 (Nat.le_of_ble_eq_true rfl)) rfl rfl ?_
                refine pm_R_op pm_M189 (pc_q := 233) (st_q := [.int 0, .int 50, .int 3, .int 2, .int 1, .ref 41]) (pm_q189_2 (Nat.le_of_ble_eq_true rfl)) rfl rfl ?_
                refine pm_R_cv pm_M189 (pc_q := 236) (a := 41) (ra := [.int 0, .int 50, .int 3, .int 2, .int 1]) (rest := []) (ls_q := [.ref 41, .int 1, .int 2, .int 3, .int 50, .int 0, pm_no, pm_no]) (pm_q189_2 (Nat.le_of_ble_eq_true rfl)) rfl (Or.inl rfl) pm_M185 T1602.2.1 rfl (by decide) (Nat.lt_of_lt_of_le (by decide) T1602.1) rfl rfl (Nat.le_of_ble_eq_true rfl) rfl rfl ?_
                have e1623 := (F1603.cell (by decide) (F1488.cell (by decide) (F1452.cell (by decide) (F436.cell (by decide) (F405.cell (by decide) (F397.cell (by decide) (F392.cell (by decide) (F387.cell (by decide) (F382.cell (by decide) (F361.cell (by decide) e3))))))))))
                refine rf_c185_d (d := d + 3) T1602 (⟨f2, e1623, ct4, fun z => (sf_pos B1611 (by decide) z)⟩) (fun z => sf_pos B1611 (by decide) z) (fun m1626 w1627 h1628 T1629 F1630 W1631 X1632 => ?_)
                have F1633 := F1606.trans F1630 (by decide)
                have B1634 : sf_B 0 600 (m1626 10) := by rw [W1631 10 (by decide)]; exact B1607
                have ek1635 : (m1626 10).toInt = ((m1484 10)).toInt := by rw [W1631 10 (by decide)]; exact ek1608
                have B1636 : sf_B 0 4 (m1626 13) := by rw [W1631 13 (by decide)]; exact B1609
                have ek1637 : (m1626 13).toInt = ((m1484 13)).toInt := by rw [W1631 13 (by decide)]; exact ek1610
                have B1638 : sf_B 1 4 (m1626 17) := by rw [W1631 17 (by decide)]; exact B1611
                have ek1639 : (m1626 17).toInt = ((m1453 17)).toInt := by rw [W1631 17 (by decide)]; exact ek1612
                have B1640 : sf_B 0 0 (m1626 22) := by rw [W1631 22 (by decide)]; exact B1613
                have ek1641 : (m1626 22).toInt = ((m1453 22)).toInt := by rw [W1631 22 (by decide)]; exact ek1614
                have B1642 : sf_B 1 5 (m1626 21) := by rw [W1631 21 (by decide)]; exact B1615
                have ek1643 : (m1626 21).toInt = (v1543).toInt := by rw [W1631 21 (by decide)]; exact ek1616
                have W1644 : rf_W [10, 12, 13, 14, 16, 17, 18, 21, 22] m m1626 := W1617.trans W1631 (by decide)
                show pm_R _ 189 236 [.ref 41, .long a0, pm_no, .int a1, pm_no] [] _ _
                obtain ⟨f1645, e1646, ct1647, bd1648⟩ := X1632
                refine pm_R_op pm_M189 (pc_q := 237) (st_q := [.int 1]) (pm_q189_2 (Nat.le_of_ble_eq_true rfl)) rfl rfl ?_
                exact pm_R_ret pm_M189 (r := some (.int 1)) (pm_q189_2 (Nat.le_of_ble_eq_true rfl)) rfl (K1 m1626 w1627 h1628 T1629 F1633 W1644 (⟨f1645, e1646, ct1647, fun z => (sf_pos B1638 (by decide) z)⟩) (sf_aux39 _ _ _ ek1635 R1542))
            · have F1649 := F1455.trans F1501 (by decide)
              have B1650 : sf_B 0 99 (m1497 21) := by rw [W1502 21 (by decide)]; exact B1464
              have ek1651 : (m1497 21).toInt = (v1125).toInt := by rw [W1502 21 (by decide)]; exact ek1465
              have W1652 : rf_W [10, 12, 13, 14, 16, 17, 18, 21, 22] m m1497 := W1466.trans W1502 (by decide)
              have B1653 : sf_B 0 600 (m1497 10) := T1500.2.2.1 10
              have B1654 : sf_B 0 4 (m1497 13) := T1500.2.2.1 13
              have B1655 : sf_B 0 4 (m1497 17) := T1500.2.2.1 17
              have B1656 : sf_B 0 1 (m1497 22) := T1500.2.2.1 22
              show pm_R _ 191 7 [.ref 41, .int 2, .int v1125, pm_no] [.int 1] _ _
              have R1657 : (m 10).toInt ≤ (m1497 10).toInt := (sf_aux76 _ _ _ _ ek1457 R1124 X1505)
              obtain ⟨v1658, B1659, e1660⟩ := X1503 _ e1470
              refine pm_R_lo pm_M191 (pc_q := 8) (ls_q := [.ref 41, .int 2, .int v1125, .int 1]) (st_q := []) rfl rfl rfl ?_
              refine pm_R_lo pm_M191 (pc_q := 9) rfl rfl rfl ?_
              refine pm_R_lo pm_M191 (pc_q := 10) rfl rfl rfl ?_
              refine pm_R_br pm_M191 (pc_q := 13) (st_q := [.ref 41]) rfl rfl ?_
              refine pm_R_lo pm_M191 (pc_q := 14) rfl rfl rfl ?_
              refine rf_R_get pm_M191 T1500 (pc_q := 17) (v := .ref 52) rfl rfl rfl rfl ?_
              refine pm_R_lo pm_M191 (pc_q := 18) rfl rfl rfl ?_
              refine pm_R_iald pm_M191 (pc_q := 19) (v := v1658) rfl e1660 (Nat.lt_of_lt_of_le (by decide) T1500.1) rfl sf_upd_eq rfl ?_
              refine pm_R_lo pm_M191 (pc_q := 20) rfl rfl rfl ?_
              refine rf_R_get pm_M191 T1500 (pc_q := 23) (v := .int (m1497 21)) rfl rfl rfl rfl ?_
              refine pm_R_icmp pm_M191 (t := 35) (pc_q := 26) rfl rfl rfl (fun c1663 => ?_) (fun c1663 => ?_)
              · skip
                refine pm_R_lo pm_M191 (pc_q := 36) rfl rfl rfl ?_
                refine rf_R_get pm_M191 T1500 (pc_q := 39) (v := .int (m1497 21)) rfl rfl rfl rfl ?_
                refine rf_R_put pm_M191 T1500 (pc_q := 42) rfl rfl rfl (by decide) rfl rfl (sf_weak B1650 (by decide) (by decide)) rfl rfl (fun h1664 m1667 em1668 T1665 F1666 => ?_)
                have F1669 := F1649.trans F1666 (by decide)
                have B1670 : sf_B 0 600 (m1667 10) := by rw [em1668]; exact B1653
                have ek1671 : (m1667 10).toInt = ((m1497 10)).toInt := by rw [em1668]; rfl
                have B1672 : sf_B 0 4 (m1667 13) := by rw [em1668]; exact B1654
                have ek1673 : (m1667 13).toInt = ((m1497 13)).toInt := by rw [em1668]; rfl
                have B1674 : sf_B 1 4 (m1667 17) := by rw [em1668]; exact B1506
                have ek1675 : (m1667 17).toInt = ((m1497 17)).toInt := by rw [em1668]; rfl
                have B1676 : sf_B 0 0 (m1667 22) := by rw [em1668]; exact B1507
                have ek1677 : (m1667 22).toInt = ((m1497 22)).toInt := by rw [em1668]; rfl
                have B1678 : sf_B 0 99 (m1667 21) := by rw [em1668]; exact B1650
                have ek1679 : (m1667 21).toInt = ((m1497 21)).toInt := by rw [em1668]; rfl
                have W1680 : rf_W [10, 12, 13, 14, 16, 17, 18, 21, 22] m m1667 := by rw [em1668]; exact W1652.put (by decide)
                refine pm_R_lo pm_M191 (pc_q := 43) rfl rfl rfl ?_
                refine pm_R_ret pm_M191 (r := some (.int 1)) rfl rfl ?_
                show pm_R _ 189 202 [.ref 41, .long a0, pm_no, .int a1, pm_no] [.int 1] _ _
                refine pm_R_br pm_M189 (pc_q := 205) (st_q := []) (pm_q189_1 (Nat.le_of_ble_eq_true rfl)) rfl ?_
                refine pm_R_lo pm_M189 (pc_q := 206) (pm_q189_1 (Nat.le_of_ble_eq_true rfl)) rfl rfl ?_
                refine pm_R_ldc2 pm_M189 (pc_q := 209) (pm_q189_1 (Nat.le_of_ble_eq_true rfl)) rfl rfl ?_
                refine sf_R_lcmp pm_M189 (pc_q := 210) (pm_q189_1 (Nat.le_of_ble_eq_true rfl)) rfl (fun z1681 e1682 => ?_)
                have B1683 : sf_B (-2147483648) (-1) z1681 := lf_cmpLt e1682 B346 (⟨by decide, by decide⟩ : lf_B 1935767923 1935767923 1935767923) (by decide)
                refine pm_R_ifc pm_M189 (t := 226) (pc_q := 213) (pm_q189_1 (Nat.le_of_ble_eq_true rfl)) rfl rfl (fun c1684 => ?_) (fun c1684 => absurd (Classical.not_not.mp c1684) (sf_neq2 B1683 sf_k0 (by decide)))
                have k1685 := sf_lneC e1682 c1684
                refine pm_R_lo pm_M189 (pc_q := 227) (pm_q189_2 (Nat.le_of_ble_eq_true rfl)) rfl rfl ?_
                refine pm_R_op pm_M189 (pc_q := 228) (st_q := [.int 1, .ref 41]) (pm_q189_2 (Nat.le_of_ble_eq_true rfl)) rfl rfl ?_
                refine pm_R_op pm_M189 (pc_q := 229) (st_q := [.int 2, .int 1, .ref 41]) (pm_q189_2 (Nat.le_of_ble_eq_true rfl)) rfl rfl ?_
                refine pm_R_op pm_M189 (pc_q := 230) (st_q := [.int 3, .int 2, .int 1, .ref 41]) (pm_q189_2 (Nat.le_of_ble_eq_true rfl)) rfl rfl ?_
                refine pm_R_op pm_M189 (pc_q := 232) (st_q := [.int 50, .int 3, .int 2, .int 1, .ref 41]) (pm_q189_2 (Nat.le_of_ble_eq_true rfl)) rfl rfl ?_
                refine pm_R_op pm_M189 (pc_q := 233) (st_q := [.int 0, .int 50, .int 3, .int 2, .int 1, .ref 41]) (pm_q189_2 (Nat.le_of_ble_eq_true rfl)) rfl rfl ?_
                refine pm_R_cv pm_M189 (pc_q := 236) (a := 41) (ra := [.int 0, .int 50, .int 3, .int 2, .int 1]) (rest := []) (ls_q := [.ref 41, .int 1, .int 2, .int 3, .int 50, .int 0, pm_no, pm_no]) (pm_q189_2 (Nat.le_of_ble_eq_true rfl)) rfl (Or.inl rfl) pm_M185 T1665.2.1 rfl (by decide) (Nat.lt_of_lt_of_le (by decide) T1665.1) rfl rfl (Nat.le_of_ble_eq_true rfl) rfl rfl ?_
                have e1686 := (F1666.cell (by decide) (F1501.cell (by decide) (F1452.cell (by decide) (F436.cell (by decide) (F405.cell (by decide) (F397.cell (by decide) (F392.cell (by decide) (F387.cell (by decide) (F382.cell (by decide) (F361.cell (by decide) e3))))))))))
                refine rf_c185_d (d := d + 3) T1665 (⟨f2, e1686, ct4, fun z => (sf_pos B1674 (by decide) z)⟩) (fun z => sf_pos B1674 (by decide) z) (fun m1689 w1690 h1691 T1692 F1693 W1694 X1695 => ?_)
                have F1696 := F1669.trans F1693 (by decide)
                have B1697 : sf_B 0 600 (m1689 10) := by rw [W1694 10 (by decide)]; exact B1670
                have ek1698 : (m1689 10).toInt = ((m1497 10)).toInt := by rw [W1694 10 (by decide)]; exact ek1671
                have B1699 : sf_B 0 4 (m1689 13) := by rw [W1694 13 (by decide)]; exact B1672
                have ek1700 : (m1689 13).toInt = ((m1497 13)).toInt := by rw [W1694 13 (by decide)]; exact ek1673
                have B1701 : sf_B 1 4 (m1689 17) := by rw [W1694 17 (by decide)]; exact B1674
                have ek1702 : (m1689 17).toInt = ((m1497 17)).toInt := by rw [W1694 17 (by decide)]; exact ek1675
                have B1703 : sf_B 0 0 (m1689 22) := by rw [W1694 22 (by decide)]; exact B1676
                have ek1704 : (m1689 22).toInt = ((m1497 22)).toInt := by rw [W1694 22 (by decide)]; exact ek1677
                have B1705 : sf_B 0 99 (m1689 21) := by rw [W1694 21 (by decide)]; exact B1678
                have ek1706 : (m1689 21).toInt = ((m1497 21)).toInt := by rw [W1694 21 (by decide)]; exact ek1679
                have W1707 : rf_W [10, 12, 13, 14, 16, 17, 18, 21, 22] m m1689 := W1680.trans W1694 (by decide)
                show pm_R _ 189 236 [.ref 41, .long a0, pm_no, .int a1, pm_no] [] _ _
                obtain ⟨f1708, e1709, ct1710, bd1711⟩ := X1695
                refine pm_R_op pm_M189 (pc_q := 237) (st_q := [.int 1]) (pm_q189_2 (Nat.le_of_ble_eq_true rfl)) rfl rfl ?_
                exact pm_R_ret pm_M189 (r := some (.int 1)) (pm_q189_2 (Nat.le_of_ble_eq_true rfl)) rfl (K1 m1689 w1690 h1691 T1692 F1696 W1707 (⟨f1708, e1709, ct1710, fun z => (sf_pos B1701 (by decide) z)⟩) (sf_aux39 _ _ _ ek1698 R1657))
              · have B1712 : sf_B 0 98 (m1497 21) := sf_ltL (Int32.not_le.mp c1663) B1650 B1659
                have B1713 : sf_B 1 99 v1658 := sf_ltR (Int32.not_le.mp c1663) B1650 B1659
                refine pm_R_lo pm_M191 (pc_q := 27) rfl rfl rfl ?_
                refine rf_R_get pm_M191 T1500 (pc_q := 30) (v := .ref 52) rfl rfl rfl rfl ?_
                refine pm_R_lo pm_M191 (pc_q := 31) rfl rfl rfl ?_
                refine pm_R_iald pm_M191 (pc_q := 32) (v := v1658) rfl e1660 (Nat.lt_of_lt_of_le (by decide) T1500.1) rfl sf_upd_eq rfl ?_
                refine pm_R_br pm_M191 (pc_q := 39) rfl rfl ?_
                refine rf_R_put pm_M191 T1500 (pc_q := 42) rfl rfl rfl (by decide) rfl rfl (sf_weak B1713 (by decide) (by decide)) rfl rfl (fun h1716 m1719 em1720 T1717 F1718 => ?_)
                have F1721 := F1649.trans F1718 (by decide)
                have B1722 : sf_B 0 600 (m1719 10) := by rw [em1720]; exact B1653
                have ek1723 : (m1719 10).toInt = ((m1497 10)).toInt := by rw [em1720]; rfl
                have B1724 : sf_B 0 4 (m1719 13) := by rw [em1720]; exact B1654
                have ek1725 : (m1719 13).toInt = ((m1497 13)).toInt := by rw [em1720]; rfl
                have B1726 : sf_B 1 4 (m1719 17) := by rw [em1720]; exact B1506
                have ek1727 : (m1719 17).toInt = ((m1497 17)).toInt := by rw [em1720]; rfl
                have B1728 : sf_B 0 0 (m1719 22) := by rw [em1720]; exact B1507
                have ek1729 : (m1719 22).toInt = ((m1497 22)).toInt := by rw [em1720]; rfl
                have B1730 : sf_B 1 99 (m1719 21) := by rw [em1720]; exact B1713
                have ek1731 : (m1719 21).toInt = (v1658).toInt := by rw [em1720]; rfl
                have W1732 : rf_W [10, 12, 13, 14, 16, 17, 18, 21, 22] m m1719 := by rw [em1720]; exact W1652.put (by decide)
                refine pm_R_lo pm_M191 (pc_q := 43) rfl rfl rfl ?_
                refine pm_R_ret pm_M191 (r := some (.int 1)) rfl rfl ?_
                show pm_R _ 189 202 [.ref 41, .long a0, pm_no, .int a1, pm_no] [.int 1] _ _
                refine pm_R_br pm_M189 (pc_q := 205) (st_q := []) (pm_q189_1 (Nat.le_of_ble_eq_true rfl)) rfl ?_
                refine pm_R_lo pm_M189 (pc_q := 206) (pm_q189_1 (Nat.le_of_ble_eq_true rfl)) rfl rfl ?_
                refine pm_R_ldc2 pm_M189 (pc_q := 209) (pm_q189_1 (Nat.le_of_ble_eq_true rfl)) rfl rfl ?_
                refine sf_R_lcmp pm_M189 (pc_q := 210) (pm_q189_1 (Nat.le_of_ble_eq_true rfl)) rfl (fun z1733 e1734 => ?_)
                have B1735 : sf_B (-2147483648) (-1) z1733 := lf_cmpLt e1734 B346 (⟨by decide, by decide⟩ : lf_B 1935767923 1935767923 1935767923) (by decide)
                refine pm_R_ifc pm_M189 (t := 226) (pc_q := 213) (pm_q189_1 (Nat.le_of_ble_eq_true rfl)) rfl rfl (fun c1736 => ?_) (fun c1736 => absurd (Classical.not_not.mp c1736) (sf_neq2 B1735 sf_k0 (by decide)))
                have k1737 := sf_lneC e1734 c1736
                refine pm_R_lo pm_M189 (pc_q := 227) (pm_q189_2 (Nat.le_of_ble_eq_true rfl)) rfl rfl ?_
                refine pm_R_op pm_M189 (pc_q := 228) (st_q := [.int 1, .ref 41]) (pm_q189_2 (Nat.le_of_ble_eq_true rfl)) rfl rfl ?_
                refine pm_R_op pm_M189 (pc_q := 229) (st_q := [.int 2, .int 1, .ref 41]) (pm_q189_2 (Nat.le_of_ble_eq_true rfl)) rfl rfl ?_
                refine pm_R_op pm_M189 (pc_q := 230) (st_q := [.int 3, .int 2, .int 1, .ref 41]) (pm_q189_2 (Nat.le_of_ble_eq_true rfl)) rfl rfl ?_
                refine pm_R_op pm_M189 (pc_q := 232) (st_q := [.int 50, .int 3, .int 2, .int 1, .ref 41]) (pm_q189_2 (Nat.le_of_ble_eq_true rfl)) rfl rfl ?_
                refine pm_R_op pm_M189 (pc_q := 233) (st_q := [.int 0, .int 50, .int 3, .int 2, .int 1, .ref 41]) (pm_q189_2 (Nat.le_of_ble_eq_true rfl)) rfl rfl ?_
                refine pm_R_cv pm_M189 (pc_q := 236) (a := 41) (ra := [.int 0, .int 50, .int 3, .int 2, .int 1]) (rest := []) (ls_q := [.ref 41, .int 1, .int 2, .int 3, .int 50, .int 0, pm_no, pm_no]) (pm_q189_2 (Nat.le_of_ble_eq_true rfl)) rfl (Or.inl rfl) pm_M185 T1717.2.1 rfl (by decide) (Nat.lt_of_lt_of_le (by decide) T1717.1) rfl rfl (Nat.le_of_ble_eq_true rfl) rfl rfl ?_
                have e1738 := (F1718.cell (by decide) (F1501.cell (by decide) (F1452.cell (by decide) (F436.cell (by decide) (F405.cell (by decide) (F397.cell (by decide) (F392.cell (by decide) (F387.cell (by decide) (F382.cell (by decide) (F361.cell (by decide) e3))))))))))
                refine rf_c185_d (d := d + 3) T1717 (⟨f2, e1738, ct4, fun z => (sf_pos B1726 (by decide) z)⟩) (fun z => sf_pos B1726 (by decide) z) (fun m1741 w1742 h1743 T1744 F1745 W1746 X1747 => ?_)
                have F1748 := F1721.trans F1745 (by decide)
                have B1749 : sf_B 0 600 (m1741 10) := by rw [W1746 10 (by decide)]; exact B1722
                have ek1750 : (m1741 10).toInt = ((m1497 10)).toInt := by rw [W1746 10 (by decide)]; exact ek1723
                have B1751 : sf_B 0 4 (m1741 13) := by rw [W1746 13 (by decide)]; exact B1724
                have ek1752 : (m1741 13).toInt = ((m1497 13)).toInt := by rw [W1746 13 (by decide)]; exact ek1725
                have B1753 : sf_B 1 4 (m1741 17) := by rw [W1746 17 (by decide)]; exact B1726
                have ek1754 : (m1741 17).toInt = ((m1497 17)).toInt := by rw [W1746 17 (by decide)]; exact ek1727
                have B1755 : sf_B 0 0 (m1741 22) := by rw [W1746 22 (by decide)]; exact B1728
                have ek1756 : (m1741 22).toInt = ((m1497 22)).toInt := by rw [W1746 22 (by decide)]; exact ek1729
                have B1757 : sf_B 1 99 (m1741 21) := by rw [W1746 21 (by decide)]; exact B1730
                have ek1758 : (m1741 21).toInt = (v1658).toInt := by rw [W1746 21 (by decide)]; exact ek1731
                have W1759 : rf_W [10, 12, 13, 14, 16, 17, 18, 21, 22] m m1741 := W1732.trans W1746 (by decide)
                show pm_R _ 189 236 [.ref 41, .long a0, pm_no, .int a1, pm_no] [] _ _
                obtain ⟨f1760, e1761, ct1762, bd1763⟩ := X1747
                refine pm_R_op pm_M189 (pc_q := 237) (st_q := [.int 1]) (pm_q189_2 (Nat.le_of_ble_eq_true rfl)) rfl rfl ?_
                exact pm_R_ret pm_M189 (r := some (.int 1)) (pm_q189_2 (Nat.le_of_ble_eq_true rfl)) rfl (K1 m1741 w1742 h1743 T1744 F1748 W1759 (⟨f1760, e1761, ct1762, fun z => (sf_pos B1753 (by decide) z)⟩) (sf_aux39 _ _ _ ek1750 R1657))
      · have B1764 : sf_B 50 50 (f2 1) := sf_eqL (Classical.not_not.mp c353) sf_k50
        refine pm_R_lo pm_M189 (pc_q := 57) rfl rfl rfl ?_
        refine pm_R_op pm_M189 (pc_q := 58) (st_q := [.int 3, .ref 41]) rfl rfl rfl ?_
        refine pm_R_lo pm_M189 (pc_q := 59) rfl rfl rfl ?_
        refine pm_R_cv pm_M189 (pc_q := 62) (a := 41) (ra := [.int a1, .int 3]) (rest := []) (ls_q := [.ref 41, .int 3, .int a1]) rfl rfl (Or.inl rfl) pm_M182 T.2.1 rfl (by decide) (Nat.lt_of_lt_of_le (by decide) T.1) rfl rfl (Nat.le_of_ble_eq_true rfl) rfl rfl ?_
        refine rf_c182 (d := d + 3) T (sf_weak sf_k3 (by decide) (by decide)) Ba1 (fun m1767 w1768 h1769 T1770 F1771 W1772 B1773 => ?_)
        have F1774 := (rf_G.refl [41, 51, 52] h).trans F1771 (by decide)
        have B1775 : sf_B 0 600 (m1767 10) := by rw [W1772 10 (by decide)]; exact B1
        have ek1776 : (m1767 10).toInt = ((m 10)).toInt := by rw [W1772 10 (by decide)]
        have W1777 : rf_W [10, 12, 13, 14, 16, 17, 18, 21, 22] m m1767 := (rf_W.refl [10, 12, 13, 14, 16, 17, 18, 21, 22] m).trans W1772 (by decide)
        have B1778 : sf_B 0 4 (m1767 13) := T1770.2.2.1 13
        have B1779 : sf_B 0 4 (m1767 17) := T1770.2.2.1 17
        have B1780 : sf_B 0 1 (m1767 22) := T1770.2.2.1 22
        show pm_R _ 189 62 [.ref 41, .long a0, pm_no, .int a1, pm_no] [] _ _
        refine pm_R_lo pm_M189 (pc_q := 63) rfl rfl rfl ?_
        refine pm_R_cv pm_M189 (pc_q := 66) (a := 41) (ra := []) (rest := []) (ls_q := [.ref 41, pm_no, pm_no]) rfl rfl (Or.inl rfl) pm_M179 T1770.2.1 rfl (by decide) (Nat.lt_of_lt_of_le (by decide) T1770.1) rfl rfl (Nat.le_of_ble_eq_true rfl) rfl rfl ?_
        refine rf_c179 (d := d + 2) T1770  (fun m1783 w1784 h1785 T1786 F1787 W1788 X1789 X1790 => ?_)
        have F1791 := F1774.trans F1787 (by decide)
        have B1792 : sf_B 1 4 (m1783 17) := by rw [W1788 17 (by decide)]; exact B1773
        have ek1793 : (m1783 17).toInt = ((m1767 17)).toInt := by rw [W1788 17 (by decide)]
        have B1794 : sf_B 0 1 (m1783 22) := by rw [W1788 22 (by decide)]; exact B1780
        have ek1795 : (m1783 22).toInt = ((m1767 22)).toInt := by rw [W1788 22 (by decide)]
        have W1796 : rf_W [10, 12, 13, 14, 16, 17, 18, 21, 22] m m1783 := W1777.trans W1788 (by decide)
        have B1797 : sf_B 0 600 (m1783 10) := T1786.2.2.1 10
        have B1798 : sf_B 0 4 (m1783 13) := T1786.2.2.1 13
        show pm_R _ 189 66 [.ref 41, .long a0, pm_no, .int a1, pm_no] [] _ _
        have R1799 : (m 10).toInt ≤ (m1783 10).toInt := (sf_aux53 _ _ _ ek1776 X1789)
        refine pm_R_lo pm_M189 (pc_q := 67) rfl rfl rfl ?_
        refine pm_R_ldc2 pm_M189 (pc_q := 70) rfl rfl rfl ?_
        refine pm_R_op pm_M189 (pc_q := 71) (st_q := [.int z7]) rfl (by show some (Value.int (lg_cmp a0 495622124659) :: _) = _; rw [← e8]) rfl ?_
        refine pm_R_ifc pm_M189 (t := 137) (pc_q := 74) rfl rfl rfl (fun c1802 => ?_) (fun c1802 => absurd (Classical.not_not.mp c1802) c9)
        have k1803 := sf_lneC e8 c1802
        refine pm_R_lo pm_M189 (pc_q := 138) (pm_q189_1 (Nat.le_of_ble_eq_true rfl)) rfl rfl ?_
        refine pm_R_cv pm_M189 (pc_q := 141) (a := 41) (ra := []) (rest := []) (ls_q := [.ref 41, pm_no]) (pm_q189_1 (Nat.le_of_ble_eq_true rfl)) rfl (Or.inl rfl) pm_M190 T1786.2.1 rfl (by decide) (Nat.lt_of_lt_of_le (by decide) T1786.1) rfl rfl (Nat.le_of_ble_eq_true rfl) rfl rfl ?_
        refine pm_R_op pm_M190 (pc_q := 1) (st_q := [.int 0]) rfl rfl rfl ?_
        refine pm_R_lo pm_M190 (pc_q := 2) (ls_q := [.ref 41, .int 0]) (st_q := []) rfl rfl rfl ?_
        refine pm_R_lo pm_M190 (pc_q := 3) rfl rfl rfl ?_
        refine pm_R_op pm_M190 (pc_q := 4) (st_q := [.int 4, .int 0]) rfl rfl rfl ?_
        refine pm_R_br pm_M190 (pc_q := 7) (st_q := []) rfl rfl ?_
        refine pm_R_lo pm_M190 (pc_q := 8) rfl rfl rfl ?_
        refine rf_R_get pm_M190 T1786 (pc_q := 11) (v := .ref 52) rfl rfl rfl rfl ?_
        refine pm_R_lo pm_M190 (pc_q := 12) rfl rfl rfl ?_
        refine pm_R_op pm_M190 (pc_q := 13) (st_q := [.int (-1), .int 0, .ref 52]) rfl rfl rfl ?_
        obtain ⟨f1804, e1805, b1806⟩ := T1786.2.2.2.1 52 (by decide) (by decide)
        refine rf_R_ist pm_M190 T1786 (pc_q := 14) rfl e1805 (by decide) (by decide) rfl ⟨_, rfl, sf_upd b1806 (sf_weak sf_kn1 (by decide) (by decide)) _⟩ rfl (fun h1807 T1808 F1809 e1810 => ?_)
        have F1811 := F1791.trans F1809 (by decide)
        refine pm_R_lo pm_M190 (pc_q := 17) (ls_q := [.ref 41, .int 1]) (st_q := []) rfl rfl rfl ?_
        refine pm_R_br pm_M190 (pc_q := 2) rfl rfl ?_
        refine pm_R_lo pm_M190 (pc_q := 3) rfl rfl rfl ?_
        refine pm_R_op pm_M190 (pc_q := 4) (st_q := [.int 4, .int 1]) rfl rfl rfl ?_
        refine pm_R_br pm_M190 (pc_q := 7) (st_q := []) rfl rfl ?_
        refine pm_R_lo pm_M190 (pc_q := 8) rfl rfl rfl ?_
        refine rf_R_get pm_M190 T1808 (pc_q := 11) (v := .ref 52) rfl rfl rfl rfl ?_
        refine pm_R_lo pm_M190 (pc_q := 12) rfl rfl rfl ?_
        refine pm_R_op pm_M190 (pc_q := 13) (st_q := [.int (-1), .int 1, .ref 52]) rfl rfl rfl ?_
        refine rf_R_ist pm_M190 T1808 (pc_q := 14) rfl e1810 (by decide) (by decide) rfl ⟨_, rfl, sf_upd (sf_upd b1806 (sf_weak sf_kn1 (by decide) (by decide)) _) (sf_weak sf_kn1 (by decide) (by decide)) _⟩ rfl (fun h1812 T1813 F1814 e1815 => ?_)
        have F1816 := F1811.trans F1814 (by decide)
        refine pm_R_lo pm_M190 (pc_q := 17) (ls_q := [.ref 41, .int 2]) (st_q := []) rfl rfl rfl ?_
        refine pm_R_br pm_M190 (pc_q := 2) rfl rfl ?_
        refine pm_R_lo pm_M190 (pc_q := 3) rfl rfl rfl ?_
        refine pm_R_op pm_M190 (pc_q := 4) (st_q := [.int 4, .int 2]) rfl rfl rfl ?_
        refine pm_R_br pm_M190 (pc_q := 7) (st_q := []) rfl rfl ?_
        refine pm_R_lo pm_M190 (pc_q := 8) rfl rfl rfl ?_
        refine rf_R_get pm_M190 T1813 (pc_q := 11) (v := .ref 52) rfl rfl rfl rfl ?_
        refine pm_R_lo pm_M190 (pc_q := 12) rfl rfl rfl ?_
        refine pm_R_op pm_M190 (pc_q := 13) (st_q := [.int (-1), .int 2, .ref 52]) rfl rfl rfl ?_
        refine rf_R_ist pm_M190 T1813 (pc_q := 14) rfl e1815 (by decide) (by decide) rfl ⟨_, rfl, sf_upd (sf_upd (sf_upd b1806 (sf_weak sf_kn1 (by decide) (by decide)) _) (sf_weak sf_kn1 (by decide) (by decide)) _) (sf_weak sf_kn1 (by decide) (by decide)) _⟩ rfl (fun h1817 T1818 F1819 e1820 => ?_)
        have F1821 := F1816.trans F1819 (by decide)
        refine pm_R_lo pm_M190 (pc_q := 17) (ls_q := [.ref 41, .int 3]) (st_q := []) rfl rfl rfl ?_
        refine pm_R_br pm_M190 (pc_q := 2) rfl rfl ?_
        refine pm_R_lo pm_M190 (pc_q := 3) rfl rfl rfl ?_
        refine pm_R_op pm_M190 (pc_q := 4) (st_q := [.int 4, .int 3]) rfl rfl rfl ?_
        refine pm_R_br pm_M190 (pc_q := 7) (st_q := []) rfl rfl ?_
        refine pm_R_lo pm_M190 (pc_q := 8) rfl rfl rfl ?_
        refine rf_R_get pm_M190 T1818 (pc_q := 11) (v := .ref 52) rfl rfl rfl rfl ?_
        refine pm_R_lo pm_M190 (pc_q := 12) rfl rfl rfl ?_
        refine pm_R_op pm_M190 (pc_q := 13) (st_q := [.int (-1), .int 3, .ref 52]) rfl rfl rfl ?_
        refine rf_R_ist pm_M190 T1818 (pc_q := 14) rfl e1820 (by decide) (by decide) rfl ⟨_, rfl, sf_upd (sf_upd (sf_upd (sf_upd b1806 (sf_weak sf_kn1 (by decide) (by decide)) _) (sf_weak sf_kn1 (by decide) (by decide)) _) (sf_weak sf_kn1 (by decide) (by decide)) _) (sf_weak sf_kn1 (by decide) (by decide)) _⟩ rfl (fun h1822 T1823 F1824 e1825 => ?_)
        have F1826 := F1821.trans F1824 (by decide)
        refine pm_R_lo pm_M190 (pc_q := 17) (ls_q := [.ref 41, .int 4]) (st_q := []) rfl rfl rfl ?_
        refine pm_R_br pm_M190 (pc_q := 2) rfl rfl ?_
        refine pm_R_lo pm_M190 (pc_q := 3) rfl rfl rfl ?_
        refine pm_R_op pm_M190 (pc_q := 4) (st_q := [.int 4, .int 4]) rfl rfl rfl ?_
        refine pm_R_br pm_M190 (pc_q := 20) (st_q := []) rfl rfl ?_
        refine pm_R_ret pm_M190 (r := none) rfl rfl ?_
        show pm_R _ 189 141 [.ref 41, .long a0, pm_no, .int a1, pm_no] [] _ _
        refine pm_R_lo pm_M189 (pc_q := 142) (pm_q189_1 (Nat.le_of_ble_eq_true rfl)) rfl rfl ?_
        refine rf_R_get pm_M189 T1823 (pc_q := 145) (v := .ref 52) (pm_q189_1 (Nat.le_of_ble_eq_true rfl)) rfl rfl rfl ?_
        refine pm_R_op pm_M189 (pc_q := 146) (st_q := [.int 0, .ref 52]) (pm_q189_1 (Nat.le_of_ble_eq_true rfl)) rfl rfl ?_
        refine pm_R_lo pm_M189 (pc_q := 147) (pm_q189_1 (Nat.le_of_ble_eq_true rfl)) rfl rfl ?_
        refine pm_R_ldc2 pm_M189 (pc_q := 150) (pm_q189_1 (Nat.le_of_ble_eq_true rfl)) rfl rfl ?_
        refine pm_R_op pm_M189 (pc_q := 151) (st_q := [.int z342, .int 0, .ref 52]) (pm_q189_1 (Nat.le_of_ble_eq_true rfl)) (by show some (Value.int (lg_cmp a0 1819242347) :: _) = _; rw [← e343]) rfl ?_
        refine pm_R_ifc pm_M189 (t := 158) (pc_q := 154) (pm_q189_1 (Nat.le_of_ble_eq_true rfl)) rfl rfl (fun c1829 => absurd (sf_pt2 B345 sf_k0) c1829) (fun c1829 => ?_)
        refine pm_R_op pm_M189 (pc_q := 155) (st_q := [.int 0, .int 0, .ref 52]) (pm_q189_1 (Nat.le_of_ble_eq_true rfl)) rfl rfl ?_
        refine pm_R_br pm_M189 (pc_q := 171) (pm_q189_1 (Nat.le_of_ble_eq_true rfl)) rfl ?_
        refine rf_R_ist pm_M189 T1823 (pc_q := 172) (pm_q189_1 (Nat.le_of_ble_eq_true rfl)) e1825 (by decide) (by decide) rfl ⟨_, rfl, sf_upd (sf_upd (sf_upd (sf_upd (sf_upd b1806 (sf_weak sf_kn1 (by decide) (by decide)) _) (sf_weak sf_kn1 (by decide) (by decide)) _) (sf_weak sf_kn1 (by decide) (by decide)) _) (sf_weak sf_kn1 (by decide) (by decide)) _) (sf_weak sf_k0 (by decide) (by decide)) _⟩ rfl (fun h1830 T1831 F1832 e1833 => ?_)
        have F1834 := F1826.trans F1832 (by decide)
        refine pm_R_lo pm_M189 (pc_q := 173) (pm_q189_1 (Nat.le_of_ble_eq_true rfl)) rfl rfl ?_
        refine pm_R_op pm_M189 (pc_q := 174) (st_q := [.int 1, .ref 41]) (pm_q189_1 (Nat.le_of_ble_eq_true rfl)) rfl rfl ?_
        refine pm_R_op pm_M189 (pc_q := 175) (st_q := [.int (-1), .int 1, .ref 41]) (pm_q189_1 (Nat.le_of_ble_eq_true rfl)) rfl rfl ?_
        refine pm_R_cv pm_M189 (pc_q := 178) (a := 41) (ra := [.int (-1), .int 1]) (rest := []) (ls_q := [.ref 41, .int 1, .int (-1), pm_no]) (pm_q189_1 (Nat.le_of_ble_eq_true rfl)) rfl (Or.inl rfl) pm_M191 T1831.2.1 rfl (by decide) (Nat.lt_of_lt_of_le (by decide) T1831.1) rfl rfl (Nat.le_of_ble_eq_true rfl) rfl rfl ?_
        refine pm_R_lo pm_M191 (pc_q := 1) rfl rfl rfl ?_
        refine pm_R_lo pm_M191 (pc_q := 2) rfl rfl rfl ?_
        refine pm_R_op pm_M191 (pc_q := 3) (st_q := [.int 5, .int 1, .ref 41]) rfl rfl rfl ?_
        refine pm_R_lo pm_M191 (pc_q := 4) rfl rfl rfl ?_
        refine pm_R_cv pm_M191 (pc_q := 7) (a := 41) (ra := [.int (-1), .int 5, .int 1]) (rest := []) (ls_q := [.ref 41, .int 1, .int 5, .int (-1)]) rfl rfl (Or.inl rfl) pm_M183 T1831.2.1 rfl (by decide) (Nat.lt_of_lt_of_le (by decide) T1831.1) rfl rfl (Nat.le_of_ble_eq_true rfl) rfl rfl ?_
        refine rf_c183_1_5 (d := d + 0) T1831  (fun m1837 w1838 h1839 T1840 F1841 W1842 X1843 => ?_) (fun m1846 w1847 h1848 T1849 F1850 W1851 X1852 X1853 X1854 X1855 X1856 => ?_) (fun m1859 w1860 h1861 T1862 F1863 W1864 X1865 X1866 X1867 B1868 B1869 => ?_)
        · have F1870 := F1834.trans F1841 (by decide)
          have W1871 : rf_W [10, 12, 13, 14, 16, 17, 18, 21, 22] m m1837 := W1796.trans W1842 (by decide)
          have B1872 : sf_B 0 600 (m1837 10) := T1840.2.2.1 10
          have B1873 : sf_B 0 4 (m1837 13) := T1840.2.2.1 13
          have B1874 : sf_B 0 4 (m1837 17) := T1840.2.2.1 17
          have B1875 : sf_B 0 1 (m1837 22) := T1840.2.2.1 22
          show pm_R _ 191 7 [.ref 41, .int 1, .int (-1), pm_no] [.int 0] _ _
          have R1876 : (m 10).toInt ≤ (m1837 10).toInt := (sf_aux70 _ _ _ R1799 X1843)
          refine pm_R_lo pm_M191 (pc_q := 8) (ls_q := [.ref 41, .int 1, .int (-1), .int 0]) (st_q := []) rfl rfl rfl ?_
          refine pm_R_lo pm_M191 (pc_q := 9) rfl rfl rfl ?_
          refine pm_R_lo pm_M191 (pc_q := 10) rfl rfl rfl ?_
          refine pm_R_br pm_M191 (pc_q := 35) (st_q := [.ref 41]) rfl rfl ?_
          refine pm_R_lo pm_M191 (pc_q := 36) rfl rfl rfl ?_
          have B1877 : sf_B (-1) 99 (m1837 21) := T1840.2.2.1 21
          refine rf_R_get pm_M191 T1840 (pc_q := 39) (v := .int (m1837 21)) rfl rfl rfl rfl ?_
          refine rf_R_put pm_M191 T1840 (pc_q := 42) rfl rfl rfl (by decide) rfl rfl B1877 rfl rfl (fun h1878 m1881 em1882 T1879 F1880 => ?_)
          have F1883 := F1870.trans F1880 (by decide)
          have B1884 : sf_B 0 600 (m1881 10) := by rw [em1882]; exact B1872
          have ek1885 : (m1881 10).toInt = ((m1837 10)).toInt := by rw [em1882]; rfl
          have B1886 : sf_B 0 4 (m1881 13) := by rw [em1882]; exact B1873
          have ek1887 : (m1881 13).toInt = ((m1837 13)).toInt := by rw [em1882]; rfl
          have B1888 : sf_B 0 4 (m1881 17) := by rw [em1882]; exact B1874
          have ek1889 : (m1881 17).toInt = ((m1837 17)).toInt := by rw [em1882]; rfl
          have B1890 : sf_B 0 1 (m1881 22) := by rw [em1882]; exact B1875
          have ek1891 : (m1881 22).toInt = ((m1837 22)).toInt := by rw [em1882]; rfl
          have B1892 : sf_B (-1) 99 (m1881 21) := by rw [em1882]; exact B1877
          have ek1893 : (m1881 21).toInt = ((m1837 21)).toInt := by rw [em1882]; rfl
          have W1894 : rf_W [10, 12, 13, 14, 16, 17, 18, 21, 22] m m1881 := by rw [em1882]; exact W1871.put (by decide)
          refine pm_R_lo pm_M191 (pc_q := 43) rfl rfl rfl ?_
          refine pm_R_ret pm_M191 (r := some (.int 0)) rfl rfl ?_
          show pm_R _ 189 178 [.ref 41, .long a0, pm_no, .int a1, pm_no] [.int 0] _ _
          refine pm_R_br pm_M189 (pc_q := 181) (st_q := []) (pm_q189_1 (Nat.le_of_ble_eq_true rfl)) rfl ?_
          refine pm_R_op pm_M189 (pc_q := 182) (st_q := [.int 0]) (pm_q189_1 (Nat.le_of_ble_eq_true rfl)) rfl rfl ?_
          exact pm_R_ret pm_M189 (r := some (.int 0)) (pm_q189_1 (Nat.le_of_ble_eq_true rfl)) rfl (K0 m1881 w1838 h1878 T1879 F1883 W1894 (sf_aux39 _ _ _ ek1885 R1876))
        · have F1895 := F1834.trans F1850 (by decide)
          have W1896 : rf_W [10, 12, 13, 14, 16, 17, 18, 21, 22] m m1846 := W1796.trans W1851 (by decide)
          have B1897 : sf_B 0 600 (m1846 10) := T1849.2.2.1 10
          have B1898 : sf_B 0 4 (m1846 13) := T1849.2.2.1 13
          have B1899 : sf_B 0 4 (m1846 17) := T1849.2.2.1 17
          have B1900 : sf_B 0 1 (m1846 22) := T1849.2.2.1 22
          show pm_R _ 191 7 [.ref 41, .int 1, .int (-1), pm_no] [.int 1] _ _
          have R1901 : (m 10).toInt ≤ (m1846 10).toInt := (sf_aux70 _ _ _ R1799 X1856)
          obtain ⟨v1902, B1903, e1904⟩ := X1852 _ e1833
          refine pm_R_lo pm_M191 (pc_q := 8) (ls_q := [.ref 41, .int 1, .int (-1), .int 1]) (st_q := []) rfl rfl rfl ?_
          refine pm_R_lo pm_M191 (pc_q := 9) rfl rfl rfl ?_
          refine pm_R_lo pm_M191 (pc_q := 10) rfl rfl rfl ?_
          refine pm_R_br pm_M191 (pc_q := 13) (st_q := [.ref 41]) rfl rfl ?_
          refine pm_R_lo pm_M191 (pc_q := 14) rfl rfl rfl ?_
          refine rf_R_get pm_M191 T1849 (pc_q := 17) (v := .ref 52) rfl rfl rfl rfl ?_
          refine pm_R_lo pm_M191 (pc_q := 18) rfl rfl rfl ?_
          refine pm_R_iald pm_M191 (pc_q := 19) (v := v1902) rfl e1904 (Nat.lt_of_lt_of_le (by decide) T1849.1) rfl sf_upd_eq rfl ?_
          refine pm_R_lo pm_M191 (pc_q := 20) rfl rfl rfl ?_
          have B1907 : sf_B (-1) 99 (m1846 21) := T1849.2.2.1 21
          refine rf_R_get pm_M191 T1849 (pc_q := 23) (v := .int (m1846 21)) rfl rfl rfl rfl ?_
          refine pm_R_icmp pm_M191 (t := 35) (pc_q := 26) rfl rfl rfl (fun c1908 => ?_) (fun c1908 => ?_)
          · have B1909 : sf_B 0 99 (m1846 21) := sf_leR c1908 B1903 B1907
            refine pm_R_lo pm_M191 (pc_q := 36) rfl rfl rfl ?_
            refine rf_R_get pm_M191 T1849 (pc_q := 39) (v := .int (m1846 21)) rfl rfl rfl rfl ?_
            refine rf_R_put pm_M191 T1849 (pc_q := 42) rfl rfl rfl (by decide) rfl rfl (sf_weak B1909 (by decide) (by decide)) rfl rfl (fun h1910 m1913 em1914 T1911 F1912 => ?_)
            have F1915 := F1895.trans F1912 (by decide)
            have B1916 : sf_B 0 600 (m1913 10) := by rw [em1914]; exact B1897
            have ek1917 : (m1913 10).toInt = ((m1846 10)).toInt := by rw [em1914]; rfl
            have B1918 : sf_B 0 4 (m1913 13) := by rw [em1914]; exact B1898
            have ek1919 : (m1913 13).toInt = ((m1846 13)).toInt := by rw [em1914]; rfl
            have B1920 : sf_B 1 4 (m1913 17) := by rw [em1914]; exact (sf_eqT X1853 B1792)
            have ek1921 : (m1913 17).toInt = ((m1783 17)).toInt := by rw [em1914]; exact X1853
            have B1922 : sf_B 0 1 (m1913 22) := by rw [em1914]; exact (sf_eqT X1854 B1794)
            have ek1923 : (m1913 22).toInt = ((m1783 22)).toInt := by rw [em1914]; exact X1854
            have B1924 : sf_B 0 99 (m1913 21) := by rw [em1914]; exact B1909
            have ek1925 : (m1913 21).toInt = ((m1846 21)).toInt := by rw [em1914]; rfl
            have W1926 : rf_W [10, 12, 13, 14, 16, 17, 18, 21, 22] m m1913 := by rw [em1914]; exact W1896.put (by decide)
            refine pm_R_lo pm_M191 (pc_q := 43) rfl rfl rfl ?_
            refine pm_R_ret pm_M191 (r := some (.int 1)) rfl rfl ?_
            show pm_R _ 189 178 [.ref 41, .long a0, pm_no, .int a1, pm_no] [.int 1] _ _
            refine pm_R_br pm_M189 (pc_q := 183) (st_q := []) (pm_q189_1 (Nat.le_of_ble_eq_true rfl)) rfl ?_
            refine pm_R_lo pm_M189 (pc_q := 184) (pm_q189_1 (Nat.le_of_ble_eq_true rfl)) rfl rfl ?_
            refine pm_R_ldc2 pm_M189 (pc_q := 187) (pm_q189_1 (Nat.le_of_ble_eq_true rfl)) rfl rfl ?_
            refine pm_R_op pm_M189 (pc_q := 188) (st_q := [.int z342]) (pm_q189_1 (Nat.le_of_ble_eq_true rfl)) (by show some (Value.int (lg_cmp a0 1819242347) :: _) = _; rw [← e343]) rfl ?_
            refine pm_R_ifc pm_M189 (t := 205) (pc_q := 191) (pm_q189_1 (Nat.le_of_ble_eq_true rfl)) rfl rfl (fun c1929 => absurd (sf_pt2 B345 sf_k0) c1929) (fun c1929 => ?_)
            refine pm_R_lo pm_M189 (pc_q := 192) (pm_q189_1 (Nat.le_of_ble_eq_true rfl)) rfl rfl ?_
            refine pm_R_op pm_M189 (pc_q := 193) (st_q := [.int 2, .ref 41]) (pm_q189_1 (Nat.le_of_ble_eq_true rfl)) rfl rfl ?_
            refine pm_R_lo pm_M189 (pc_q := 194) (pm_q189_1 (Nat.le_of_ble_eq_true rfl)) rfl rfl ?_
            refine rf_R_get pm_M189 T1911 (pc_q := 197) (v := .ref 52) (pm_q189_1 (Nat.le_of_ble_eq_true rfl)) rfl rfl rfl ?_
            refine pm_R_op pm_M189 (pc_q := 198) (st_q := [.int 1, .ref 52, .int 2, .ref 41]) (pm_q189_1 (Nat.le_of_ble_eq_true rfl)) rfl rfl ?_
            have e1930 := (F1912.cell (by decide) e1904)
            refine pm_R_iald pm_M189 (pc_q := 199) (v := v1902) (pm_q189_1 (Nat.le_of_ble_eq_true rfl)) e1930 (Nat.lt_of_lt_of_le (by decide) T1911.1) rfl sf_upd_eq rfl ?_
            refine pm_R_cv pm_M189 (pc_q := 202) (a := 41) (ra := [.int v1902, .int 2]) (rest := []) (ls_q := [.ref 41, .int 2, .int v1902, pm_no]) (pm_q189_1 (Nat.le_of_ble_eq_true rfl)) rfl (Or.inl rfl) pm_M191 T1911.2.1 rfl (by decide) (Nat.lt_of_lt_of_le (by decide) T1911.1) rfl rfl (Nat.le_of_ble_eq_true rfl) rfl rfl ?_
            refine pm_R_lo pm_M191 (pc_q := 1) rfl rfl rfl ?_
            refine pm_R_lo pm_M191 (pc_q := 2) rfl rfl rfl ?_
            refine pm_R_op pm_M191 (pc_q := 3) (st_q := [.int 5, .int 2, .ref 41]) rfl rfl rfl ?_
            refine pm_R_lo pm_M191 (pc_q := 4) rfl rfl rfl ?_
            refine pm_R_cv pm_M191 (pc_q := 7) (a := 41) (ra := [.int v1902, .int 5, .int 2]) (rest := []) (ls_q := [.ref 41, .int 2, .int 5, .int v1902]) rfl rfl (Or.inl rfl) pm_M183 T1911.2.1 rfl (by decide) (Nat.lt_of_lt_of_le (by decide) T1911.1) rfl rfl (Nat.le_of_ble_eq_true rfl) rfl rfl ?_
            refine rf_c183_2_5 (d := d + 0) T1911  (fun m1935 w1936 h1937 T1938 F1939 W1940 X1941 => ?_) (fun m1944 w1945 h1946 T1947 F1948 W1949 X1950 X1951 X1952 X1953 X1954 => ?_) (fun m1957 w1958 h1959 T1960 F1961 W1962 X1963 X1964 X1965 B1966 B1967 => ?_)
            · have F1968 := F1915.trans F1939 (by decide)
              have B1969 : sf_B 0 99 (m1935 21) := by rw [W1940 21 (by decide)]; exact B1924
              have ek1970 : (m1935 21).toInt = ((m1846 21)).toInt := by rw [W1940 21 (by decide)]; exact ek1925
              have W1971 : rf_W [10, 12, 13, 14, 16, 17, 18, 21, 22] m m1935 := W1926.trans W1940 (by decide)
              have B1972 : sf_B 0 600 (m1935 10) := T1938.2.2.1 10
              have B1973 : sf_B 0 4 (m1935 13) := T1938.2.2.1 13
              have B1974 : sf_B 0 4 (m1935 17) := T1938.2.2.1 17
              have B1975 : sf_B 0 1 (m1935 22) := T1938.2.2.1 22
              show pm_R _ 191 7 [.ref 41, .int 2, .int v1902, pm_no] [.int 0] _ _
              have R1976 : (m 10).toInt ≤ (m1935 10).toInt := (sf_aux76 _ _ _ _ ek1917 R1901 X1941)
              refine pm_R_lo pm_M191 (pc_q := 8) (ls_q := [.ref 41, .int 2, .int v1902, .int 0]) (st_q := []) rfl rfl rfl ?_
              refine pm_R_lo pm_M191 (pc_q := 9) rfl rfl rfl ?_
              refine pm_R_lo pm_M191 (pc_q := 10) rfl rfl rfl ?_
              refine pm_R_br pm_M191 (pc_q := 35) (st_q := [.ref 41]) rfl rfl ?_
              refine pm_R_lo pm_M191 (pc_q := 36) rfl rfl rfl ?_
              refine rf_R_get pm_M191 T1938 (pc_q := 39) (v := .int (m1935 21)) rfl rfl rfl rfl ?_
              refine rf_R_put pm_M191 T1938 (pc_q := 42) rfl rfl rfl (by decide) rfl rfl (sf_weak B1969 (by decide) (by decide)) rfl rfl (fun h1977 m1980 em1981 T1978 F1979 => ?_)
              have F1982 := F1968.trans F1979 (by decide)
              have B1983 : sf_B 0 600 (m1980 10) := by rw [em1981]; exact B1972
              have ek1984 : (m1980 10).toInt = ((m1935 10)).toInt := by rw [em1981]; rfl
              have B1985 : sf_B 0 4 (m1980 13) := by rw [em1981]; exact B1973
              have ek1986 : (m1980 13).toInt = ((m1935 13)).toInt := by rw [em1981]; rfl
              have B1987 : sf_B 0 4 (m1980 17) := by rw [em1981]; exact B1974
              have ek1988 : (m1980 17).toInt = ((m1935 17)).toInt := by rw [em1981]; rfl
              have B1989 : sf_B 0 1 (m1980 22) := by rw [em1981]; exact B1975
              have ek1990 : (m1980 22).toInt = ((m1935 22)).toInt := by rw [em1981]; rfl
              have B1991 : sf_B 0 99 (m1980 21) := by rw [em1981]; exact B1969
              have ek1992 : (m1980 21).toInt = ((m1935 21)).toInt := by rw [em1981]; rfl
              have W1993 : rf_W [10, 12, 13, 14, 16, 17, 18, 21, 22] m m1980 := by rw [em1981]; exact W1971.put (by decide)
              refine pm_R_lo pm_M191 (pc_q := 43) rfl rfl rfl ?_
              refine pm_R_ret pm_M191 (r := some (.int 0)) rfl rfl ?_
              show pm_R _ 189 202 [.ref 41, .long a0, pm_no, .int a1, pm_no] [.int 0] _ _
              refine pm_R_br pm_M189 (pc_q := 224) (st_q := []) (pm_q189_1 (Nat.le_of_ble_eq_true rfl)) rfl ?_
              refine pm_R_op pm_M189 (pc_q := 225) (st_q := [.int 0]) (pm_q189_2 (Nat.le_of_ble_eq_true rfl)) rfl rfl ?_
              exact pm_R_ret pm_M189 (r := some (.int 0)) (pm_q189_2 (Nat.le_of_ble_eq_true rfl)) rfl (K0 m1980 w1936 h1977 T1978 F1982 W1993 (sf_aux39 _ _ _ ek1984 R1976))
            · have F1994 := F1915.trans F1948 (by decide)
              have B1995 : sf_B 0 99 (m1944 21) := by rw [W1949 21 (by decide)]; exact B1924
              have ek1996 : (m1944 21).toInt = ((m1846 21)).toInt := by rw [W1949 21 (by decide)]; exact ek1925
              have W1997 : rf_W [10, 12, 13, 14, 16, 17, 18, 21, 22] m m1944 := W1926.trans W1949 (by decide)
              have B1998 : sf_B 0 600 (m1944 10) := T1947.2.2.1 10
              have B1999 : sf_B 0 4 (m1944 13) := T1947.2.2.1 13
              have B2000 : sf_B 0 4 (m1944 17) := T1947.2.2.1 17
              have B2001 : sf_B 0 1 (m1944 22) := T1947.2.2.1 22
              show pm_R _ 191 7 [.ref 41, .int 2, .int v1902, pm_no] [.int 1] _ _
              have R2002 : (m 10).toInt ≤ (m1944 10).toInt := (sf_aux76 _ _ _ _ ek1917 R1901 X1954)
              obtain ⟨v2003, B2004, e2005⟩ := X1950 _ e1930
              refine pm_R_lo pm_M191 (pc_q := 8) (ls_q := [.ref 41, .int 2, .int v1902, .int 1]) (st_q := []) rfl rfl rfl ?_
              refine pm_R_lo pm_M191 (pc_q := 9) rfl rfl rfl ?_
              refine pm_R_lo pm_M191 (pc_q := 10) rfl rfl rfl ?_
              refine pm_R_br pm_M191 (pc_q := 13) (st_q := [.ref 41]) rfl rfl ?_
              refine pm_R_lo pm_M191 (pc_q := 14) rfl rfl rfl ?_
              refine rf_R_get pm_M191 T1947 (pc_q := 17) (v := .ref 52) rfl rfl rfl rfl ?_
              refine pm_R_lo pm_M191 (pc_q := 18) rfl rfl rfl ?_
              refine pm_R_iald pm_M191 (pc_q := 19) (v := v2003) rfl e2005 (Nat.lt_of_lt_of_le (by decide) T1947.1) rfl sf_upd_eq rfl ?_
              refine pm_R_lo pm_M191 (pc_q := 20) rfl rfl rfl ?_
              refine rf_R_get pm_M191 T1947 (pc_q := 23) (v := .int (m1944 21)) rfl rfl rfl rfl ?_
              refine pm_R_icmp pm_M191 (t := 35) (pc_q := 26) rfl rfl rfl (fun c2008 => ?_) (fun c2008 => ?_)
              · skip
                refine pm_R_lo pm_M191 (pc_q := 36) rfl rfl rfl ?_
                refine rf_R_get pm_M191 T1947 (pc_q := 39) (v := .int (m1944 21)) rfl rfl rfl rfl ?_
                refine rf_R_put pm_M191 T1947 (pc_q := 42) rfl rfl rfl (by decide) rfl rfl (sf_weak B1995 (by decide) (by decide)) rfl rfl (fun h2009 m2012 em2013 T2010 F2011 => ?_)
                have F2014 := F1994.trans F2011 (by decide)
                have B2015 : sf_B 0 600 (m2012 10) := by rw [em2013]; exact B1998
                have ek2016 : (m2012 10).toInt = ((m1944 10)).toInt := by rw [em2013]; rfl
                have B2017 : sf_B 0 4 (m2012 13) := by rw [em2013]; exact B1999
                have ek2018 : (m2012 13).toInt = ((m1944 13)).toInt := by rw [em2013]; rfl
                have B2019 : sf_B 1 4 (m2012 17) := by rw [em2013]; exact (sf_eqT X1951 B1920)
                have ek2020 : (m2012 17).toInt = ((m1913 17)).toInt := by rw [em2013]; exact X1951
                have B2021 : sf_B 0 1 (m2012 22) := by rw [em2013]; exact (sf_eqT X1952 B1922)
                have ek2022 : (m2012 22).toInt = ((m1913 22)).toInt := by rw [em2013]; exact X1952
                have B2023 : sf_B 0 99 (m2012 21) := by rw [em2013]; exact B1995
                have ek2024 : (m2012 21).toInt = ((m1944 21)).toInt := by rw [em2013]; rfl
                have W2025 : rf_W [10, 12, 13, 14, 16, 17, 18, 21, 22] m m2012 := by rw [em2013]; exact W1997.put (by decide)
                refine pm_R_lo pm_M191 (pc_q := 43) rfl rfl rfl ?_
                refine pm_R_ret pm_M191 (r := some (.int 1)) rfl rfl ?_
                show pm_R _ 189 202 [.ref 41, .long a0, pm_no, .int a1, pm_no] [.int 1] _ _
                refine pm_R_br pm_M189 (pc_q := 205) (st_q := []) (pm_q189_1 (Nat.le_of_ble_eq_true rfl)) rfl ?_
                refine pm_R_lo pm_M189 (pc_q := 206) (pm_q189_1 (Nat.le_of_ble_eq_true rfl)) rfl rfl ?_
                refine pm_R_ldc2 pm_M189 (pc_q := 209) (pm_q189_1 (Nat.le_of_ble_eq_true rfl)) rfl rfl ?_
                refine sf_R_lcmp pm_M189 (pc_q := 210) (pm_q189_1 (Nat.le_of_ble_eq_true rfl)) rfl (fun z2026 e2027 => ?_)
                have B2028 : sf_B (-2147483648) (-1) z2026 := lf_cmpLt e2027 B346 (⟨by decide, by decide⟩ : lf_B 1935767923 1935767923 1935767923) (by decide)
                refine pm_R_ifc pm_M189 (t := 226) (pc_q := 213) (pm_q189_1 (Nat.le_of_ble_eq_true rfl)) rfl rfl (fun c2029 => ?_) (fun c2029 => absurd (Classical.not_not.mp c2029) (sf_neq2 B2028 sf_k0 (by decide)))
                have k2030 := sf_lneC e2027 c2029
                refine pm_R_lo pm_M189 (pc_q := 227) (pm_q189_2 (Nat.le_of_ble_eq_true rfl)) rfl rfl ?_
                refine pm_R_op pm_M189 (pc_q := 228) (st_q := [.int 1, .ref 41]) (pm_q189_2 (Nat.le_of_ble_eq_true rfl)) rfl rfl ?_
                refine pm_R_op pm_M189 (pc_q := 229) (st_q := [.int 2, .int 1, .ref 41]) (pm_q189_2 (Nat.le_of_ble_eq_true rfl)) rfl rfl ?_
                refine pm_R_op pm_M189 (pc_q := 230) (st_q := [.int 3, .int 2, .int 1, .ref 41]) (pm_q189_2 (Nat.le_of_ble_eq_true rfl)) rfl rfl ?_
                refine pm_R_op pm_M189 (pc_q := 232) (st_q := [.int 50, .int 3, .int 2, .int 1, .ref 41]) (pm_q189_2 (Nat.le_of_ble_eq_true rfl)) rfl rfl ?_
                refine pm_R_op pm_M189 (pc_q := 233) (st_q := [.int 0, .int 50, .int 3, .int 2, .int 1, .ref 41]) (pm_q189_2 (Nat.le_of_ble_eq_true rfl)) rfl rfl ?_
                refine pm_R_cv pm_M189 (pc_q := 236) (a := 41) (ra := [.int 0, .int 50, .int 3, .int 2, .int 1]) (rest := []) (ls_q := [.ref 41, .int 1, .int 2, .int 3, .int 50, .int 0, pm_no, pm_no]) (pm_q189_2 (Nat.le_of_ble_eq_true rfl)) rfl (Or.inl rfl) pm_M185 T2010.2.1 rfl (by decide) (Nat.lt_of_lt_of_le (by decide) T2010.1) rfl rfl (Nat.le_of_ble_eq_true rfl) rfl rfl ?_
                have e2031 := (F2011.cell (by decide) (F1948.cell (by decide) (F1912.cell (by decide) (F1850.cell (by decide) (F1832.cell (by decide) (F1824.cell (by decide) (F1819.cell (by decide) (F1814.cell (by decide) (F1809.cell (by decide) (F1787.cell (by decide) (F1771.cell (by decide) e3)))))))))))
                refine rf_c185_d (d := d + 3) T2010 (⟨f2, e2031, ct4, fun z => (sf_pos B2019 (by decide) z)⟩) (fun z => sf_pos B2019 (by decide) z) (fun m2034 w2035 h2036 T2037 F2038 W2039 X2040 => ?_)
                have F2041 := F2014.trans F2038 (by decide)
                have B2042 : sf_B 0 600 (m2034 10) := by rw [W2039 10 (by decide)]; exact B2015
                have ek2043 : (m2034 10).toInt = ((m1944 10)).toInt := by rw [W2039 10 (by decide)]; exact ek2016
                have B2044 : sf_B 0 4 (m2034 13) := by rw [W2039 13 (by decide)]; exact B2017
                have ek2045 : (m2034 13).toInt = ((m1944 13)).toInt := by rw [W2039 13 (by decide)]; exact ek2018
                have B2046 : sf_B 1 4 (m2034 17) := by rw [W2039 17 (by decide)]; exact B2019
                have ek2047 : (m2034 17).toInt = ((m1913 17)).toInt := by rw [W2039 17 (by decide)]; exact ek2020
                have B2048 : sf_B 0 1 (m2034 22) := by rw [W2039 22 (by decide)]; exact B2021
                have ek2049 : (m2034 22).toInt = ((m1913 22)).toInt := by rw [W2039 22 (by decide)]; exact ek2022
                have B2050 : sf_B 0 99 (m2034 21) := by rw [W2039 21 (by decide)]; exact B2023
                have ek2051 : (m2034 21).toInt = ((m1944 21)).toInt := by rw [W2039 21 (by decide)]; exact ek2024
                have W2052 : rf_W [10, 12, 13, 14, 16, 17, 18, 21, 22] m m2034 := W2025.trans W2039 (by decide)
                show pm_R _ 189 236 [.ref 41, .long a0, pm_no, .int a1, pm_no] [] _ _
                obtain ⟨f2053, e2054, ct2055, bd2056⟩ := X2040
                refine pm_R_op pm_M189 (pc_q := 237) (st_q := [.int 1]) (pm_q189_2 (Nat.le_of_ble_eq_true rfl)) rfl rfl ?_
                exact pm_R_ret pm_M189 (r := some (.int 1)) (pm_q189_2 (Nat.le_of_ble_eq_true rfl)) rfl (K1 m2034 w2035 h2036 T2037 F2041 W2052 (⟨f2053, e2054, ct2055, fun z => (sf_pos B2046 (by decide) z)⟩) (sf_aux39 _ _ _ ek2043 R2002))
              · have B2057 : sf_B 0 4 (m1944 21) := sf_ltL (Int32.not_le.mp c2008) B1995 B2004
                have B2058 : sf_B 1 5 v2003 := sf_ltR (Int32.not_le.mp c2008) B1995 B2004
                refine pm_R_lo pm_M191 (pc_q := 27) rfl rfl rfl ?_
                refine rf_R_get pm_M191 T1947 (pc_q := 30) (v := .ref 52) rfl rfl rfl rfl ?_
                refine pm_R_lo pm_M191 (pc_q := 31) rfl rfl rfl ?_
                refine pm_R_iald pm_M191 (pc_q := 32) (v := v2003) rfl e2005 (Nat.lt_of_lt_of_le (by decide) T1947.1) rfl sf_upd_eq rfl ?_
                refine pm_R_br pm_M191 (pc_q := 39) rfl rfl ?_
                refine rf_R_put pm_M191 T1947 (pc_q := 42) rfl rfl rfl (by decide) rfl rfl (sf_weak B2058 (by decide) (by decide)) rfl rfl (fun h2061 m2064 em2065 T2062 F2063 => ?_)
                have F2066 := F1994.trans F2063 (by decide)
                have B2067 : sf_B 0 600 (m2064 10) := by rw [em2065]; exact B1998
                have ek2068 : (m2064 10).toInt = ((m1944 10)).toInt := by rw [em2065]; rfl
                have B2069 : sf_B 0 4 (m2064 13) := by rw [em2065]; exact B1999
                have ek2070 : (m2064 13).toInt = ((m1944 13)).toInt := by rw [em2065]; rfl
                have B2071 : sf_B 1 4 (m2064 17) := by rw [em2065]; exact (sf_eqT X1951 B1920)
                have ek2072 : (m2064 17).toInt = ((m1913 17)).toInt := by rw [em2065]; exact X1951
                have B2073 : sf_B 0 1 (m2064 22) := by rw [em2065]; exact (sf_eqT X1952 B1922)
                have ek2074 : (m2064 22).toInt = ((m1913 22)).toInt := by rw [em2065]; exact X1952
                have B2075 : sf_B 1 5 (m2064 21) := by rw [em2065]; exact B2058
                have ek2076 : (m2064 21).toInt = (v2003).toInt := by rw [em2065]; rfl
                have W2077 : rf_W [10, 12, 13, 14, 16, 17, 18, 21, 22] m m2064 := by rw [em2065]; exact W1997.put (by decide)
                refine pm_R_lo pm_M191 (pc_q := 43) rfl rfl rfl ?_
                refine pm_R_ret pm_M191 (r := some (.int 1)) rfl rfl ?_
                show pm_R _ 189 202 [.ref 41, .long a0, pm_no, .int a1, pm_no] [.int 1] _ _
                refine pm_R_br pm_M189 (pc_q := 205) (st_q := []) (pm_q189_1 (Nat.le_of_ble_eq_true rfl)) rfl ?_
                refine pm_R_lo pm_M189 (pc_q := 206) (pm_q189_1 (Nat.le_of_ble_eq_true rfl)) rfl rfl ?_
                refine pm_R_ldc2 pm_M189 (pc_q := 209) (pm_q189_1 (Nat.le_of_ble_eq_true rfl)) rfl rfl ?_
                refine sf_R_lcmp pm_M189 (pc_q := 210) (pm_q189_1 (Nat.le_of_ble_eq_true rfl)) rfl (fun z2078 e2079 => ?_)
                have B2080 : sf_B (-2147483648) (-1) z2078 := lf_cmpLt e2079 B346 (⟨by decide, by decide⟩ : lf_B 1935767923 1935767923 1935767923) (by decide)
                refine pm_R_ifc pm_M189 (t := 226) (pc_q := 213) (pm_q189_1 (Nat.le_of_ble_eq_true rfl)) rfl rfl (fun c2081 => ?_) (fun c2081 => absurd (Classical.not_not.mp c2081) (sf_neq2 B2080 sf_k0 (by decide)))
                have k2082 := sf_lneC e2079 c2081
                refine pm_R_lo pm_M189 (pc_q := 227) (pm_q189_2 (Nat.le_of_ble_eq_true rfl)) rfl rfl ?_
                refine pm_R_op pm_M189 (pc_q := 228) (st_q := [.int 1, .ref 41]) (pm_q189_2 (Nat.le_of_ble_eq_true rfl)) rfl rfl ?_
                refine pm_R_op pm_M189 (pc_q := 229) (st_q := [.int 2, .int 1, .ref 41]) (pm_q189_2 (Nat.le_of_ble_eq_true rfl)) rfl rfl ?_
                refine pm_R_op pm_M189 (pc_q := 230) (st_q := [.int 3, .int 2, .int 1, .ref 41]) (pm_q189_2 (Nat.le_of_ble_eq_true rfl)) rfl rfl ?_
                refine pm_R_op pm_M189 (pc_q := 232) (st_q := [.int 50, .int 3, .int 2, .int 1, .ref 41]) (pm_q189_2 (Nat.le_of_ble_eq_true rfl)) rfl rfl ?_
                refine pm_R_op pm_M189 (pc_q := 233) (st_q := [.int 0, .int 50, .int 3, .int 2, .int 1, .ref 41]) (pm_q189_2 (Nat.le_of_ble_eq_true rfl)) rfl rfl ?_
                refine pm_R_cv pm_M189 (pc_q := 236) (a := 41) (ra := [.int 0, .int 50, .int 3, .int 2, .int 1]) (rest := []) (ls_q := [.ref 41, .int 1, .int 2, .int 3, .int 50, .int 0, pm_no, pm_no]) (pm_q189_2 (Nat.le_of_ble_eq_true rfl)) rfl (Or.inl rfl) pm_M185 T2062.2.1 rfl (by decide) (Nat.lt_of_lt_of_le (by decide) T2062.1) rfl rfl (Nat.le_of_ble_eq_true rfl) rfl rfl ?_
                have e2083 := (F2063.cell (by decide) (F1948.cell (by decide) (F1912.cell (by decide) (F1850.cell (by decide) (F1832.cell (by decide) (F1824.cell (by decide) (F1819.cell (by decide) (F1814.cell (by decide) (F1809.cell (by decide) (F1787.cell (by decide) (F1771.cell (by decide) e3)))))))))))
                refine rf_c185_d (d := d + 3) T2062 (⟨f2, e2083, ct4, fun z => (sf_pos B2071 (by decide) z)⟩) (fun z => sf_pos B2071 (by decide) z) (fun m2086 w2087 h2088 T2089 F2090 W2091 X2092 => ?_)
                have F2093 := F2066.trans F2090 (by decide)
                have B2094 : sf_B 0 600 (m2086 10) := by rw [W2091 10 (by decide)]; exact B2067
                have ek2095 : (m2086 10).toInt = ((m1944 10)).toInt := by rw [W2091 10 (by decide)]; exact ek2068
                have B2096 : sf_B 0 4 (m2086 13) := by rw [W2091 13 (by decide)]; exact B2069
                have ek2097 : (m2086 13).toInt = ((m1944 13)).toInt := by rw [W2091 13 (by decide)]; exact ek2070
                have B2098 : sf_B 1 4 (m2086 17) := by rw [W2091 17 (by decide)]; exact B2071
                have ek2099 : (m2086 17).toInt = ((m1913 17)).toInt := by rw [W2091 17 (by decide)]; exact ek2072
                have B2100 : sf_B 0 1 (m2086 22) := by rw [W2091 22 (by decide)]; exact B2073
                have ek2101 : (m2086 22).toInt = ((m1913 22)).toInt := by rw [W2091 22 (by decide)]; exact ek2074
                have B2102 : sf_B 1 5 (m2086 21) := by rw [W2091 21 (by decide)]; exact B2075
                have ek2103 : (m2086 21).toInt = (v2003).toInt := by rw [W2091 21 (by decide)]; exact ek2076
                have W2104 : rf_W [10, 12, 13, 14, 16, 17, 18, 21, 22] m m2086 := W2077.trans W2091 (by decide)
                show pm_R _ 189 236 [.ref 41, .long a0, pm_no, .int a1, pm_no] [] _ _
                obtain ⟨f2105, e2106, ct2107, bd2108⟩ := X2092
                refine pm_R_op pm_M189 (pc_q := 237) (st_q := [.int 1]) (pm_q189_2 (Nat.le_of_ble_eq_true rfl)) rfl rfl ?_
                exact pm_R_ret pm_M189 (r := some (.int 1)) (pm_q189_2 (Nat.le_of_ble_eq_true rfl)) rfl (K1 m2086 w2087 h2088 T2089 F2093 W2104 (⟨f2105, e2106, ct2107, fun z => (sf_pos B2098 (by decide) z)⟩) (sf_aux39 _ _ _ ek2095 R2002))
            · have F2109 := F1915.trans F1961 (by decide)
              have B2110 : sf_B 0 99 (m1957 21) := by rw [W1962 21 (by decide)]; exact B1924
              have ek2111 : (m1957 21).toInt = ((m1846 21)).toInt := by rw [W1962 21 (by decide)]; exact ek1925
              have W2112 : rf_W [10, 12, 13, 14, 16, 17, 18, 21, 22] m m1957 := W1926.trans W1962 (by decide)
              have B2113 : sf_B 0 600 (m1957 10) := T1960.2.2.1 10
              have B2114 : sf_B 0 4 (m1957 13) := T1960.2.2.1 13
              have B2115 : sf_B 0 4 (m1957 17) := T1960.2.2.1 17
              have B2116 : sf_B 0 1 (m1957 22) := T1960.2.2.1 22
              show pm_R _ 191 7 [.ref 41, .int 2, .int v1902, pm_no] [.int 1] _ _
              have R2117 : (m 10).toInt ≤ (m1957 10).toInt := (sf_aux76 _ _ _ _ ek1917 R1901 X1965)
              obtain ⟨v2118, B2119, e2120⟩ := X1963 _ e1930
              refine pm_R_lo pm_M191 (pc_q := 8) (ls_q := [.ref 41, .int 2, .int v1902, .int 1]) (st_q := []) rfl rfl rfl ?_
              refine pm_R_lo pm_M191 (pc_q := 9) rfl rfl rfl ?_
              refine pm_R_lo pm_M191 (pc_q := 10) rfl rfl rfl ?_
              refine pm_R_br pm_M191 (pc_q := 13) (st_q := [.ref 41]) rfl rfl ?_
              refine pm_R_lo pm_M191 (pc_q := 14) rfl rfl rfl ?_
              refine rf_R_get pm_M191 T1960 (pc_q := 17) (v := .ref 52) rfl rfl rfl rfl ?_
              refine pm_R_lo pm_M191 (pc_q := 18) rfl rfl rfl ?_
              refine pm_R_iald pm_M191 (pc_q := 19) (v := v2118) rfl e2120 (Nat.lt_of_lt_of_le (by decide) T1960.1) rfl sf_upd_eq rfl ?_
              refine pm_R_lo pm_M191 (pc_q := 20) rfl rfl rfl ?_
              refine rf_R_get pm_M191 T1960 (pc_q := 23) (v := .int (m1957 21)) rfl rfl rfl rfl ?_
              refine pm_R_icmp pm_M191 (t := 35) (pc_q := 26) rfl rfl rfl (fun c2123 => ?_) (fun c2123 => ?_)
              · skip
                refine pm_R_lo pm_M191 (pc_q := 36) rfl rfl rfl ?_
                refine rf_R_get pm_M191 T1960 (pc_q := 39) (v := .int (m1957 21)) rfl rfl rfl rfl ?_
                refine rf_R_put pm_M191 T1960 (pc_q := 42) rfl rfl rfl (by decide) rfl rfl (sf_weak B2110 (by decide) (by decide)) rfl rfl (fun h2124 m2127 em2128 T2125 F2126 => ?_)
                have F2129 := F2109.trans F2126 (by decide)
                have B2130 : sf_B 0 600 (m2127 10) := by rw [em2128]; exact B2113
                have ek2131 : (m2127 10).toInt = ((m1957 10)).toInt := by rw [em2128]; rfl
                have B2132 : sf_B 0 4 (m2127 13) := by rw [em2128]; exact B2114
                have ek2133 : (m2127 13).toInt = ((m1957 13)).toInt := by rw [em2128]; rfl
                have B2134 : sf_B 1 4 (m2127 17) := by rw [em2128]; exact B1966
                have ek2135 : (m2127 17).toInt = ((m1957 17)).toInt := by rw [em2128]; rfl
                have B2136 : sf_B 0 0 (m2127 22) := by rw [em2128]; exact B1967
                have ek2137 : (m2127 22).toInt = ((m1957 22)).toInt := by rw [em2128]; rfl
                have B2138 : sf_B 0 99 (m2127 21) := by rw [em2128]; exact B2110
                have ek2139 : (m2127 21).toInt = ((m1957 21)).toInt := by rw [em2128]; rfl
                have W2140 : rf_W [10, 12, 13, 14, 16, 17, 18, 21, 22] m m2127 := by rw [em2128]; exact W2112.put (by decide)
                refine pm_R_lo pm_M191 (pc_q := 43) rfl rfl rfl ?_
                refine pm_R_ret pm_M191 (r := some (.int 1)) rfl rfl ?_
                show pm_R _ 189 202 [.ref 41, .long a0, pm_no, .int a1, pm_no] [.int 1] _ _
                refine pm_R_br pm_M189 (pc_q := 205) (st_q := []) (pm_q189_1 (Nat.le_of_ble_eq_true rfl)) rfl ?_
                refine pm_R_lo pm_M189 (pc_q := 206) (pm_q189_1 (Nat.le_of_ble_eq_true rfl)) rfl rfl ?_
                refine pm_R_ldc2 pm_M189 (pc_q := 209) (pm_q189_1 (Nat.le_of_ble_eq_true rfl)) rfl rfl ?_
                refine sf_R_lcmp pm_M189 (pc_q := 210) (pm_q189_1 (Nat.le_of_ble_eq_true rfl)) rfl (fun z2141 e2142 => ?_)
                have B2143 : sf_B (-2147483648) (-1) z2141 := lf_cmpLt e2142 B346 (⟨by decide, by decide⟩ : lf_B 1935767923 1935767923 1935767923) (by decide)
                refine pm_R_ifc pm_M189 (t := 226) (pc_q := 213) (pm_q189_1 (Nat.le_of_ble_eq_true rfl)) rfl rfl (fun c2144 => ?_) (fun c2144 => absurd (Classical.not_not.mp c2144) (sf_neq2 B2143 sf_k0 (by decide)))
                have k2145 := sf_lneC e2142 c2144
                refine pm_R_lo pm_M189 (pc_q := 227) (pm_q189_2 (Nat.le_of_ble_eq_true rfl)) rfl rfl ?_
                refine pm_R_op pm_M189 (pc_q := 228) (st_q := [.int 1, .ref 41]) (pm_q189_2 (Nat.le_of_ble_eq_true rfl)) rfl rfl ?_
                refine pm_R_op pm_M189 (pc_q := 229) (st_q := [.int 2, .int 1, .ref 41]) (pm_q189_2 (Nat.le_of_ble_eq_true rfl)) rfl rfl ?_
                refine pm_R_op pm_M189 (pc_q := 230) (st_q := [.int 3, .int 2, .int 1, .ref 41]) (pm_q189_2 (Nat.le_of_ble_eq_true rfl)) rfl rfl ?_
                refine pm_R_op pm_M189 (pc_q := 232) (st_q := [.int 50, .int 3, .int 2, .int 1, .ref 41]) (pm_q189_2 (Nat.le_of_ble_eq_true rfl)) rfl rfl ?_
                refine pm_R_op pm_M189 (pc_q := 233) (st_q := [.int 0, .int 50, .int 3, .int 2, .int 1, .ref 41]) (pm_q189_2 (Nat.le_of_ble_eq_true rfl)) rfl rfl ?_
                refine pm_R_cv pm_M189 (pc_q := 236) (a := 41) (ra := [.int 0, .int 50, .int 3, .int 2, .int 1]) (rest := []) (ls_q := [.ref 41, .int 1, .int 2, .int 3, .int 50, .int 0, pm_no, pm_no]) (pm_q189_2 (Nat.le_of_ble_eq_true rfl)) rfl (Or.inl rfl) pm_M185 T2125.2.1 rfl (by decide) (Nat.lt_of_lt_of_le (by decide) T2125.1) rfl rfl (Nat.le_of_ble_eq_true rfl) rfl rfl ?_
                have e2146 := (F2126.cell (by decide) (F1961.cell (by decide) (F1912.cell (by decide) (F1850.cell (by decide) (F1832.cell (by decide) (F1824.cell (by decide) (F1819.cell (by decide) (F1814.cell (by decide) (F1809.cell (by decide) (F1787.cell (by decide) (F1771.cell (by decide) e3)))))))))))
                refine rf_c185_d (d := d + 3) T2125 (⟨f2, e2146, ct4, fun z => (sf_pos B2134 (by decide) z)⟩) (fun z => sf_pos B2134 (by decide) z) (fun m2149 w2150 h2151 T2152 F2153 W2154 X2155 => ?_)
                have F2156 := F2129.trans F2153 (by decide)
                have B2157 : sf_B 0 600 (m2149 10) := by rw [W2154 10 (by decide)]; exact B2130
                have ek2158 : (m2149 10).toInt = ((m1957 10)).toInt := by rw [W2154 10 (by decide)]; exact ek2131
                have B2159 : sf_B 0 4 (m2149 13) := by rw [W2154 13 (by decide)]; exact B2132
                have ek2160 : (m2149 13).toInt = ((m1957 13)).toInt := by rw [W2154 13 (by decide)]; exact ek2133
                have B2161 : sf_B 1 4 (m2149 17) := by rw [W2154 17 (by decide)]; exact B2134
                have ek2162 : (m2149 17).toInt = ((m1957 17)).toInt := by rw [W2154 17 (by decide)]; exact ek2135
                have B2163 : sf_B 0 0 (m2149 22) := by rw [W2154 22 (by decide)]; exact B2136
                have ek2164 : (m2149 22).toInt = ((m1957 22)).toInt := by rw [W2154 22 (by decide)]; exact ek2137
                have B2165 : sf_B 0 99 (m2149 21) := by rw [W2154 21 (by decide)]; exact B2138
                have ek2166 : (m2149 21).toInt = ((m1957 21)).toInt := by rw [W2154 21 (by decide)]; exact ek2139
                have W2167 : rf_W [10, 12, 13, 14, 16, 17, 18, 21, 22] m m2149 := W2140.trans W2154 (by decide)
                show pm_R _ 189 236 [.ref 41, .long a0, pm_no, .int a1, pm_no] [] _ _
                obtain ⟨f2168, e2169, ct2170, bd2171⟩ := X2155
                refine pm_R_op pm_M189 (pc_q := 237) (st_q := [.int 1]) (pm_q189_2 (Nat.le_of_ble_eq_true rfl)) rfl rfl ?_
                exact pm_R_ret pm_M189 (r := some (.int 1)) (pm_q189_2 (Nat.le_of_ble_eq_true rfl)) rfl (K1 m2149 w2150 h2151 T2152 F2156 W2167 (⟨f2168, e2169, ct2170, fun z => (sf_pos B2161 (by decide) z)⟩) (sf_aux39 _ _ _ ek2158 R2117))
              · have B2172 : sf_B 0 98 (m1957 21) := sf_ltL (Int32.not_le.mp c2123) B2110 B2119
                have B2173 : sf_B 1 99 v2118 := sf_ltR (Int32.not_le.mp c2123) B2110 B2119
                refine pm_R_lo pm_M191 (pc_q := 27) rfl rfl rfl ?_
                refine rf_R_get pm_M191 T1960 (pc_q := 30) (v := .ref 52) rfl rfl rfl rfl ?_
                refine pm_R_lo pm_M191 (pc_q := 31) rfl rfl rfl ?_
                refine pm_R_iald pm_M191 (pc_q := 32) (v := v2118) rfl e2120 (Nat.lt_of_lt_of_le (by decide) T1960.1) rfl sf_upd_eq rfl ?_
                refine pm_R_br pm_M191 (pc_q := 39) rfl rfl ?_
                refine rf_R_put pm_M191 T1960 (pc_q := 42) rfl rfl rfl (by decide) rfl rfl (sf_weak B2173 (by decide) (by decide)) rfl rfl (fun h2176 m2179 em2180 T2177 F2178 => ?_)
                have F2181 := F2109.trans F2178 (by decide)
                have B2182 : sf_B 0 600 (m2179 10) := by rw [em2180]; exact B2113
                have ek2183 : (m2179 10).toInt = ((m1957 10)).toInt := by rw [em2180]; rfl
                have B2184 : sf_B 0 4 (m2179 13) := by rw [em2180]; exact B2114
                have ek2185 : (m2179 13).toInt = ((m1957 13)).toInt := by rw [em2180]; rfl
                have B2186 : sf_B 1 4 (m2179 17) := by rw [em2180]; exact B1966
                have ek2187 : (m2179 17).toInt = ((m1957 17)).toInt := by rw [em2180]; rfl
                have B2188 : sf_B 0 0 (m2179 22) := by rw [em2180]; exact B1967
                have ek2189 : (m2179 22).toInt = ((m1957 22)).toInt := by rw [em2180]; rfl
                have B2190 : sf_B 1 99 (m2179 21) := by rw [em2180]; exact B2173
                have ek2191 : (m2179 21).toInt = (v2118).toInt := by rw [em2180]; rfl
                have W2192 : rf_W [10, 12, 13, 14, 16, 17, 18, 21, 22] m m2179 := by rw [em2180]; exact W2112.put (by decide)
                refine pm_R_lo pm_M191 (pc_q := 43) rfl rfl rfl ?_
                refine pm_R_ret pm_M191 (r := some (.int 1)) rfl rfl ?_
                show pm_R _ 189 202 [.ref 41, .long a0, pm_no, .int a1, pm_no] [.int 1] _ _
                refine pm_R_br pm_M189 (pc_q := 205) (st_q := []) (pm_q189_1 (Nat.le_of_ble_eq_true rfl)) rfl ?_
                refine pm_R_lo pm_M189 (pc_q := 206) (pm_q189_1 (Nat.le_of_ble_eq_true rfl)) rfl rfl ?_
                refine pm_R_ldc2 pm_M189 (pc_q := 209) (pm_q189_1 (Nat.le_of_ble_eq_true rfl)) rfl rfl ?_
                refine sf_R_lcmp pm_M189 (pc_q := 210) (pm_q189_1 (Nat.le_of_ble_eq_true rfl)) rfl (fun z2193 e2194 => ?_)
                have B2195 : sf_B (-2147483648) (-1) z2193 := lf_cmpLt e2194 B346 (⟨by decide, by decide⟩ : lf_B 1935767923 1935767923 1935767923) (by decide)
                refine pm_R_ifc pm_M189 (t := 226) (pc_q := 213) (pm_q189_1 (Nat.le_of_ble_eq_true rfl)) rfl rfl (fun c2196 => ?_) (fun c2196 => absurd (Classical.not_not.mp c2196) (sf_neq2 B2195 sf_k0 (by decide)))
                have k2197 := sf_lneC e2194 c2196
                refine pm_R_lo pm_M189 (pc_q := 227) (pm_q189_2 (Nat.le_of_ble_eq_true rfl)) rfl rfl ?_
                refine pm_R_op pm_M189 (pc_q := 228) (st_q := [.int 1, .ref 41]) (pm_q189_2 (Nat.le_of_ble_eq_true rfl)) rfl rfl ?_
                refine pm_R_op pm_M189 (pc_q := 229) (st_q := [.int 2, .int 1, .ref 41]) (pm_q189_2 (Nat.le_of_ble_eq_true rfl)) rfl rfl ?_
                refine pm_R_op pm_M189 (pc_q := 230) (st_q := [.int 3, .int 2, .int 1, .ref 41]) (pm_q189_2 (Nat.le_of_ble_eq_true rfl)) rfl rfl ?_
                refine pm_R_op pm_M189 (pc_q := 232) (st_q := [.int 50, .int 3, .int 2, .int 1, .ref 41]) (pm_q189_2 (Nat.le_of_ble_eq_true rfl)) rfl rfl ?_
                refine pm_R_op pm_M189 (pc_q := 233) (st_q := [.int 0, .int 50, .int 3, .int 2, .int 1, .ref 41]) (pm_q189_2 (Nat.le_of_ble_eq_true rfl)) rfl rfl ?_
                refine pm_R_cv pm_M189 (pc_q := 236) (a := 41) (ra := [.int 0, .int 50, .int 3, .int 2, .int 1]) (rest := []) (ls_q := [.ref 41, .int 1, .int 2, .int 3, .int 50, .int 0, pm_no, pm_no]) (pm_q189_2 (Nat.le_of_ble_eq_true rfl)) rfl (Or.inl rfl) pm_M185 T2177.2.1 rfl (by decide) (Nat.lt_of_lt_of_le (by decide) T2177.1) rfl rfl (Nat.le_of_ble_eq_true rfl) rfl rfl ?_
                have e2198 := (F2178.cell (by decide) (F1961.cell (by decide) (F1912.cell (by decide) (F1850.cell (by decide) (F1832.cell (by decide) (F1824.cell (by decide) (F1819.cell (by decide) (F1814.cell (by decide) (F1809.cell (by decide) (F1787.cell (by decide) (F1771.cell (by decide) e3)))))))))))
                refine rf_c185_d (d := d + 3) T2177 (⟨f2, e2198, ct4, fun z => (sf_pos B2186 (by decide) z)⟩) (fun z => sf_pos B2186 (by decide) z) (fun m2201 w2202 h2203 T2204 F2205 W2206 X2207 => ?_)
                have F2208 := F2181.trans F2205 (by decide)
                have B2209 : sf_B 0 600 (m2201 10) := by rw [W2206 10 (by decide)]; exact B2182
                have ek2210 : (m2201 10).toInt = ((m1957 10)).toInt := by rw [W2206 10 (by decide)]; exact ek2183
                have B2211 : sf_B 0 4 (m2201 13) := by rw [W2206 13 (by decide)]; exact B2184
                have ek2212 : (m2201 13).toInt = ((m1957 13)).toInt := by rw [W2206 13 (by decide)]; exact ek2185
                have B2213 : sf_B 1 4 (m2201 17) := by rw [W2206 17 (by decide)]; exact B2186
                have ek2214 : (m2201 17).toInt = ((m1957 17)).toInt := by rw [W2206 17 (by decide)]; exact ek2187
                have B2215 : sf_B 0 0 (m2201 22) := by rw [W2206 22 (by decide)]; exact B2188
                have ek2216 : (m2201 22).toInt = ((m1957 22)).toInt := by rw [W2206 22 (by decide)]; exact ek2189
                have B2217 : sf_B 1 99 (m2201 21) := by rw [W2206 21 (by decide)]; exact B2190
                have ek2218 : (m2201 21).toInt = (v2118).toInt := by rw [W2206 21 (by decide)]; exact ek2191
                have W2219 : rf_W [10, 12, 13, 14, 16, 17, 18, 21, 22] m m2201 := W2192.trans W2206 (by decide)
                show pm_R _ 189 236 [.ref 41, .long a0, pm_no, .int a1, pm_no] [] _ _
                obtain ⟨f2220, e2221, ct2222, bd2223⟩ := X2207
                refine pm_R_op pm_M189 (pc_q := 237) (st_q := [.int 1]) (pm_q189_2 (Nat.le_of_ble_eq_true rfl)) rfl rfl ?_
                exact pm_R_ret pm_M189 (r := some (.int 1)) (pm_q189_2 (Nat.le_of_ble_eq_true rfl)) rfl (K1 m2201 w2202 h2203 T2204 F2208 W2219 (⟨f2220, e2221, ct2222, fun z => (sf_pos B2213 (by decide) z)⟩) (sf_aux39 _ _ _ ek2210 R2117))
          · have B2224 : sf_B (-1) 4 (m1846 21) := sf_ltL (Int32.not_le.mp c1908) B1907 B1903
            refine pm_R_lo pm_M191 (pc_q := 27) rfl rfl rfl ?_
            refine rf_R_get pm_M191 T1849 (pc_q := 30) (v := .ref 52) rfl rfl rfl rfl ?_
            refine pm_R_lo pm_M191 (pc_q := 31) rfl rfl rfl ?_
            refine pm_R_iald pm_M191 (pc_q := 32) (v := v1902) rfl e1904 (Nat.lt_of_lt_of_le (by decide) T1849.1) rfl sf_upd_eq rfl ?_
            refine pm_R_br pm_M191 (pc_q := 39) rfl rfl ?_
            refine rf_R_put pm_M191 T1849 (pc_q := 42) rfl rfl rfl (by decide) rfl rfl (sf_weak B1903 (by decide) (by decide)) rfl rfl (fun h2227 m2230 em2231 T2228 F2229 => ?_)
            have F2232 := F1895.trans F2229 (by decide)
            have B2233 : sf_B 0 600 (m2230 10) := by rw [em2231]; exact B1897
            have ek2234 : (m2230 10).toInt = ((m1846 10)).toInt := by rw [em2231]; rfl
            have B2235 : sf_B 0 4 (m2230 13) := by rw [em2231]; exact B1898
            have ek2236 : (m2230 13).toInt = ((m1846 13)).toInt := by rw [em2231]; rfl
            have B2237 : sf_B 1 4 (m2230 17) := by rw [em2231]; exact (sf_eqT X1853 B1792)
            have ek2238 : (m2230 17).toInt = ((m1783 17)).toInt := by rw [em2231]; exact X1853
            have B2239 : sf_B 0 1 (m2230 22) := by rw [em2231]; exact (sf_eqT X1854 B1794)
            have ek2240 : (m2230 22).toInt = ((m1783 22)).toInt := by rw [em2231]; exact X1854
            have B2241 : sf_B 0 5 (m2230 21) := by rw [em2231]; exact B1903
            have ek2242 : (m2230 21).toInt = (v1902).toInt := by rw [em2231]; rfl
            have W2243 : rf_W [10, 12, 13, 14, 16, 17, 18, 21, 22] m m2230 := by rw [em2231]; exact W1896.put (by decide)
            refine pm_R_lo pm_M191 (pc_q := 43) rfl rfl rfl ?_
            refine pm_R_ret pm_M191 (r := some (.int 1)) rfl rfl ?_
            show pm_R _ 189 178 [.ref 41, .long a0, pm_no, .int a1, pm_no] [.int 1] _ _
            refine pm_R_br pm_M189 (pc_q := 183) (st_q := []) (pm_q189_1 (Nat.le_of_ble_eq_true rfl)) rfl ?_
            refine pm_R_lo pm_M189 (pc_q := 184) (pm_q189_1 (Nat.le_of_ble_eq_true rfl)) rfl rfl ?_
            refine pm_R_ldc2 pm_M189 (pc_q := 187) (pm_q189_1 (Nat.le_of_ble_eq_true rfl)) rfl rfl ?_
            refine pm_R_op pm_M189 (pc_q := 188) (st_q := [.int z342]) (pm_q189_1 (Nat.le_of_ble_eq_true rfl)) (by show some (Value.int (lg_cmp a0 1819242347) :: _) = _; rw [← e343]) rfl ?_
            refine pm_R_ifc pm_M189 (t := 205) (pc_q := 191) (pm_q189_1 (Nat.le_of_ble_eq_true rfl)) rfl rfl (fun c2246 => absurd (sf_pt2 B345 sf_k0) c2246) (fun c2246 => ?_)
            refine pm_R_lo pm_M189 (pc_q := 192) (pm_q189_1 (Nat.le_of_ble_eq_true rfl)) rfl rfl ?_
            refine pm_R_op pm_M189 (pc_q := 193) (st_q := [.int 2, .ref 41]) (pm_q189_1 (Nat.le_of_ble_eq_true rfl)) rfl rfl ?_
            refine pm_R_lo pm_M189 (pc_q := 194) (pm_q189_1 (Nat.le_of_ble_eq_true rfl)) rfl rfl ?_
            refine rf_R_get pm_M189 T2228 (pc_q := 197) (v := .ref 52) (pm_q189_1 (Nat.le_of_ble_eq_true rfl)) rfl rfl rfl ?_
            refine pm_R_op pm_M189 (pc_q := 198) (st_q := [.int 1, .ref 52, .int 2, .ref 41]) (pm_q189_1 (Nat.le_of_ble_eq_true rfl)) rfl rfl ?_
            have e2247 := (F2229.cell (by decide) e1904)
            refine pm_R_iald pm_M189 (pc_q := 199) (v := v1902) (pm_q189_1 (Nat.le_of_ble_eq_true rfl)) e2247 (Nat.lt_of_lt_of_le (by decide) T2228.1) rfl sf_upd_eq rfl ?_
            refine pm_R_cv pm_M189 (pc_q := 202) (a := 41) (ra := [.int v1902, .int 2]) (rest := []) (ls_q := [.ref 41, .int 2, .int v1902, pm_no]) (pm_q189_1 (Nat.le_of_ble_eq_true rfl)) rfl (Or.inl rfl) pm_M191 T2228.2.1 rfl (by decide) (Nat.lt_of_lt_of_le (by decide) T2228.1) rfl rfl (Nat.le_of_ble_eq_true rfl) rfl rfl ?_
            refine pm_R_lo pm_M191 (pc_q := 1) rfl rfl rfl ?_
            refine pm_R_lo pm_M191 (pc_q := 2) rfl rfl rfl ?_
            refine pm_R_op pm_M191 (pc_q := 3) (st_q := [.int 5, .int 2, .ref 41]) rfl rfl rfl ?_
            refine pm_R_lo pm_M191 (pc_q := 4) rfl rfl rfl ?_
            refine pm_R_cv pm_M191 (pc_q := 7) (a := 41) (ra := [.int v1902, .int 5, .int 2]) (rest := []) (ls_q := [.ref 41, .int 2, .int 5, .int v1902]) rfl rfl (Or.inl rfl) pm_M183 T2228.2.1 rfl (by decide) (Nat.lt_of_lt_of_le (by decide) T2228.1) rfl rfl (Nat.le_of_ble_eq_true rfl) rfl rfl ?_
            refine rf_c183_2_5 (d := d + 0) T2228  (fun m2252 w2253 h2254 T2255 F2256 W2257 X2258 => ?_) (fun m2261 w2262 h2263 T2264 F2265 W2266 X2267 X2268 X2269 X2270 X2271 => ?_) (fun m2274 w2275 h2276 T2277 F2278 W2279 X2280 X2281 X2282 B2283 B2284 => ?_)
            · have F2285 := F2232.trans F2256 (by decide)
              have B2286 : sf_B 0 5 (m2252 21) := by rw [W2257 21 (by decide)]; exact B2241
              have ek2287 : (m2252 21).toInt = (v1902).toInt := by rw [W2257 21 (by decide)]; exact ek2242
              have W2288 : rf_W [10, 12, 13, 14, 16, 17, 18, 21, 22] m m2252 := W2243.trans W2257 (by decide)
              have B2289 : sf_B 0 600 (m2252 10) := T2255.2.2.1 10
              have B2290 : sf_B 0 4 (m2252 13) := T2255.2.2.1 13
              have B2291 : sf_B 0 4 (m2252 17) := T2255.2.2.1 17
              have B2292 : sf_B 0 1 (m2252 22) := T2255.2.2.1 22
              show pm_R _ 191 7 [.ref 41, .int 2, .int v1902, pm_no] [.int 0] _ _
              have R2293 : (m 10).toInt ≤ (m2252 10).toInt := (sf_aux76 _ _ _ _ ek2234 R1901 X2258)
              refine pm_R_lo pm_M191 (pc_q := 8) (ls_q := [.ref 41, .int 2, .int v1902, .int 0]) (st_q := []) rfl rfl rfl ?_
              refine pm_R_lo pm_M191 (pc_q := 9) rfl rfl rfl ?_
              refine pm_R_lo pm_M191 (pc_q := 10) rfl rfl rfl ?_
              refine pm_R_br pm_M191 (pc_q := 35) (st_q := [.ref 41]) rfl rfl ?_
              refine pm_R_lo pm_M191 (pc_q := 36) rfl rfl rfl ?_
              refine rf_R_get pm_M191 T2255 (pc_q := 39) (v := .int (m2252 21)) rfl rfl rfl rfl ?_
              refine rf_R_put pm_M191 T2255 (pc_q := 42) rfl rfl rfl (by decide) rfl rfl (sf_weak B2286 (by decide) (by decide)) rfl rfl (fun h2294 m2297 em2298 T2295 F2296 => ?_)
              have F2299 := F2285.trans F2296 (by decide)
              have B2300 : sf_B 0 600 (m2297 10) := by rw [em2298]; exact B2289
              have ek2301 : (m2297 10).toInt = ((m2252 10)).toInt := by rw [em2298]; rfl
              have B2302 : sf_B 0 4 (m2297 13) := by rw [em2298]; exact B2290
              have ek2303 : (m2297 13).toInt = ((m2252 13)).toInt := by rw [em2298]; rfl
              have B2304 : sf_B 0 4 (m2297 17) := by rw [em2298]; exact B2291
              have ek2305 : (m2297 17).toInt = ((m2252 17)).toInt := by rw [em2298]; rfl
              have B2306 : sf_B 0 1 (m2297 22) := by rw [em2298]; exact B2292
              have ek2307 : (m2297 22).toInt = ((m2252 22)).toInt := by rw [em2298]; rfl
              have B2308 : sf_B 0 5 (m2297 21) := by rw [em2298]; exact B2286
              have ek2309 : (m2297 21).toInt = ((m2252 21)).toInt := by rw [em2298]; rfl
              have W2310 : rf_W [10, 12, 13, 14, 16, 17, 18, 21, 22] m m2297 := by rw [em2298]; exact W2288.put (by decide)
              refine pm_R_lo pm_M191 (pc_q := 43) rfl rfl rfl ?_
              refine pm_R_ret pm_M191 (r := some (.int 0)) rfl rfl ?_
              show pm_R _ 189 202 [.ref 41, .long a0, pm_no, .int a1, pm_no] [.int 0] _ _
              refine pm_R_br pm_M189 (pc_q := 224) (st_q := []) (pm_q189_1 (Nat.le_of_ble_eq_true rfl)) rfl ?_
              refine pm_R_op pm_M189 (pc_q := 225) (st_q := [.int 0]) (pm_q189_2 (Nat.le_of_ble_eq_true rfl)) rfl rfl ?_
              exact pm_R_ret pm_M189 (r := some (.int 0)) (pm_q189_2 (Nat.le_of_ble_eq_true rfl)) rfl (K0 m2297 w2253 h2294 T2295 F2299 W2310 (sf_aux39 _ _ _ ek2301 R2293))
            · have F2311 := F2232.trans F2265 (by decide)
              have B2312 : sf_B 0 5 (m2261 21) := by rw [W2266 21 (by decide)]; exact B2241
              have ek2313 : (m2261 21).toInt = (v1902).toInt := by rw [W2266 21 (by decide)]; exact ek2242
              have W2314 : rf_W [10, 12, 13, 14, 16, 17, 18, 21, 22] m m2261 := W2243.trans W2266 (by decide)
              have B2315 : sf_B 0 600 (m2261 10) := T2264.2.2.1 10
              have B2316 : sf_B 0 4 (m2261 13) := T2264.2.2.1 13
              have B2317 : sf_B 0 4 (m2261 17) := T2264.2.2.1 17
              have B2318 : sf_B 0 1 (m2261 22) := T2264.2.2.1 22
              show pm_R _ 191 7 [.ref 41, .int 2, .int v1902, pm_no] [.int 1] _ _
              have R2319 : (m 10).toInt ≤ (m2261 10).toInt := (sf_aux76 _ _ _ _ ek2234 R1901 X2271)
              obtain ⟨v2320, B2321, e2322⟩ := X2267 _ e2247
              refine pm_R_lo pm_M191 (pc_q := 8) (ls_q := [.ref 41, .int 2, .int v1902, .int 1]) (st_q := []) rfl rfl rfl ?_
              refine pm_R_lo pm_M191 (pc_q := 9) rfl rfl rfl ?_
              refine pm_R_lo pm_M191 (pc_q := 10) rfl rfl rfl ?_
              refine pm_R_br pm_M191 (pc_q := 13) (st_q := [.ref 41]) rfl rfl ?_
              refine pm_R_lo pm_M191 (pc_q := 14) rfl rfl rfl ?_
              refine rf_R_get pm_M191 T2264 (pc_q := 17) (v := .ref 52) rfl rfl rfl rfl ?_
              refine pm_R_lo pm_M191 (pc_q := 18) rfl rfl rfl ?_
              refine pm_R_iald pm_M191 (pc_q := 19) (v := v2320) rfl e2322 (Nat.lt_of_lt_of_le (by decide) T2264.1) rfl sf_upd_eq rfl ?_
              refine pm_R_lo pm_M191 (pc_q := 20) rfl rfl rfl ?_
              refine rf_R_get pm_M191 T2264 (pc_q := 23) (v := .int (m2261 21)) rfl rfl rfl rfl ?_
              refine pm_R_icmp pm_M191 (t := 35) (pc_q := 26) rfl rfl rfl (fun c2325 => ?_) (fun c2325 => ?_)
              · skip
                refine pm_R_lo pm_M191 (pc_q := 36) rfl rfl rfl ?_
                refine rf_R_get pm_M191 T2264 (pc_q := 39) (v := .int (m2261 21)) rfl rfl rfl rfl ?_
                refine rf_R_put pm_M191 T2264 (pc_q := 42) rfl rfl rfl (by decide) rfl rfl (sf_weak B2312 (by decide) (by decide)) rfl rfl (fun h2326 m2329 em2330 T2327 F2328 => ?_)
                have F2331 := F2311.trans F2328 (by decide)
                have B2332 : sf_B 0 600 (m2329 10) := by rw [em2330]; exact B2315
                have ek2333 : (m2329 10).toInt = ((m2261 10)).toInt := by rw [em2330]; rfl
                have B2334 : sf_B 0 4 (m2329 13) := by rw [em2330]; exact B2316
                have ek2335 : (m2329 13).toInt = ((m2261 13)).toInt := by rw [em2330]; rfl
                have B2336 : sf_B 1 4 (m2329 17) := by rw [em2330]; exact (sf_eqT X2268 B2237)
                have ek2337 : (m2329 17).toInt = ((m2230 17)).toInt := by rw [em2330]; exact X2268
                have B2338 : sf_B 0 1 (m2329 22) := by rw [em2330]; exact (sf_eqT X2269 B2239)
                have ek2339 : (m2329 22).toInt = ((m2230 22)).toInt := by rw [em2330]; exact X2269
                have B2340 : sf_B 0 5 (m2329 21) := by rw [em2330]; exact B2312
                have ek2341 : (m2329 21).toInt = ((m2261 21)).toInt := by rw [em2330]; rfl
                have W2342 : rf_W [10, 12, 13, 14, 16, 17, 18, 21, 22] m m2329 := by rw [em2330]; exact W2314.put (by decide)
                refine pm_R_lo pm_M191 (pc_q := 43) rfl rfl rfl ?_
                refine pm_R_ret pm_M191 (r := some (.int 1)) rfl rfl ?_
                show pm_R _ 189 202 [.ref 41, .long a0, pm_no, .int a1, pm_no] [.int 1] _ _
                refine pm_R_br pm_M189 (pc_q := 205) (st_q := []) (pm_q189_1 (Nat.le_of_ble_eq_true rfl)) rfl ?_
                refine pm_R_lo pm_M189 (pc_q := 206) (pm_q189_1 (Nat.le_of_ble_eq_true rfl)) rfl rfl ?_
                refine pm_R_ldc2 pm_M189 (pc_q := 209) (pm_q189_1 (Nat.le_of_ble_eq_true rfl)) rfl rfl ?_
                refine sf_R_lcmp pm_M189 (pc_q := 210) (pm_q189_1 (Nat.le_of_ble_eq_true rfl)) rfl (fun z2343 e2344 => ?_)
                have B2345 : sf_B (-2147483648) (-1) z2343 := lf_cmpLt e2344 B346 (⟨by decide, by decide⟩ : lf_B 1935767923 1935767923 1935767923) (by decide)
                refine pm_R_ifc pm_M189 (t := 226) (pc_q := 213) (pm_q189_1 (Nat.le_of_ble_eq_true rfl)) rfl rfl (fun c2346 => ?_) (fun c2346 => absurd (Classical.not_not.mp c2346) (sf_neq2 B2345 sf_k0 (by decide)))
                have k2347 := sf_lneC e2344 c2346
                refine pm_R_lo pm_M189 (pc_q := 227) (pm_q189_2 (Nat.le_of_ble_eq_true rfl)) rfl rfl ?_
                refine pm_R_op pm_M189 (pc_q := 228) (st_q := [.int 1, .ref 41]) (pm_q189_2 (Nat.le_of_ble_eq_true rfl)) rfl rfl ?_
                refine pm_R_op pm_M189 (pc_q := 229) (st_q := [.int 2, .int 1, .ref 41]) (pm_q189_2 (Nat.le_of_ble_eq_true rfl)) rfl rfl ?_
                refine pm_R_op pm_M189 (pc_q := 230) (st_q := [.int 3, .int 2, .int 1, .ref 41]) (pm_q189_2 (Nat.le_of_ble_eq_true rfl)) rfl rfl ?_
                refine pm_R_op pm_M189 (pc_q := 232) (st_q := [.int 50, .int 3, .int 2, .int 1, .ref 41]) (pm_q189_2 (Nat.le_of_ble_eq_true rfl)) rfl rfl ?_
                refine pm_R_op pm_M189 (pc_q := 233) (st_q := [.int 0, .int 50, .int 3, .int 2, .int 1, .ref 41]) (pm_q189_2 (Nat.le_of_ble_eq_true rfl)) rfl rfl ?_
                refine pm_R_cv pm_M189 (pc_q := 236) (a := 41) (ra := [.int 0, .int 50, .int 3, .int 2, .int 1]) (rest := []) (ls_q := [.ref 41, .int 1, .int 2, .int 3, .int 50, .int 0, pm_no, pm_no]) (pm_q189_2 (Nat.le_of_ble_eq_true rfl)) rfl (Or.inl rfl) pm_M185 T2327.2.1 rfl (by decide) (Nat.lt_of_lt_of_le (by decide) T2327.1) rfl rfl (Nat.le_of_ble_eq_true rfl) rfl rfl ?_
                have e2348 := (F2328.cell (by decide) (F2265.cell (by decide) (F2229.cell (by decide) (F1850.cell (by decide) (F1832.cell (by decide) (F1824.cell (by decide) (F1819.cell (by decide) (F1814.cell (by decide) (F1809.cell (by decide) (F1787.cell (by decide) (F1771.cell (by decide) e3)))))))))))
                refine rf_c185_d (d := d + 3) T2327 (⟨f2, e2348, ct4, fun z => (sf_pos B2336 (by decide) z)⟩) (fun z => sf_pos B2336 (by decide) z) (fun m2351 w2352 h2353 T2354 F2355 W2356 X2357 => ?_)
                have F2358 := F2331.trans F2355 (by decide)
                have B2359 : sf_B 0 600 (m2351 10) := by rw [W2356 10 (by decide)]; exact B2332
                have ek2360 : (m2351 10).toInt = ((m2261 10)).toInt := by rw [W2356 10 (by decide)]; exact ek2333
                have B2361 : sf_B 0 4 (m2351 13) := by rw [W2356 13 (by decide)]; exact B2334
                have ek2362 : (m2351 13).toInt = ((m2261 13)).toInt := by rw [W2356 13 (by decide)]; exact ek2335
                have B2363 : sf_B 1 4 (m2351 17) := by rw [W2356 17 (by decide)]; exact B2336
                have ek2364 : (m2351 17).toInt = ((m2230 17)).toInt := by rw [W2356 17 (by decide)]; exact ek2337
                have B2365 : sf_B 0 1 (m2351 22) := by rw [W2356 22 (by decide)]; exact B2338
                have ek2366 : (m2351 22).toInt = ((m2230 22)).toInt := by rw [W2356 22 (by decide)]; exact ek2339
                have B2367 : sf_B 0 5 (m2351 21) := by rw [W2356 21 (by decide)]; exact B2340
                have ek2368 : (m2351 21).toInt = ((m2261 21)).toInt := by rw [W2356 21 (by decide)]; exact ek2341
                have W2369 : rf_W [10, 12, 13, 14, 16, 17, 18, 21, 22] m m2351 := W2342.trans W2356 (by decide)
                show pm_R _ 189 236 [.ref 41, .long a0, pm_no, .int a1, pm_no] [] _ _
                obtain ⟨f2370, e2371, ct2372, bd2373⟩ := X2357
                refine pm_R_op pm_M189 (pc_q := 237) (st_q := [.int 1]) (pm_q189_2 (Nat.le_of_ble_eq_true rfl)) rfl rfl ?_
                exact pm_R_ret pm_M189 (r := some (.int 1)) (pm_q189_2 (Nat.le_of_ble_eq_true rfl)) rfl (K1 m2351 w2352 h2353 T2354 F2358 W2369 (⟨f2370, e2371, ct2372, fun z => (sf_pos B2363 (by decide) z)⟩) (sf_aux39 _ _ _ ek2360 R2319))
              · have B2374 : sf_B 0 4 (m2261 21) := sf_ltL (Int32.not_le.mp c2325) B2312 B2321
                have B2375 : sf_B 1 5 v2320 := sf_ltR (Int32.not_le.mp c2325) B2312 B2321
                refine pm_R_lo pm_M191 (pc_q := 27) rfl rfl rfl ?_
                refine rf_R_get pm_M191 T2264 (pc_q := 30) (v := .ref 52) rfl rfl rfl rfl ?_
                refine pm_R_lo pm_M191 (pc_q := 31) rfl rfl rfl ?_
                refine pm_R_iald pm_M191 (pc_q := 32) (v := v2320) rfl e2322 (Nat.lt_of_lt_of_le (by decide) T2264.1) rfl sf_upd_eq rfl ?_
                refine pm_R_br pm_M191 (pc_q := 39) rfl rfl ?_
                refine rf_R_put pm_M191 T2264 (pc_q := 42) rfl rfl rfl (by decide) rfl rfl (sf_weak B2375 (by decide) (by decide)) rfl rfl (fun h2378 m2381 em2382 T2379 F2380 => ?_)
                have F2383 := F2311.trans F2380 (by decide)
                have B2384 : sf_B 0 600 (m2381 10) := by rw [em2382]; exact B2315
                have ek2385 : (m2381 10).toInt = ((m2261 10)).toInt := by rw [em2382]; rfl
                have B2386 : sf_B 0 4 (m2381 13) := by rw [em2382]; exact B2316
                have ek2387 : (m2381 13).toInt = ((m2261 13)).toInt := by rw [em2382]; rfl
                have B2388 : sf_B 1 4 (m2381 17) := by rw [em2382]; exact (sf_eqT X2268 B2237)
                have ek2389 : (m2381 17).toInt = ((m2230 17)).toInt := by rw [em2382]; exact X2268
                have B2390 : sf_B 0 1 (m2381 22) := by rw [em2382]; exact (sf_eqT X2269 B2239)
                have ek2391 : (m2381 22).toInt = ((m2230 22)).toInt := by rw [em2382]; exact X2269
                have B2392 : sf_B 1 5 (m2381 21) := by rw [em2382]; exact B2375
                have ek2393 : (m2381 21).toInt = (v2320).toInt := by rw [em2382]; rfl
                have W2394 : rf_W [10, 12, 13, 14, 16, 17, 18, 21, 22] m m2381 := by rw [em2382]; exact W2314.put (by decide)
                refine pm_R_lo pm_M191 (pc_q := 43) rfl rfl rfl ?_
                refine pm_R_ret pm_M191 (r := some (.int 1)) rfl rfl ?_
                show pm_R _ 189 202 [.ref 41, .long a0, pm_no, .int a1, pm_no] [.int 1] _ _
                refine pm_R_br pm_M189 (pc_q := 205) (st_q := []) (pm_q189_1 (Nat.le_of_ble_eq_true rfl)) rfl ?_
                refine pm_R_lo pm_M189 (pc_q := 206) (pm_q189_1 (Nat.le_of_ble_eq_true rfl)) rfl rfl ?_
                refine pm_R_ldc2 pm_M189 (pc_q := 209) (pm_q189_1 (Nat.le_of_ble_eq_true rfl)) rfl rfl ?_
                refine sf_R_lcmp pm_M189 (pc_q := 210) (pm_q189_1 (Nat.le_of_ble_eq_true rfl)) rfl (fun z2395 e2396 => ?_)
                have B2397 : sf_B (-2147483648) (-1) z2395 := lf_cmpLt e2396 B346 (⟨by decide, by decide⟩ : lf_B 1935767923 1935767923 1935767923) (by decide)
                refine pm_R_ifc pm_M189 (t := 226) (pc_q := 213) (pm_q189_1 (Nat.le_of_ble_eq_true rfl)) rfl rfl (fun c2398 => ?_) (fun c2398 => absurd (Classical.not_not.mp c2398) (sf_neq2 B2397 sf_k0 (by decide)))
                have k2399 := sf_lneC e2396 c2398
                refine pm_R_lo pm_M189 (pc_q := 227) (pm_q189_2 (Nat.le_of_ble_eq_true rfl)) rfl rfl ?_
                refine pm_R_op pm_M189 (pc_q := 228) (st_q := [.int 1, .ref 41]) (pm_q189_2 (Nat.le_of_ble_eq_true rfl)) rfl rfl ?_
                refine pm_R_op pm_M189 (pc_q := 229) (st_q := [.int 2, .int 1, .ref 41]) (pm_q189_2 (Nat.le_of_ble_eq_true rfl)) rfl rfl ?_
                refine pm_R_op pm_M189 (pc_q := 230) (st_q := [.int 3, .int 2, .int 1, .ref 41]) (pm_q189_2 (Nat.le_of_ble_eq_true rfl)) rfl rfl ?_
                refine pm_R_op pm_M189 (pc_q := 232) (st_q := [.int 50, .int 3, .int 2, .int 1, .ref 41]) (pm_q189_2 (Nat.le_of_ble_eq_true rfl)) rfl rfl ?_
                refine pm_R_op pm_M189 (pc_q := 233) (st_q := [.int 0, .int 50, .int 3, .int 2, .int 1, .ref 41]) (pm_q189_2 (Nat.le_of_ble_eq_true rfl)) rfl rfl ?_
                refine pm_R_cv pm_M189 (pc_q := 236) (a := 41) (ra := [.int 0, .int 50, .int 3, .int 2, .int 1]) (rest := []) (ls_q := [.ref 41, .int 1, .int 2, .int 3, .int 50, .int 0, pm_no, pm_no]) (pm_q189_2 (Nat.le_of_ble_eq_true rfl)) rfl (Or.inl rfl) pm_M185 T2379.2.1 rfl (by decide) (Nat.lt_of_lt_of_le (by decide) T2379.1) rfl rfl (Nat.le_of_ble_eq_true rfl) rfl rfl ?_
                have e2400 := (F2380.cell (by decide) (F2265.cell (by decide) (F2229.cell (by decide) (F1850.cell (by decide) (F1832.cell (by decide) (F1824.cell (by decide) (F1819.cell (by decide) (F1814.cell (by decide) (F1809.cell (by decide) (F1787.cell (by decide) (F1771.cell (by decide) e3)))))))))))
                refine rf_c185_d (d := d + 3) T2379 (⟨f2, e2400, ct4, fun z => (sf_pos B2388 (by decide) z)⟩) (fun z => sf_pos B2388 (by decide) z) (fun m2403 w2404 h2405 T2406 F2407 W2408 X2409 => ?_)
                have F2410 := F2383.trans F2407 (by decide)
                have B2411 : sf_B 0 600 (m2403 10) := by rw [W2408 10 (by decide)]; exact B2384
                have ek2412 : (m2403 10).toInt = ((m2261 10)).toInt := by rw [W2408 10 (by decide)]; exact ek2385
                have B2413 : sf_B 0 4 (m2403 13) := by rw [W2408 13 (by decide)]; exact B2386
                have ek2414 : (m2403 13).toInt = ((m2261 13)).toInt := by rw [W2408 13 (by decide)]; exact ek2387
                have B2415 : sf_B 1 4 (m2403 17) := by rw [W2408 17 (by decide)]; exact B2388
                have ek2416 : (m2403 17).toInt = ((m2230 17)).toInt := by rw [W2408 17 (by decide)]; exact ek2389
                have B2417 : sf_B 0 1 (m2403 22) := by rw [W2408 22 (by decide)]; exact B2390
                have ek2418 : (m2403 22).toInt = ((m2230 22)).toInt := by rw [W2408 22 (by decide)]; exact ek2391
                have B2419 : sf_B 1 5 (m2403 21) := by rw [W2408 21 (by decide)]; exact B2392
                have ek2420 : (m2403 21).toInt = (v2320).toInt := by rw [W2408 21 (by decide)]; exact ek2393
                have W2421 : rf_W [10, 12, 13, 14, 16, 17, 18, 21, 22] m m2403 := W2394.trans W2408 (by decide)
                show pm_R _ 189 236 [.ref 41, .long a0, pm_no, .int a1, pm_no] [] _ _
                obtain ⟨f2422, e2423, ct2424, bd2425⟩ := X2409
                refine pm_R_op pm_M189 (pc_q := 237) (st_q := [.int 1]) (pm_q189_2 (Nat.le_of_ble_eq_true rfl)) rfl rfl ?_
                exact pm_R_ret pm_M189 (r := some (.int 1)) (pm_q189_2 (Nat.le_of_ble_eq_true rfl)) rfl (K1 m2403 w2404 h2405 T2406 F2410 W2421 (⟨f2422, e2423, ct2424, fun z => (sf_pos B2415 (by decide) z)⟩) (sf_aux39 _ _ _ ek2412 R2319))
            · have F2426 := F2232.trans F2278 (by decide)
              have B2427 : sf_B 0 5 (m2274 21) := by rw [W2279 21 (by decide)]; exact B2241
              have ek2428 : (m2274 21).toInt = (v1902).toInt := by rw [W2279 21 (by decide)]; exact ek2242
              have W2429 : rf_W [10, 12, 13, 14, 16, 17, 18, 21, 22] m m2274 := W2243.trans W2279 (by decide)
              have B2430 : sf_B 0 600 (m2274 10) := T2277.2.2.1 10
              have B2431 : sf_B 0 4 (m2274 13) := T2277.2.2.1 13
              have B2432 : sf_B 0 4 (m2274 17) := T2277.2.2.1 17
              have B2433 : sf_B 0 1 (m2274 22) := T2277.2.2.1 22
              show pm_R _ 191 7 [.ref 41, .int 2, .int v1902, pm_no] [.int 1] _ _
              have R2434 : (m 10).toInt ≤ (m2274 10).toInt := (sf_aux76 _ _ _ _ ek2234 R1901 X2282)
              obtain ⟨v2435, B2436, e2437⟩ := X2280 _ e2247
              refine pm_R_lo pm_M191 (pc_q := 8) (ls_q := [.ref 41, .int 2, .int v1902, .int 1]) (st_q := []) rfl rfl rfl ?_
              refine pm_R_lo pm_M191 (pc_q := 9) rfl rfl rfl ?_
              refine pm_R_lo pm_M191 (pc_q := 10) rfl rfl rfl ?_
              refine pm_R_br pm_M191 (pc_q := 13) (st_q := [.ref 41]) rfl rfl ?_
              refine pm_R_lo pm_M191 (pc_q := 14) rfl rfl rfl ?_
              refine rf_R_get pm_M191 T2277 (pc_q := 17) (v := .ref 52) rfl rfl rfl rfl ?_
              refine pm_R_lo pm_M191 (pc_q := 18) rfl rfl rfl ?_
              refine pm_R_iald pm_M191 (pc_q := 19) (v := v2435) rfl e2437 (Nat.lt_of_lt_of_le (by decide) T2277.1) rfl sf_upd_eq rfl ?_
              refine pm_R_lo pm_M191 (pc_q := 20) rfl rfl rfl ?_
              refine rf_R_get pm_M191 T2277 (pc_q := 23) (v := .int (m2274 21)) rfl rfl rfl rfl ?_
              refine pm_R_icmp pm_M191 (t := 35) (pc_q := 26) rfl rfl rfl (fun c2440 => ?_) (fun c2440 => ?_)
              · have B2441 : sf_B 0 5 v2435 := sf_leL c2440 B2436 B2427
                refine pm_R_lo pm_M191 (pc_q := 36) rfl rfl rfl ?_
                refine rf_R_get pm_M191 T2277 (pc_q := 39) (v := .int (m2274 21)) rfl rfl rfl rfl ?_
                refine rf_R_put pm_M191 T2277 (pc_q := 42) rfl rfl rfl (by decide) rfl rfl (sf_weak B2427 (by decide) (by decide)) rfl rfl (fun h2442 m2445 em2446 T2443 F2444 => ?_)
                have F2447 := F2426.trans F2444 (by decide)
                have B2448 : sf_B 0 600 (m2445 10) := by rw [em2446]; exact B2430
                have ek2449 : (m2445 10).toInt = ((m2274 10)).toInt := by rw [em2446]; rfl
                have B2450 : sf_B 0 4 (m2445 13) := by rw [em2446]; exact B2431
                have ek2451 : (m2445 13).toInt = ((m2274 13)).toInt := by rw [em2446]; rfl
                have B2452 : sf_B 1 4 (m2445 17) := by rw [em2446]; exact B2283
                have ek2453 : (m2445 17).toInt = ((m2274 17)).toInt := by rw [em2446]; rfl
                have B2454 : sf_B 0 0 (m2445 22) := by rw [em2446]; exact B2284
                have ek2455 : (m2445 22).toInt = ((m2274 22)).toInt := by rw [em2446]; rfl
                have B2456 : sf_B 0 5 (m2445 21) := by rw [em2446]; exact B2427
                have ek2457 : (m2445 21).toInt = ((m2274 21)).toInt := by rw [em2446]; rfl
                have W2458 : rf_W [10, 12, 13, 14, 16, 17, 18, 21, 22] m m2445 := by rw [em2446]; exact W2429.put (by decide)
                refine pm_R_lo pm_M191 (pc_q := 43) rfl rfl rfl ?_
                refine pm_R_ret pm_M191 (r := some (.int 1)) rfl rfl ?_
                show pm_R _ 189 202 [.ref 41, .long a0, pm_no, .int a1, pm_no] [.int 1] _ _
                refine pm_R_br pm_M189 (pc_q := 205) (st_q := []) (pm_q189_1 (Nat.le_of_ble_eq_true rfl)) rfl ?_
                refine pm_R_lo pm_M189 (pc_q := 206) (pm_q189_1 (Nat.le_of_ble_eq_true rfl)) rfl rfl ?_
                refine pm_R_ldc2 pm_M189 (pc_q := 209) (pm_q189_1 (Nat.le_of_ble_eq_true rfl)) rfl rfl ?_
                refine sf_R_lcmp pm_M189 (pc_q := 210) (pm_q189_1 (Nat.le_of_ble_eq_true rfl)) rfl (fun z2459 e2460 => ?_)
                have B2461 : sf_B (-2147483648) (-1) z2459 := lf_cmpLt e2460 B346 (⟨by decide, by decide⟩ : lf_B 1935767923 1935767923 1935767923) (by decide)
                refine pm_R_ifc pm_M189 (t := 226) (pc_q := 213) (pm_q189_1 (Nat.le_of_ble_eq_true rfl)) rfl rfl (fun c2462 => ?_) (fun c2462 => absurd (Classical.not_not.mp c2462) (sf_neq2 B2461 sf_k0 (by decide)))
                have k2463 := sf_lneC e2460 c2462
                refine pm_R_lo pm_M189 (pc_q := 227) (pm_q189_2 (Nat.le_of_ble_eq_true rfl)) rfl rfl ?_
                refine pm_R_op pm_M189 (pc_q := 228) (st_q := [.int 1, .ref 41]) (pm_q189_2 (Nat.le_of_ble_eq_true rfl)) rfl rfl ?_
                refine pm_R_op pm_M189 (pc_q := 229) (st_q := [.int 2, .int 1, .ref 41]) (pm_q189_2 (Nat.le_of_ble_eq_true rfl)) rfl rfl ?_
                refine pm_R_op pm_M189 (pc_q := 230) (st_q := [.int 3, .int 2, .int 1, .ref 41]) (pm_q189_2 (Nat.le_of_ble_eq_true rfl)) rfl rfl ?_
                refine pm_R_op pm_M189 (pc_q := 232) (st_q := [.int 50, .int 3, .int 2, .int 1, .ref 41]) (pm_q189_2 (Nat.le_of_ble_eq_true rfl)) rfl rfl ?_
                refine pm_R_op pm_M189 (pc_q := 233) (st_q := [.int 0, .int 50, .int 3, .int 2, .int 1, .ref 41]) (pm_q189_2 (Nat.le_of_ble_eq_true rfl)) rfl rfl ?_
                refine pm_R_cv pm_M189 (pc_q := 236) (a := 41) (ra := [.int 0, .int 50, .int 3, .int 2, .int 1]) (rest := []) (ls_q := [.ref 41, .int 1, .int 2, .int 3, .int 50, .int 0, pm_no, pm_no]) (pm_q189_2 (Nat.le_of_ble_eq_true rfl)) rfl (Or.inl rfl) pm_M185 T2443.2.1 rfl (by decide) (Nat.lt_of_lt_of_le (by decide) T2443.1) rfl rfl (Nat.le_of_ble_eq_true rfl) rfl rfl ?_
                have e2464 := (F2444.cell (by decide) (F2278.cell (by decide) (F2229.cell (by decide) (F1850.cell (by decide) (F1832.cell (by decide) (F1824.cell (by decide) (F1819.cell (by decide) (F1814.cell (by decide) (F1809.cell (by decide) (F1787.cell (by decide) (F1771.cell (by decide) e3)))))))))))
                refine rf_c185_d (d := d + 3) T2443 (⟨f2, e2464, ct4, fun z => (sf_pos B2452 (by decide) z)⟩) (fun z => sf_pos B2452 (by decide) z) (fun m2467 w2468 h2469 T2470 F2471 W2472 X2473 => ?_)
                have F2474 := F2447.trans F2471 (by decide)
                have B2475 : sf_B 0 600 (m2467 10) := by rw [W2472 10 (by decide)]; exact B2448
                have ek2476 : (m2467 10).toInt = ((m2274 10)).toInt := by rw [W2472 10 (by decide)]; exact ek2449
                have B2477 : sf_B 0 4 (m2467 13) := by rw [W2472 13 (by decide)]; exact B2450
                have ek2478 : (m2467 13).toInt = ((m2274 13)).toInt := by rw [W2472 13 (by decide)]; exact ek2451
                have B2479 : sf_B 1 4 (m2467 17) := by rw [W2472 17 (by decide)]; exact B2452
                have ek2480 : (m2467 17).toInt = ((m2274 17)).toInt := by rw [W2472 17 (by decide)]; exact ek2453
                have B2481 : sf_B 0 0 (m2467 22) := by rw [W2472 22 (by decide)]; exact B2454
                have ek2482 : (m2467 22).toInt = ((m2274 22)).toInt := by rw [W2472 22 (by decide)]; exact ek2455
                have B2483 : sf_B 0 5 (m2467 21) := by rw [W2472 21 (by decide)]; exact B2456
                have ek2484 : (m2467 21).toInt = ((m2274 21)).toInt := by rw [W2472 21 (by decide)]; exact ek2457
                have W2485 : rf_W [10, 12, 13, 14, 16, 17, 18, 21, 22] m m2467 := W2458.trans W2472 (by decide)
                show pm_R _ 189 236 [.ref 41, .long a0, pm_no, .int a1, pm_no] [] _ _
                obtain ⟨f2486, e2487, ct2488, bd2489⟩ := X2473
                refine pm_R_op pm_M189 (pc_q := 237) (st_q := [.int 1]) (pm_q189_2 (Nat.le_of_ble_eq_true rfl)) rfl rfl ?_
                exact pm_R_ret pm_M189 (r := some (.int 1)) (pm_q189_2 (Nat.le_of_ble_eq_true rfl)) rfl (K1 m2467 w2468 h2469 T2470 F2474 W2485 (⟨f2486, e2487, ct2488, fun z => (sf_pos B2479 (by decide) z)⟩) (sf_aux39 _ _ _ ek2476 R2434))
              · have B2490 : sf_B 1 99 v2435 := sf_ltR (Int32.not_le.mp c2440) B2427 B2436
                refine pm_R_lo pm_M191 (pc_q := 27) rfl rfl rfl ?_
                refine rf_R_get pm_M191 T2277 (pc_q := 30) (v := .ref 52) rfl rfl rfl rfl ?_
                refine pm_R_lo pm_M191 (pc_q := 31) rfl rfl rfl ?_
                refine pm_R_iald pm_M191 (pc_q := 32) (v := v2435) rfl e2437 (Nat.lt_of_lt_of_le (by decide) T2277.1) rfl sf_upd_eq rfl ?_
                refine pm_R_br pm_M191 (pc_q := 39) rfl rfl ?_
                refine rf_R_put pm_M191 T2277 (pc_q := 42) rfl rfl rfl (by decide) rfl rfl (sf_weak B2490 (by decide) (by decide)) rfl rfl (fun h2493 m2496 em2497 T2494 F2495 => ?_)
                have F2498 := F2426.trans F2495 (by decide)
                have B2499 : sf_B 0 600 (m2496 10) := by rw [em2497]; exact B2430
                have ek2500 : (m2496 10).toInt = ((m2274 10)).toInt := by rw [em2497]; rfl
                have B2501 : sf_B 0 4 (m2496 13) := by rw [em2497]; exact B2431
                have ek2502 : (m2496 13).toInt = ((m2274 13)).toInt := by rw [em2497]; rfl
                have B2503 : sf_B 1 4 (m2496 17) := by rw [em2497]; exact B2283
                have ek2504 : (m2496 17).toInt = ((m2274 17)).toInt := by rw [em2497]; rfl
                have B2505 : sf_B 0 0 (m2496 22) := by rw [em2497]; exact B2284
                have ek2506 : (m2496 22).toInt = ((m2274 22)).toInt := by rw [em2497]; rfl
                have B2507 : sf_B 1 99 (m2496 21) := by rw [em2497]; exact B2490
                have ek2508 : (m2496 21).toInt = (v2435).toInt := by rw [em2497]; rfl
                have W2509 : rf_W [10, 12, 13, 14, 16, 17, 18, 21, 22] m m2496 := by rw [em2497]; exact W2429.put (by decide)
                refine pm_R_lo pm_M191 (pc_q := 43) rfl rfl rfl ?_
                refine pm_R_ret pm_M191 (r := some (.int 1)) rfl rfl ?_
                show pm_R _ 189 202 [.ref 41, .long a0, pm_no, .int a1, pm_no] [.int 1] _ _
                refine pm_R_br pm_M189 (pc_q := 205) (st_q := []) (pm_q189_1 (Nat.le_of_ble_eq_true rfl)) rfl ?_
                refine pm_R_lo pm_M189 (pc_q := 206) (pm_q189_1 (Nat.le_of_ble_eq_true rfl)) rfl rfl ?_
                refine pm_R_ldc2 pm_M189 (pc_q := 209) (pm_q189_1 (Nat.le_of_ble_eq_true rfl)) rfl rfl ?_
                refine sf_R_lcmp pm_M189 (pc_q := 210) (pm_q189_1 (Nat.le_of_ble_eq_true rfl)) rfl (fun z2510 e2511 => ?_)
                have B2512 : sf_B (-2147483648) (-1) z2510 := lf_cmpLt e2511 B346 (⟨by decide, by decide⟩ : lf_B 1935767923 1935767923 1935767923) (by decide)
                refine pm_R_ifc pm_M189 (t := 226) (pc_q := 213) (pm_q189_1 (Nat.le_of_ble_eq_true rfl)) rfl rfl (fun c2513 => ?_) (fun c2513 => absurd (Classical.not_not.mp c2513) (sf_neq2 B2512 sf_k0 (by decide)))
                have k2514 := sf_lneC e2511 c2513
                refine pm_R_lo pm_M189 (pc_q := 227) (pm_q189_2 (Nat.le_of_ble_eq_true rfl)) rfl rfl ?_
                refine pm_R_op pm_M189 (pc_q := 228) (st_q := [.int 1, .ref 41]) (pm_q189_2 (Nat.le_of_ble_eq_true rfl)) rfl rfl ?_
                refine pm_R_op pm_M189 (pc_q := 229) (st_q := [.int 2, .int 1, .ref 41]) (pm_q189_2 (Nat.le_of_ble_eq_true rfl)) rfl rfl ?_
                refine pm_R_op pm_M189 (pc_q := 230) (st_q := [.int 3, .int 2, .int 1, .ref 41]) (pm_q189_2 (Nat.le_of_ble_eq_true rfl)) rfl rfl ?_
                refine pm_R_op pm_M189 (pc_q := 232) (st_q := [.int 50, .int 3, .int 2, .int 1, .ref 41]) (pm_q189_2 (Nat.le_of_ble_eq_true rfl)) rfl rfl ?_
                refine pm_R_op pm_M189 (pc_q := 233) (st_q := [.int 0, .int 50, .int 3, .int 2, .int 1, .ref 41]) (pm_q189_2 (Nat.le_of_ble_eq_true rfl)) rfl rfl ?_
                refine pm_R_cv pm_M189 (pc_q := 236) (a := 41) (ra := [.int 0, .int 50, .int 3, .int 2, .int 1]) (rest := []) (ls_q := [.ref 41, .int 1, .int 2, .int 3, .int 50, .int 0, pm_no, pm_no]) (pm_q189_2 (Nat.le_of_ble_eq_true rfl)) rfl (Or.inl rfl) pm_M185 T2494.2.1 rfl (by decide) (Nat.lt_of_lt_of_le (by decide) T2494.1) rfl rfl (Nat.le_of_ble_eq_true rfl) rfl rfl ?_
                have e2515 := (F2495.cell (by decide) (F2278.cell (by decide) (F2229.cell (by decide) (F1850.cell (by decide) (F1832.cell (by decide) (F1824.cell (by decide) (F1819.cell (by decide) (F1814.cell (by decide) (F1809.cell (by decide) (F1787.cell (by decide) (F1771.cell (by decide) e3)))))))))))
                refine rf_c185_d (d := d + 3) T2494 (⟨f2, e2515, ct4, fun z => (sf_pos B2503 (by decide) z)⟩) (fun z => sf_pos B2503 (by decide) z) (fun m2518 w2519 h2520 T2521 F2522 W2523 X2524 => ?_)
                have F2525 := F2498.trans F2522 (by decide)
                have B2526 : sf_B 0 600 (m2518 10) := by rw [W2523 10 (by decide)]; exact B2499
                have ek2527 : (m2518 10).toInt = ((m2274 10)).toInt := by rw [W2523 10 (by decide)]; exact ek2500
                have B2528 : sf_B 0 4 (m2518 13) := by rw [W2523 13 (by decide)]; exact B2501
                have ek2529 : (m2518 13).toInt = ((m2274 13)).toInt := by rw [W2523 13 (by decide)]; exact ek2502
                have B2530 : sf_B 1 4 (m2518 17) := by rw [W2523 17 (by decide)]; exact B2503
                have ek2531 : (m2518 17).toInt = ((m2274 17)).toInt := by rw [W2523 17 (by decide)]; exact ek2504
                have B2532 : sf_B 0 0 (m2518 22) := by rw [W2523 22 (by decide)]; exact B2505
                have ek2533 : (m2518 22).toInt = ((m2274 22)).toInt := by rw [W2523 22 (by decide)]; exact ek2506
                have B2534 : sf_B 1 99 (m2518 21) := by rw [W2523 21 (by decide)]; exact B2507
                have ek2535 : (m2518 21).toInt = (v2435).toInt := by rw [W2523 21 (by decide)]; exact ek2508
                have W2536 : rf_W [10, 12, 13, 14, 16, 17, 18, 21, 22] m m2518 := W2509.trans W2523 (by decide)
                show pm_R _ 189 236 [.ref 41, .long a0, pm_no, .int a1, pm_no] [] _ _
                obtain ⟨f2537, e2538, ct2539, bd2540⟩ := X2524
                refine pm_R_op pm_M189 (pc_q := 237) (st_q := [.int 1]) (pm_q189_2 (Nat.le_of_ble_eq_true rfl)) rfl rfl ?_
                exact pm_R_ret pm_M189 (r := some (.int 1)) (pm_q189_2 (Nat.le_of_ble_eq_true rfl)) rfl (K1 m2518 w2519 h2520 T2521 F2525 W2536 (⟨f2537, e2538, ct2539, fun z => (sf_pos B2530 (by decide) z)⟩) (sf_aux39 _ _ _ ek2527 R2434))
        · have F2541 := F1834.trans F1863 (by decide)
          have W2542 : rf_W [10, 12, 13, 14, 16, 17, 18, 21, 22] m m1859 := W1796.trans W1864 (by decide)
          have B2543 : sf_B 0 600 (m1859 10) := T1862.2.2.1 10
          have B2544 : sf_B 0 4 (m1859 13) := T1862.2.2.1 13
          have B2545 : sf_B 0 4 (m1859 17) := T1862.2.2.1 17
          have B2546 : sf_B 0 1 (m1859 22) := T1862.2.2.1 22
          show pm_R _ 191 7 [.ref 41, .int 1, .int (-1), pm_no] [.int 1] _ _
          have R2547 : (m 10).toInt ≤ (m1859 10).toInt := (sf_aux70 _ _ _ R1799 X1867)
          obtain ⟨v2548, B2549, e2550⟩ := X1865 _ e1833
          refine pm_R_lo pm_M191 (pc_q := 8) (ls_q := [.ref 41, .int 1, .int (-1), .int 1]) (st_q := []) rfl rfl rfl ?_
          refine pm_R_lo pm_M191 (pc_q := 9) rfl rfl rfl ?_
          refine pm_R_lo pm_M191 (pc_q := 10) rfl rfl rfl ?_
          refine pm_R_br pm_M191 (pc_q := 13) (st_q := [.ref 41]) rfl rfl ?_
          refine pm_R_lo pm_M191 (pc_q := 14) rfl rfl rfl ?_
          refine rf_R_get pm_M191 T1862 (pc_q := 17) (v := .ref 52) rfl rfl rfl rfl ?_
          refine pm_R_lo pm_M191 (pc_q := 18) rfl rfl rfl ?_
          refine pm_R_iald pm_M191 (pc_q := 19) (v := v2548) rfl e2550 (Nat.lt_of_lt_of_le (by decide) T1862.1) rfl sf_upd_eq rfl ?_
          refine pm_R_lo pm_M191 (pc_q := 20) rfl rfl rfl ?_
          have B2553 : sf_B (-1) 99 (m1859 21) := T1862.2.2.1 21
          refine rf_R_get pm_M191 T1862 (pc_q := 23) (v := .int (m1859 21)) rfl rfl rfl rfl ?_
          refine pm_R_icmp pm_M191 (t := 35) (pc_q := 26) rfl rfl rfl (fun c2554 => ?_) (fun c2554 => ?_)
          · have B2555 : sf_B 0 99 (m1859 21) := sf_leR c2554 B2549 B2553
            refine pm_R_lo pm_M191 (pc_q := 36) rfl rfl rfl ?_
            refine rf_R_get pm_M191 T1862 (pc_q := 39) (v := .int (m1859 21)) rfl rfl rfl rfl ?_
            refine rf_R_put pm_M191 T1862 (pc_q := 42) rfl rfl rfl (by decide) rfl rfl (sf_weak B2555 (by decide) (by decide)) rfl rfl (fun h2556 m2559 em2560 T2557 F2558 => ?_)
            have F2561 := F2541.trans F2558 (by decide)
            have B2562 : sf_B 0 600 (m2559 10) := by rw [em2560]; exact B2543
            have ek2563 : (m2559 10).toInt = ((m1859 10)).toInt := by rw [em2560]; rfl
            have B2564 : sf_B 0 4 (m2559 13) := by rw [em2560]; exact B2544
            have ek2565 : (m2559 13).toInt = ((m1859 13)).toInt := by rw [em2560]; rfl
            have B2566 : sf_B 1 4 (m2559 17) := by rw [em2560]; exact B1868
            have ek2567 : (m2559 17).toInt = ((m1859 17)).toInt := by rw [em2560]; rfl
            have B2568 : sf_B 0 0 (m2559 22) := by rw [em2560]; exact B1869
            have ek2569 : (m2559 22).toInt = ((m1859 22)).toInt := by rw [em2560]; rfl
            have B2570 : sf_B 0 99 (m2559 21) := by rw [em2560]; exact B2555
            have ek2571 : (m2559 21).toInt = ((m1859 21)).toInt := by rw [em2560]; rfl
            have W2572 : rf_W [10, 12, 13, 14, 16, 17, 18, 21, 22] m m2559 := by rw [em2560]; exact W2542.put (by decide)
            refine pm_R_lo pm_M191 (pc_q := 43) rfl rfl rfl ?_
            refine pm_R_ret pm_M191 (r := some (.int 1)) rfl rfl ?_
            show pm_R _ 189 178 [.ref 41, .long a0, pm_no, .int a1, pm_no] [.int 1] _ _
            refine pm_R_br pm_M189 (pc_q := 183) (st_q := []) (pm_q189_1 (Nat.le_of_ble_eq_true rfl)) rfl ?_
            refine pm_R_lo pm_M189 (pc_q := 184) (pm_q189_1 (Nat.le_of_ble_eq_true rfl)) rfl rfl ?_
            refine pm_R_ldc2 pm_M189 (pc_q := 187) (pm_q189_1 (Nat.le_of_ble_eq_true rfl)) rfl rfl ?_
            refine pm_R_op pm_M189 (pc_q := 188) (st_q := [.int z342]) (pm_q189_1 (Nat.le_of_ble_eq_true rfl)) (by show some (Value.int (lg_cmp a0 1819242347) :: _) = _; rw [← e343]) rfl ?_
            refine pm_R_ifc pm_M189 (t := 205) (pc_q := 191) (pm_q189_1 (Nat.le_of_ble_eq_true rfl)) rfl rfl (fun c2575 => absurd (sf_pt2 B345 sf_k0) c2575) (fun c2575 => ?_)
            refine pm_R_lo pm_M189 (pc_q := 192) (pm_q189_1 (Nat.le_of_ble_eq_true rfl)) rfl rfl ?_
            refine pm_R_op pm_M189 (pc_q := 193) (st_q := [.int 2, .ref 41]) (pm_q189_1 (Nat.le_of_ble_eq_true rfl)) rfl rfl ?_
            refine pm_R_lo pm_M189 (pc_q := 194) (pm_q189_1 (Nat.le_of_ble_eq_true rfl)) rfl rfl ?_
            refine rf_R_get pm_M189 T2557 (pc_q := 197) (v := .ref 52) (pm_q189_1 (Nat.le_of_ble_eq_true rfl)) rfl rfl rfl ?_
            refine pm_R_op pm_M189 (pc_q := 198) (st_q := [.int 1, .ref 52, .int 2, .ref 41]) (pm_q189_1 (Nat.le_of_ble_eq_true rfl)) rfl rfl ?_
            have e2576 := (F2558.cell (by decide) e2550)
            refine pm_R_iald pm_M189 (pc_q := 199) (v := v2548) (pm_q189_1 (Nat.le_of_ble_eq_true rfl)) e2576 (Nat.lt_of_lt_of_le (by decide) T2557.1) rfl sf_upd_eq rfl ?_
            refine pm_R_cv pm_M189 (pc_q := 202) (a := 41) (ra := [.int v2548, .int 2]) (rest := []) (ls_q := [.ref 41, .int 2, .int v2548, pm_no]) (pm_q189_1 (Nat.le_of_ble_eq_true rfl)) rfl (Or.inl rfl) pm_M191 T2557.2.1 rfl (by decide) (Nat.lt_of_lt_of_le (by decide) T2557.1) rfl rfl (Nat.le_of_ble_eq_true rfl) rfl rfl ?_
            refine pm_R_lo pm_M191 (pc_q := 1) rfl rfl rfl ?_
            refine pm_R_lo pm_M191 (pc_q := 2) rfl rfl rfl ?_
            refine pm_R_op pm_M191 (pc_q := 3) (st_q := [.int 5, .int 2, .ref 41]) rfl rfl rfl ?_
            refine pm_R_lo pm_M191 (pc_q := 4) rfl rfl rfl ?_
            refine pm_R_cv pm_M191 (pc_q := 7) (a := 41) (ra := [.int v2548, .int 5, .int 2]) (rest := []) (ls_q := [.ref 41, .int 2, .int 5, .int v2548]) rfl rfl (Or.inl rfl) pm_M183 T2557.2.1 rfl (by decide) (Nat.lt_of_lt_of_le (by decide) T2557.1) rfl rfl (Nat.le_of_ble_eq_true rfl) rfl rfl ?_
            refine rf_c183_2_5 (d := d + 0) T2557  (fun m2581 w2582 h2583 T2584 F2585 W2586 X2587 => ?_) (fun m2590 w2591 h2592 T2593 F2594 W2595 X2596 X2597 X2598 X2599 X2600 => ?_) (fun m2603 w2604 h2605 T2606 F2607 W2608 X2609 X2610 X2611 B2612 B2613 => ?_)
            · have F2614 := F2561.trans F2585 (by decide)
              have B2615 : sf_B 0 99 (m2581 21) := by rw [W2586 21 (by decide)]; exact B2570
              have ek2616 : (m2581 21).toInt = ((m1859 21)).toInt := by rw [W2586 21 (by decide)]; exact ek2571
              have W2617 : rf_W [10, 12, 13, 14, 16, 17, 18, 21, 22] m m2581 := W2572.trans W2586 (by decide)
              have B2618 : sf_B 0 600 (m2581 10) := T2584.2.2.1 10
              have B2619 : sf_B 0 4 (m2581 13) := T2584.2.2.1 13
              have B2620 : sf_B 0 4 (m2581 17) := T2584.2.2.1 17
              have B2621 : sf_B 0 1 (m2581 22) := T2584.2.2.1 22
              show pm_R _ 191 7 [.ref 41, .int 2, .int v2548, pm_no] [.int 0] _ _
              have R2622 : (m 10).toInt ≤ (m2581 10).toInt := (sf_aux76 _ _ _ _ ek2563 R2547 X2587)
              refine pm_R_lo pm_M191 (pc_q := 8) (ls_q := [.ref 41, .int 2, .int v2548, .int 0]) (st_q := []) rfl rfl rfl ?_
              refine pm_R_lo pm_M191 (pc_q := 9) rfl rfl rfl ?_
              refine pm_R_lo pm_M191 (pc_q := 10) rfl rfl rfl ?_
              refine pm_R_br pm_M191 (pc_q := 35) (st_q := [.ref 41]) rfl rfl ?_
              refine pm_R_lo pm_M191 (pc_q := 36) rfl rfl rfl ?_
              refine rf_R_get pm_M191 T2584 (pc_q := 39) (v := .int (m2581 21)) rfl rfl rfl rfl ?_
              refine rf_R_put pm_M191 T2584 (pc_q := 42) rfl rfl rfl (by decide) rfl rfl (sf_weak B2615 (by decide) (by decide)) rfl rfl (fun h2623 m2626 em2627 T2624 F2625 => ?_)
              have F2628 := F2614.trans F2625 (by decide)
              have B2629 : sf_B 0 600 (m2626 10) := by rw [em2627]; exact B2618
              have ek2630 : (m2626 10).toInt = ((m2581 10)).toInt := by rw [em2627]; rfl
              have B2631 : sf_B 0 4 (m2626 13) := by rw [em2627]; exact B2619
              have ek2632 : (m2626 13).toInt = ((m2581 13)).toInt := by rw [em2627]; rfl
              have B2633 : sf_B 0 4 (m2626 17) := by rw [em2627]; exact B2620
              have ek2634 : (m2626 17).toInt = ((m2581 17)).toInt := by rw [em2627]; rfl
              have B2635 : sf_B 0 1 (m2626 22) := by rw [em2627]; exact B2621
              have ek2636 : (m2626 22).toInt = ((m2581 22)).toInt := by rw [em2627]; rfl
              have B2637 : sf_B 0 99 (m2626 21) := by rw [em2627]; exact B2615
              have ek2638 : (m2626 21).toInt = ((m2581 21)).toInt := by rw [em2627]; rfl
              have W2639 : rf_W [10, 12, 13, 14, 16, 17, 18, 21, 22] m m2626 := by rw [em2627]; exact W2617.put (by decide)
              refine pm_R_lo pm_M191 (pc_q := 43) rfl rfl rfl ?_
              refine pm_R_ret pm_M191 (r := some (.int 0)) rfl rfl ?_
              show pm_R _ 189 202 [.ref 41, .long a0, pm_no, .int a1, pm_no] [.int 0] _ _
              refine pm_R_br pm_M189 (pc_q := 224) (st_q := []) (pm_q189_1 (Nat.le_of_ble_eq_true rfl)) rfl ?_
              refine pm_R_op pm_M189 (pc_q := 225) (st_q := [.int 0]) (pm_q189_2 (Nat.le_of_ble_eq_true rfl)) rfl rfl ?_
              exact pm_R_ret pm_M189 (r := some (.int 0)) (pm_q189_2 (Nat.le_of_ble_eq_true rfl)) rfl (K0 m2626 w2582 h2623 T2624 F2628 W2639 (sf_aux39 _ _ _ ek2630 R2622))
            · have F2640 := F2561.trans F2594 (by decide)
              have B2641 : sf_B 0 99 (m2590 21) := by rw [W2595 21 (by decide)]; exact B2570
              have ek2642 : (m2590 21).toInt = ((m1859 21)).toInt := by rw [W2595 21 (by decide)]; exact ek2571
              have W2643 : rf_W [10, 12, 13, 14, 16, 17, 18, 21, 22] m m2590 := W2572.trans W2595 (by decide)
              have B2644 : sf_B 0 600 (m2590 10) := T2593.2.2.1 10
              have B2645 : sf_B 0 4 (m2590 13) := T2593.2.2.1 13
              have B2646 : sf_B 0 4 (m2590 17) := T2593.2.2.1 17
              have B2647 : sf_B 0 1 (m2590 22) := T2593.2.2.1 22
              show pm_R _ 191 7 [.ref 41, .int 2, .int v2548, pm_no] [.int 1] _ _
              have R2648 : (m 10).toInt ≤ (m2590 10).toInt := (sf_aux76 _ _ _ _ ek2563 R2547 X2600)
              obtain ⟨v2649, B2650, e2651⟩ := X2596 _ e2576
              refine pm_R_lo pm_M191 (pc_q := 8) (ls_q := [.ref 41, .int 2, .int v2548, .int 1]) (st_q := []) rfl rfl rfl ?_
              refine pm_R_lo pm_M191 (pc_q := 9) rfl rfl rfl ?_
              refine pm_R_lo pm_M191 (pc_q := 10) rfl rfl rfl ?_
              refine pm_R_br pm_M191 (pc_q := 13) (st_q := [.ref 41]) rfl rfl ?_
              refine pm_R_lo pm_M191 (pc_q := 14) rfl rfl rfl ?_
              refine rf_R_get pm_M191 T2593 (pc_q := 17) (v := .ref 52) rfl rfl rfl rfl ?_
              refine pm_R_lo pm_M191 (pc_q := 18) rfl rfl rfl ?_
              refine pm_R_iald pm_M191 (pc_q := 19) (v := v2649) rfl e2651 (Nat.lt_of_lt_of_le (by decide) T2593.1) rfl sf_upd_eq rfl ?_
              refine pm_R_lo pm_M191 (pc_q := 20) rfl rfl rfl ?_
              refine rf_R_get pm_M191 T2593 (pc_q := 23) (v := .int (m2590 21)) rfl rfl rfl rfl ?_
              refine pm_R_icmp pm_M191 (t := 35) (pc_q := 26) rfl rfl rfl (fun c2654 => ?_) (fun c2654 => ?_)
              · skip
                refine pm_R_lo pm_M191 (pc_q := 36) rfl rfl rfl ?_
                refine rf_R_get pm_M191 T2593 (pc_q := 39) (v := .int (m2590 21)) rfl rfl rfl rfl ?_
                refine rf_R_put pm_M191 T2593 (pc_q := 42) rfl rfl rfl (by decide) rfl rfl (sf_weak B2641 (by decide) (by decide)) rfl rfl (fun h2655 m2658 em2659 T2656 F2657 => ?_)
                have F2660 := F2640.trans F2657 (by decide)
                have B2661 : sf_B 0 600 (m2658 10) := by rw [em2659]; exact B2644
                have ek2662 : (m2658 10).toInt = ((m2590 10)).toInt := by rw [em2659]; rfl
                have B2663 : sf_B 0 4 (m2658 13) := by rw [em2659]; exact B2645
                have ek2664 : (m2658 13).toInt = ((m2590 13)).toInt := by rw [em2659]; rfl
                have B2665 : sf_B 1 4 (m2658 17) := by rw [em2659]; exact (sf_eqT X2597 B2566)
                have ek2666 : (m2658 17).toInt = ((m2559 17)).toInt := by rw [em2659]; exact X2597
                have B2667 : sf_B 0 0 (m2658 22) := by rw [em2659]; exact (sf_eqT X2598 B2568)
                have ek2668 : (m2658 22).toInt = ((m2559 22)).toInt := by rw [em2659]; exact X2598
                have B2669 : sf_B 0 99 (m2658 21) := by rw [em2659]; exact B2641
                have ek2670 : (m2658 21).toInt = ((m2590 21)).toInt := by rw [em2659]; rfl
                have W2671 : rf_W [10, 12, 13, 14, 16, 17, 18, 21, 22] m m2658 := by rw [em2659]; exact W2643.put (by decide)
                refine pm_R_lo pm_M191 (pc_q := 43) rfl rfl rfl ?_
                refine pm_R_ret pm_M191 (r := some (.int 1)) rfl rfl ?_
                show pm_R _ 189 202 [.ref 41, .long a0, pm_no, .int a1, pm_no] [.int 1] _ _
                refine pm_R_br pm_M189 (pc_q := 205) (st_q := []) (pm_q189_1 (Nat.le_of_ble_eq_true rfl)) rfl ?_
                refine pm_R_lo pm_M189 (pc_q := 206) (pm_q189_1 (Nat.le_of_ble_eq_true rfl)) rfl rfl ?_
                refine pm_R_ldc2 pm_M189 (pc_q := 209) (pm_q189_1 (Nat.le_of_ble_eq_true rfl)) rfl rfl ?_
                refine sf_R_lcmp pm_M189 (pc_q := 210) (pm_q189_1 (Nat.le_of_ble_eq_true rfl)) rfl (fun z2672 e2673 => ?_)
                have B2674 : sf_B (-2147483648) (-1) z2672 := lf_cmpLt e2673 B346 (⟨by decide, by decide⟩ : lf_B 1935767923 1935767923 1935767923) (by decide)
                refine pm_R_ifc pm_M189 (t := 226) (pc_q := 213) (pm_q189_1 (Nat.le_of_ble_eq_true rfl)) rfl rfl (fun c2675 => ?_) (fun c2675 => absurd (Classical.not_not.mp c2675) (sf_neq2 B2674 sf_k0 (by decide)))
                have k2676 := sf_lneC e2673 c2675
                refine pm_R_lo pm_M189 (pc_q := 227) (pm_q189_2 (Nat.le_of_ble_eq_true rfl)) rfl rfl ?_
                refine pm_R_op pm_M189 (pc_q := 228) (st_q := [.int 1, .ref 41]) (pm_q189_2 (Nat.le_of_ble_eq_true rfl)) rfl rfl ?_
                refine pm_R_op pm_M189 (pc_q := 229) (st_q := [.int 2, .int 1, .ref 41]) (pm_q189_2 (Nat.le_of_ble_eq_true rfl)) rfl rfl ?_
                refine pm_R_op pm_M189 (pc_q := 230) (st_q := [.int 3, .int 2, .int 1, .ref 41]) (pm_q189_2 (Nat.le_of_ble_eq_true rfl)) rfl rfl ?_
                refine pm_R_op pm_M189 (pc_q := 232) (st_q := [.int 50, .int 3, .int 2, .int 1, .ref 41]) (pm_q189_2 (Nat.le_of_ble_eq_true rfl)) rfl rfl ?_
                refine pm_R_op pm_M189 (pc_q := 233) (st_q := [.int 0, .int 50, .int 3, .int 2, .int 1, .ref 41]) (pm_q189_2 (Nat.le_of_ble_eq_true rfl)) rfl rfl ?_
                refine pm_R_cv pm_M189 (pc_q := 236) (a := 41) (ra := [.int 0, .int 50, .int 3, .int 2, .int 1]) (rest := []) (ls_q := [.ref 41, .int 1, .int 2, .int 3, .int 50, .int 0, pm_no, pm_no]) (pm_q189_2 (Nat.le_of_ble_eq_true rfl)) rfl (Or.inl rfl) pm_M185 T2656.2.1 rfl (by decide) (Nat.lt_of_lt_of_le (by decide) T2656.1) rfl rfl (Nat.le_of_ble_eq_true rfl) rfl rfl ?_
                have e2677 := (F2657.cell (by decide) (F2594.cell (by decide) (F2558.cell (by decide) (F1863.cell (by decide) (F1832.cell (by decide) (F1824.cell (by decide) (F1819.cell (by decide) (F1814.cell (by decide) (F1809.cell (by decide) (F1787.cell (by decide) (F1771.cell (by decide) e3)))))))))))
                refine rf_c185_d (d := d + 3) T2656 (⟨f2, e2677, ct4, fun z => (sf_pos B2665 (by decide) z)⟩) (fun z => sf_pos B2665 (by decide) z) (fun m2680 w2681 h2682 T2683 F2684 W2685 X2686 => ?_)
                have F2687 := F2660.trans F2684 (by decide)
                have B2688 : sf_B 0 600 (m2680 10) := by rw [W2685 10 (by decide)]; exact B2661
                have ek2689 : (m2680 10).toInt = ((m2590 10)).toInt := by rw [W2685 10 (by decide)]; exact ek2662
                have B2690 : sf_B 0 4 (m2680 13) := by rw [W2685 13 (by decide)]; exact B2663
                have ek2691 : (m2680 13).toInt = ((m2590 13)).toInt := by rw [W2685 13 (by decide)]; exact ek2664
                have B2692 : sf_B 1 4 (m2680 17) := by rw [W2685 17 (by decide)]; exact B2665
                have ek2693 : (m2680 17).toInt = ((m2559 17)).toInt := by rw [W2685 17 (by decide)]; exact ek2666
                have B2694 : sf_B 0 0 (m2680 22) := by rw [W2685 22 (by decide)]; exact B2667
                have ek2695 : (m2680 22).toInt = ((m2559 22)).toInt := by rw [W2685 22 (by decide)]; exact ek2668
                have B2696 : sf_B 0 99 (m2680 21) := by rw [W2685 21 (by decide)]; exact B2669
                have ek2697 : (m2680 21).toInt = ((m2590 21)).toInt := by rw [W2685 21 (by decide)]; exact ek2670
                have W2698 : rf_W [10, 12, 13, 14, 16, 17, 18, 21, 22] m m2680 := W2671.trans W2685 (by decide)
                show pm_R _ 189 236 [.ref 41, .long a0, pm_no, .int a1, pm_no] [] _ _
                obtain ⟨f2699, e2700, ct2701, bd2702⟩ := X2686
                refine pm_R_op pm_M189 (pc_q := 237) (st_q := [.int 1]) (pm_q189_2 (Nat.le_of_ble_eq_true rfl)) rfl rfl ?_
                exact pm_R_ret pm_M189 (r := some (.int 1)) (pm_q189_2 (Nat.le_of_ble_eq_true rfl)) rfl (K1 m2680 w2681 h2682 T2683 F2687 W2698 (⟨f2699, e2700, ct2701, fun z => (sf_pos B2692 (by decide) z)⟩) (sf_aux39 _ _ _ ek2689 R2648))
              · have B2703 : sf_B 0 4 (m2590 21) := sf_ltL (Int32.not_le.mp c2654) B2641 B2650
                have B2704 : sf_B 1 5 v2649 := sf_ltR (Int32.not_le.mp c2654) B2641 B2650
                refine pm_R_lo pm_M191 (pc_q := 27) rfl rfl rfl ?_
                refine rf_R_get pm_M191 T2593 (pc_q := 30) (v := .ref 52) rfl rfl rfl rfl ?_
                refine pm_R_lo pm_M191 (pc_q := 31) rfl rfl rfl ?_
                refine pm_R_iald pm_M191 (pc_q := 32) (v := v2649) rfl e2651 (Nat.lt_of_lt_of_le (by decide) T2593.1) rfl sf_upd_eq rfl ?_
                refine pm_R_br pm_M191 (pc_q := 39) rfl rfl ?_
                refine rf_R_put pm_M191 T2593 (pc_q := 42) rfl rfl rfl (by decide) rfl rfl (sf_weak B2704 (by decide) (by decide)) rfl rfl (fun h2707 m2710 em2711 T2708 F2709 => ?_)
                have F2712 := F2640.trans F2709 (by decide)
                have B2713 : sf_B 0 600 (m2710 10) := by rw [em2711]; exact B2644
                have ek2714 : (m2710 10).toInt = ((m2590 10)).toInt := by rw [em2711]; rfl
                have B2715 : sf_B 0 4 (m2710 13) := by rw [em2711]; exact B2645
                have ek2716 : (m2710 13).toInt = ((m2590 13)).toInt := by rw [em2711]; rfl
                have B2717 : sf_B 1 4 (m2710 17) := by rw [em2711]; exact (sf_eqT X2597 B2566)
                have ek2718 : (m2710 17).toInt = ((m2559 17)).toInt := by rw [em2711]; exact X2597
                have B2719 : sf_B 0 0 (m2710 22) := by rw [em2711]; exact (sf_eqT X2598 B2568)
                have ek2720 : (m2710 22).toInt = ((m2559 22)).toInt := by rw [em2711]; exact X2598
                have B2721 : sf_B 1 5 (m2710 21) := by rw [em2711]; exact B2704
                have ek2722 : (m2710 21).toInt = (v2649).toInt := by rw [em2711]; rfl
                have W2723 : rf_W [10, 12, 13, 14, 16, 17, 18, 21, 22] m m2710 := by rw [em2711]; exact W2643.put (by decide)
                refine pm_R_lo pm_M191 (pc_q := 43) rfl rfl rfl ?_
                refine pm_R_ret pm_M191 (r := some (.int 1)) rfl rfl ?_
                show pm_R _ 189 202 [.ref 41, .long a0, pm_no, .int a1, pm_no] [.int 1] _ _
                refine pm_R_br pm_M189 (pc_q := 205) (st_q := []) (pm_q189_1 (Nat.le_of_ble_eq_true rfl)) rfl ?_
                refine pm_R_lo pm_M189 (pc_q := 206) (pm_q189_1 (Nat.le_of_ble_eq_true rfl)) rfl rfl ?_
                refine pm_R_ldc2 pm_M189 (pc_q := 209) (pm_q189_1 (Nat.le_of_ble_eq_true rfl)) rfl rfl ?_
                refine sf_R_lcmp pm_M189 (pc_q := 210) (pm_q189_1 (Nat.le_of_ble_eq_true rfl)) rfl (fun z2724 e2725 => ?_)
                have B2726 : sf_B (-2147483648) (-1) z2724 := lf_cmpLt e2725 B346 (⟨by decide, by decide⟩ : lf_B 1935767923 1935767923 1935767923) (by decide)
                refine pm_R_ifc pm_M189 (t := 226) (pc_q := 213) (pm_q189_1 (Nat.le_of_ble_eq_true rfl)) rfl rfl (fun c2727 => ?_) (fun c2727 => absurd (Classical.not_not.mp c2727) (sf_neq2 B2726 sf_k0 (by decide)))
                have k2728 := sf_lneC e2725 c2727
                refine pm_R_lo pm_M189 (pc_q := 227) (pm_q189_2 (Nat.le_of_ble_eq_true rfl)) rfl rfl ?_
                refine pm_R_op pm_M189 (pc_q := 228) (st_q := [.int 1, .ref 41]) (pm_q189_2 (Nat.le_of_ble_eq_true rfl)) rfl rfl ?_
                refine pm_R_op pm_M189 (pc_q := 229) (st_q := [.int 2, .int 1, .ref 41]) (pm_q189_2 (Nat.le_of_ble_eq_true rfl)) rfl rfl ?_
                refine pm_R_op pm_M189 (pc_q := 230) (st_q := [.int 3, .int 2, .int 1, .ref 41]) (pm_q189_2 (Nat.le_of_ble_eq_true rfl)) rfl rfl ?_
                refine pm_R_op pm_M189 (pc_q := 232) (st_q := [.int 50, .int 3, .int 2, .int 1, .ref 41]) (pm_q189_2 (Nat.le_of_ble_eq_true rfl)) rfl rfl ?_
                refine pm_R_op pm_M189 (pc_q := 233) (st_q := [.int 0, .int 50, .int 3, .int 2, .int 1, .ref 41]) (pm_q189_2 (Nat.le_of_ble_eq_true rfl)) rfl rfl ?_
                refine pm_R_cv pm_M189 (pc_q := 236) (a := 41) (ra := [.int 0, .int 50, .int 3, .int 2, .int 1]) (rest := []) (ls_q := [.ref 41, .int 1, .int 2, .int 3, .int 50, .int 0, pm_no, pm_no]) (pm_q189_2 (Nat.le_of_ble_eq_true rfl)) rfl (Or.inl rfl) pm_M185 T2708.2.1 rfl (by decide) (Nat.lt_of_lt_of_le (by decide) T2708.1) rfl rfl (Nat.le_of_ble_eq_true rfl) rfl rfl ?_
                have e2729 := (F2709.cell (by decide) (F2594.cell (by decide) (F2558.cell (by decide) (F1863.cell (by decide) (F1832.cell (by decide) (F1824.cell (by decide) (F1819.cell (by decide) (F1814.cell (by decide) (F1809.cell (by decide) (F1787.cell (by decide) (F1771.cell (by decide) e3)))))))))))
                refine rf_c185_d (d := d + 3) T2708 (⟨f2, e2729, ct4, fun z => (sf_pos B2717 (by decide) z)⟩) (fun z => sf_pos B2717 (by decide) z) (fun m2732 w2733 h2734 T2735 F2736 W2737 X2738 => ?_)
                have F2739 := F2712.trans F2736 (by decide)
                have B2740 : sf_B 0 600 (m2732 10) := by rw [W2737 10 (by decide)]; exact B2713
                have ek2741 : (m2732 10).toInt = ((m2590 10)).toInt := by rw [W2737 10 (by decide)]; exact ek2714
                have B2742 : sf_B 0 4 (m2732 13) := by rw [W2737 13 (by decide)]; exact B2715
                have ek2743 : (m2732 13).toInt = ((m2590 13)).toInt := by rw [W2737 13 (by decide)]; exact ek2716
                have B2744 : sf_B 1 4 (m2732 17) := by rw [W2737 17 (by decide)]; exact B2717
                have ek2745 : (m2732 17).toInt = ((m2559 17)).toInt := by rw [W2737 17 (by decide)]; exact ek2718
                have B2746 : sf_B 0 0 (m2732 22) := by rw [W2737 22 (by decide)]; exact B2719
                have ek2747 : (m2732 22).toInt = ((m2559 22)).toInt := by rw [W2737 22 (by decide)]; exact ek2720
                have B2748 : sf_B 1 5 (m2732 21) := by rw [W2737 21 (by decide)]; exact B2721
                have ek2749 : (m2732 21).toInt = (v2649).toInt := by rw [W2737 21 (by decide)]; exact ek2722
                have W2750 : rf_W [10, 12, 13, 14, 16, 17, 18, 21, 22] m m2732 := W2723.trans W2737 (by decide)
                show pm_R _ 189 236 [.ref 41, .long a0, pm_no, .int a1, pm_no] [] _ _
                obtain ⟨f2751, e2752, ct2753, bd2754⟩ := X2738
                refine pm_R_op pm_M189 (pc_q := 237) (st_q := [.int 1]) (pm_q189_2 (Nat.le_of_ble_eq_true rfl)) rfl rfl ?_
                exact pm_R_ret pm_M189 (r := some (.int 1)) (pm_q189_2 (Nat.le_of_ble_eq_true rfl)) rfl (K1 m2732 w2733 h2734 T2735 F2739 W2750 (⟨f2751, e2752, ct2753, fun z => (sf_pos B2744 (by decide) z)⟩) (sf_aux39 _ _ _ ek2741 R2648))
            · have F2755 := F2561.trans F2607 (by decide)
              have B2756 : sf_B 0 99 (m2603 21) := by rw [W2608 21 (by decide)]; exact B2570
              have ek2757 : (m2603 21).toInt = ((m1859 21)).toInt := by rw [W2608 21 (by decide)]; exact ek2571
              have W2758 : rf_W [10, 12, 13, 14, 16, 17, 18, 21, 22] m m2603 := W2572.trans W2608 (by decide)
              have B2759 : sf_B 0 600 (m2603 10) := T2606.2.2.1 10
              have B2760 : sf_B 0 4 (m2603 13) := T2606.2.2.1 13
              have B2761 : sf_B 0 4 (m2603 17) := T2606.2.2.1 17
              have B2762 : sf_B 0 1 (m2603 22) := T2606.2.2.1 22
              show pm_R _ 191 7 [.ref 41, .int 2, .int v2548, pm_no] [.int 1] _ _
              have R2763 : (m 10).toInt ≤ (m2603 10).toInt := (sf_aux76 _ _ _ _ ek2563 R2547 X2611)
              obtain ⟨v2764, B2765, e2766⟩ := X2609 _ e2576
              refine pm_R_lo pm_M191 (pc_q := 8) (ls_q := [.ref 41, .int 2, .int v2548, .int 1]) (st_q := []) rfl rfl rfl ?_
              refine pm_R_lo pm_M191 (pc_q := 9) rfl rfl rfl ?_
              refine pm_R_lo pm_M191 (pc_q := 10) rfl rfl rfl ?_
              refine pm_R_br pm_M191 (pc_q := 13) (st_q := [.ref 41]) rfl rfl ?_
              refine pm_R_lo pm_M191 (pc_q := 14) rfl rfl rfl ?_
              refine rf_R_get pm_M191 T2606 (pc_q := 17) (v := .ref 52) rfl rfl rfl rfl ?_
              refine pm_R_lo pm_M191 (pc_q := 18) rfl rfl rfl ?_
              refine pm_R_iald pm_M191 (pc_q := 19) (v := v2764) rfl e2766 (Nat.lt_of_lt_of_le (by decide) T2606.1) rfl sf_upd_eq rfl ?_
              refine pm_R_lo pm_M191 (pc_q := 20) rfl rfl rfl ?_
              refine rf_R_get pm_M191 T2606 (pc_q := 23) (v := .int (m2603 21)) rfl rfl rfl rfl ?_
              refine pm_R_icmp pm_M191 (t := 35) (pc_q := 26) rfl rfl rfl (fun c2769 => ?_) (fun c2769 => ?_)
              · skip
                refine pm_R_lo pm_M191 (pc_q := 36) rfl rfl rfl ?_
                refine rf_R_get pm_M191 T2606 (pc_q := 39) (v := .int (m2603 21)) rfl rfl rfl rfl ?_
                refine rf_R_put pm_M191 T2606 (pc_q := 42) rfl rfl rfl (by decide) rfl rfl (sf_weak B2756 (by decide) (by decide)) rfl rfl (fun h2770 m2773 em2774 T2771 F2772 => ?_)
                have F2775 := F2755.trans F2772 (by decide)
                have B2776 : sf_B 0 600 (m2773 10) := by rw [em2774]; exact B2759
                have ek2777 : (m2773 10).toInt = ((m2603 10)).toInt := by rw [em2774]; rfl
                have B2778 : sf_B 0 4 (m2773 13) := by rw [em2774]; exact B2760
                have ek2779 : (m2773 13).toInt = ((m2603 13)).toInt := by rw [em2774]; rfl
                have B2780 : sf_B 1 4 (m2773 17) := by rw [em2774]; exact B2612
                have ek2781 : (m2773 17).toInt = ((m2603 17)).toInt := by rw [em2774]; rfl
                have B2782 : sf_B 0 0 (m2773 22) := by rw [em2774]; exact B2613
                have ek2783 : (m2773 22).toInt = ((m2603 22)).toInt := by rw [em2774]; rfl
                have B2784 : sf_B 0 99 (m2773 21) := by rw [em2774]; exact B2756
                have ek2785 : (m2773 21).toInt = ((m2603 21)).toInt := by rw [em2774]; rfl
                have W2786 : rf_W [10, 12, 13, 14, 16, 17, 18, 21, 22] m m2773 := by rw [em2774]; exact W2758.put (by decide)
                refine pm_R_lo pm_M191 (pc_q := 43) rfl rfl rfl ?_
                refine pm_R_ret pm_M191 (r := some (.int 1)) rfl rfl ?_
                show pm_R _ 189 202 [.ref 41, .long a0, pm_no, .int a1, pm_no] [.int 1] _ _
                refine pm_R_br pm_M189 (pc_q := 205) (st_q := []) (pm_q189_1 (Nat.le_of_ble_eq_true rfl)) rfl ?_
                refine pm_R_lo pm_M189 (pc_q := 206) (pm_q189_1 (Nat.le_of_ble_eq_true rfl)) rfl rfl ?_
                refine pm_R_ldc2 pm_M189 (pc_q := 209) (pm_q189_1 (Nat.le_of_ble_eq_true rfl)) rfl rfl ?_
                refine sf_R_lcmp pm_M189 (pc_q := 210) (pm_q189_1 (Nat.le_of_ble_eq_true rfl)) rfl (fun z2787 e2788 => ?_)
                have B2789 : sf_B (-2147483648) (-1) z2787 := lf_cmpLt e2788 B346 (⟨by decide, by decide⟩ : lf_B 1935767923 1935767923 1935767923) (by decide)
                refine pm_R_ifc pm_M189 (t := 226) (pc_q := 213) (pm_q189_1 (Nat.le_of_ble_eq_true rfl)) rfl rfl (fun c2790 => ?_) (fun c2790 => absurd (Classical.not_not.mp c2790) (sf_neq2 B2789 sf_k0 (by decide)))
                have k2791 := sf_lneC e2788 c2790
                refine pm_R_lo pm_M189 (pc_q := 227) (pm_q189_2 (Nat.le_of_ble_eq_true rfl)) rfl rfl ?_
                refine pm_R_op pm_M189 (pc_q := 228) (st_q := [.int 1, .ref 41]) (pm_q189_2 (Nat.le_of_ble_eq_true rfl)) rfl rfl ?_
                refine pm_R_op pm_M189 (pc_q := 229) (st_q := [.int 2, .int 1, .ref 41]) (pm_q189_2 (Nat.le_of_ble_eq_true rfl)) rfl rfl ?_
                refine pm_R_op pm_M189 (pc_q := 230) (st_q := [.int 3, .int 2, .int 1, .ref 41]) (pm_q189_2 (Nat.le_of_ble_eq_true rfl)) rfl rfl ?_
                refine pm_R_op pm_M189 (pc_q := 232) (st_q := [.int 50, .int 3, .int 2, .int 1, .ref 41]) (pm_q189_2 (Nat.le_of_ble_eq_true rfl)) rfl rfl ?_
                refine pm_R_op pm_M189 (pc_q := 233) (st_q := [.int 0, .int 50, .int 3, .int 2, .int 1, .ref 41]) (pm_q189_2 (Nat.le_of_ble_eq_true rfl)) rfl rfl ?_
                refine pm_R_cv pm_M189 (pc_q := 236) (a := 41) (ra := [.int 0, .int 50, .int 3, .int 2, .int 1]) (rest := []) (ls_q := [.ref 41, .int 1, .int 2, .int 3, .int 50, .int 0, pm_no, pm_no]) (pm_q189_2 (Nat.le_of_ble_eq_true rfl)) rfl (Or.inl rfl) pm_M185 T2771.2.1 rfl (by decide) (Nat.lt_of_lt_of_le (by decide) T2771.1) rfl rfl (Nat.le_of_ble_eq_true rfl) rfl rfl ?_
                have e2792 := (F2772.cell (by decide) (F2607.cell (by decide) (F2558.cell (by decide) (F1863.cell (by decide) (F1832.cell (by decide) (F1824.cell (by decide) (F1819.cell (by decide) (F1814.cell (by decide) (F1809.cell (by decide) (F1787.cell (by decide) (F1771.cell (by decide) e3)))))))))))
                refine rf_c185_d (d := d + 3) T2771 (⟨f2, e2792, ct4, fun z => (sf_pos B2780 (by decide) z)⟩) (fun z => sf_pos B2780 (by decide) z) (fun m2795 w2796 h2797 T2798 F2799 W2800 X2801 => ?_)
                have F2802 := F2775.trans F2799 (by decide)
                have B2803 : sf_B 0 600 (m2795 10) := by rw [W2800 10 (by decide)]; exact B2776
                have ek2804 : (m2795 10).toInt = ((m2603 10)).toInt := by rw [W2800 10 (by decide)]; exact ek2777
                have B2805 : sf_B 0 4 (m2795 13) := by rw [W2800 13 (by decide)]; exact B2778
                have ek2806 : (m2795 13).toInt = ((m2603 13)).toInt := by rw [W2800 13 (by decide)]; exact ek2779
                have B2807 : sf_B 1 4 (m2795 17) := by rw [W2800 17 (by decide)]; exact B2780
                have ek2808 : (m2795 17).toInt = ((m2603 17)).toInt := by rw [W2800 17 (by decide)]; exact ek2781
                have B2809 : sf_B 0 0 (m2795 22) := by rw [W2800 22 (by decide)]; exact B2782
                have ek2810 : (m2795 22).toInt = ((m2603 22)).toInt := by rw [W2800 22 (by decide)]; exact ek2783
                have B2811 : sf_B 0 99 (m2795 21) := by rw [W2800 21 (by decide)]; exact B2784
                have ek2812 : (m2795 21).toInt = ((m2603 21)).toInt := by rw [W2800 21 (by decide)]; exact ek2785
                have W2813 : rf_W [10, 12, 13, 14, 16, 17, 18, 21, 22] m m2795 := W2786.trans W2800 (by decide)
                show pm_R _ 189 236 [.ref 41, .long a0, pm_no, .int a1, pm_no] [] _ _
                obtain ⟨f2814, e2815, ct2816, bd2817⟩ := X2801
                refine pm_R_op pm_M189 (pc_q := 237) (st_q := [.int 1]) (pm_q189_2 (Nat.le_of_ble_eq_true rfl)) rfl rfl ?_
                exact pm_R_ret pm_M189 (r := some (.int 1)) (pm_q189_2 (Nat.le_of_ble_eq_true rfl)) rfl (K1 m2795 w2796 h2797 T2798 F2802 W2813 (⟨f2814, e2815, ct2816, fun z => (sf_pos B2807 (by decide) z)⟩) (sf_aux39 _ _ _ ek2804 R2763))
              · have B2818 : sf_B 0 98 (m2603 21) := sf_ltL (Int32.not_le.mp c2769) B2756 B2765
                have B2819 : sf_B 1 99 v2764 := sf_ltR (Int32.not_le.mp c2769) B2756 B2765
                refine pm_R_lo pm_M191 (pc_q := 27) rfl rfl rfl ?_
                refine rf_R_get pm_M191 T2606 (pc_q := 30) (v := .ref 52) rfl rfl rfl rfl ?_
                refine pm_R_lo pm_M191 (pc_q := 31) rfl rfl rfl ?_
                refine pm_R_iald pm_M191 (pc_q := 32) (v := v2764) rfl e2766 (Nat.lt_of_lt_of_le (by decide) T2606.1) rfl sf_upd_eq rfl ?_
                refine pm_R_br pm_M191 (pc_q := 39) rfl rfl ?_
                refine rf_R_put pm_M191 T2606 (pc_q := 42) rfl rfl rfl (by decide) rfl rfl (sf_weak B2819 (by decide) (by decide)) rfl rfl (fun h2822 m2825 em2826 T2823 F2824 => ?_)
                have F2827 := F2755.trans F2824 (by decide)
                have B2828 : sf_B 0 600 (m2825 10) := by rw [em2826]; exact B2759
                have ek2829 : (m2825 10).toInt = ((m2603 10)).toInt := by rw [em2826]; rfl
                have B2830 : sf_B 0 4 (m2825 13) := by rw [em2826]; exact B2760
                have ek2831 : (m2825 13).toInt = ((m2603 13)).toInt := by rw [em2826]; rfl
                have B2832 : sf_B 1 4 (m2825 17) := by rw [em2826]; exact B2612
                have ek2833 : (m2825 17).toInt = ((m2603 17)).toInt := by rw [em2826]; rfl
                have B2834 : sf_B 0 0 (m2825 22) := by rw [em2826]; exact B2613
                have ek2835 : (m2825 22).toInt = ((m2603 22)).toInt := by rw [em2826]; rfl
                have B2836 : sf_B 1 99 (m2825 21) := by rw [em2826]; exact B2819
                have ek2837 : (m2825 21).toInt = (v2764).toInt := by rw [em2826]; rfl
                have W2838 : rf_W [10, 12, 13, 14, 16, 17, 18, 21, 22] m m2825 := by rw [em2826]; exact W2758.put (by decide)
                refine pm_R_lo pm_M191 (pc_q := 43) rfl rfl rfl ?_
                refine pm_R_ret pm_M191 (r := some (.int 1)) rfl rfl ?_
                show pm_R _ 189 202 [.ref 41, .long a0, pm_no, .int a1, pm_no] [.int 1] _ _
                refine pm_R_br pm_M189 (pc_q := 205) (st_q := []) (pm_q189_1 (Nat.le_of_ble_eq_true rfl)) rfl ?_
                refine pm_R_lo pm_M189 (pc_q := 206) (pm_q189_1 (Nat.le_of_ble_eq_true rfl)) rfl rfl ?_
                refine pm_R_ldc2 pm_M189 (pc_q := 209) (pm_q189_1 (Nat.le_of_ble_eq_true rfl)) rfl rfl ?_
                refine sf_R_lcmp pm_M189 (pc_q := 210) (pm_q189_1 (Nat.le_of_ble_eq_true rfl)) rfl (fun z2839 e2840 => ?_)
                have B2841 : sf_B (-2147483648) (-1) z2839 := lf_cmpLt e2840 B346 (⟨by decide, by decide⟩ : lf_B 1935767923 1935767923 1935767923) (by decide)
                refine pm_R_ifc pm_M189 (t := 226) (pc_q := 213) (pm_q189_1 (Nat.le_of_ble_eq_true rfl)) rfl rfl (fun c2842 => ?_) (fun c2842 => absurd (Classical.not_not.mp c2842) (sf_neq2 B2841 sf_k0 (by decide)))
                have k2843 := sf_lneC e2840 c2842
                refine pm_R_lo pm_M189 (pc_q := 227) (pm_q189_2 (Nat.le_of_ble_eq_true rfl)) rfl rfl ?_
                refine pm_R_op pm_M189 (pc_q := 228) (st_q := [.int 1, .ref 41]) (pm_q189_2 (Nat.le_of_ble_eq_true rfl)) rfl rfl ?_
                refine pm_R_op pm_M189 (pc_q := 229) (st_q := [.int 2, .int 1, .ref 41]) (pm_q189_2 (Nat.le_of_ble_eq_true rfl)) rfl rfl ?_
                refine pm_R_op pm_M189 (pc_q := 230) (st_q := [.int 3, .int 2, .int 1, .ref 41]) (pm_q189_2 (Nat.le_of_ble_eq_true rfl)) rfl rfl ?_
                refine pm_R_op pm_M189 (pc_q := 232) (st_q := [.int 50, .int 3, .int 2, .int 1, .ref 41]) (pm_q189_2 (Nat.le_of_ble_eq_true rfl)) rfl rfl ?_
                refine pm_R_op pm_M189 (pc_q := 233) (st_q := [.int 0, .int 50, .int 3, .int 2, .int 1, .ref 41]) (pm_q189_2 (Nat.le_of_ble_eq_true rfl)) rfl rfl ?_
                refine pm_R_cv pm_M189 (pc_q := 236) (a := 41) (ra := [.int 0, .int 50, .int 3, .int 2, .int 1]) (rest := []) (ls_q := [.ref 41, .int 1, .int 2, .int 3, .int 50, .int 0, pm_no, pm_no]) (pm_q189_2 (Nat.le_of_ble_eq_true rfl)) rfl (Or.inl rfl) pm_M185 T2823.2.1 rfl (by decide) (Nat.lt_of_lt_of_le (by decide) T2823.1) rfl rfl (Nat.le_of_ble_eq_true rfl) rfl rfl ?_
                have e2844 := (F2824.cell (by decide) (F2607.cell (by decide) (F2558.cell (by decide) (F1863.cell (by decide) (F1832.cell (by decide) (F1824.cell (by decide) (F1819.cell (by decide) (F1814.cell (by decide) (F1809.cell (by decide) (F1787.cell (by decide) (F1771.cell (by decide) e3)))))))))))
                refine rf_c185_d (d := d + 3) T2823 (⟨f2, e2844, ct4, fun z => (sf_pos B2832 (by decide) z)⟩) (fun z => sf_pos B2832 (by decide) z) (fun m2847 w2848 h2849 T2850 F2851 W2852 X2853 => ?_)
                have F2854 := F2827.trans F2851 (by decide)
                have B2855 : sf_B 0 600 (m2847 10) := by rw [W2852 10 (by decide)]; exact B2828
                have ek2856 : (m2847 10).toInt = ((m2603 10)).toInt := by rw [W2852 10 (by decide)]; exact ek2829
                have B2857 : sf_B 0 4 (m2847 13) := by rw [W2852 13 (by decide)]; exact B2830
                have ek2858 : (m2847 13).toInt = ((m2603 13)).toInt := by rw [W2852 13 (by decide)]; exact ek2831
                have B2859 : sf_B 1 4 (m2847 17) := by rw [W2852 17 (by decide)]; exact B2832
                have ek2860 : (m2847 17).toInt = ((m2603 17)).toInt := by rw [W2852 17 (by decide)]; exact ek2833
                have B2861 : sf_B 0 0 (m2847 22) := by rw [W2852 22 (by decide)]; exact B2834
                have ek2862 : (m2847 22).toInt = ((m2603 22)).toInt := by rw [W2852 22 (by decide)]; exact ek2835
                have B2863 : sf_B 1 99 (m2847 21) := by rw [W2852 21 (by decide)]; exact B2836
                have ek2864 : (m2847 21).toInt = (v2764).toInt := by rw [W2852 21 (by decide)]; exact ek2837
                have W2865 : rf_W [10, 12, 13, 14, 16, 17, 18, 21, 22] m m2847 := W2838.trans W2852 (by decide)
                show pm_R _ 189 236 [.ref 41, .long a0, pm_no, .int a1, pm_no] [] _ _
                obtain ⟨f2866, e2867, ct2868, bd2869⟩ := X2853
                refine pm_R_op pm_M189 (pc_q := 237) (st_q := [.int 1]) (pm_q189_2 (Nat.le_of_ble_eq_true rfl)) rfl rfl ?_
                exact pm_R_ret pm_M189 (r := some (.int 1)) (pm_q189_2 (Nat.le_of_ble_eq_true rfl)) rfl (K1 m2847 w2848 h2849 T2850 F2854 W2865 (⟨f2866, e2867, ct2868, fun z => (sf_pos B2859 (by decide) z)⟩) (sf_aux39 _ _ _ ek2856 R2763))
          · have B2870 : sf_B (-1) 98 (m1859 21) := sf_ltL (Int32.not_le.mp c2554) B2553 B2549
            refine pm_R_lo pm_M191 (pc_q := 27) rfl rfl rfl ?_
            refine rf_R_get pm_M191 T1862 (pc_q := 30) (v := .ref 52) rfl rfl rfl rfl ?_
            refine pm_R_lo pm_M191 (pc_q := 31) rfl rfl rfl ?_
            refine pm_R_iald pm_M191 (pc_q := 32) (v := v2548) rfl e2550 (Nat.lt_of_lt_of_le (by decide) T1862.1) rfl sf_upd_eq rfl ?_
            refine pm_R_br pm_M191 (pc_q := 39) rfl rfl ?_
            refine rf_R_put pm_M191 T1862 (pc_q := 42) rfl rfl rfl (by decide) rfl rfl (sf_weak B2549 (by decide) (by decide)) rfl rfl (fun h2873 m2876 em2877 T2874 F2875 => ?_)
            have F2878 := F2541.trans F2875 (by decide)
            have B2879 : sf_B 0 600 (m2876 10) := by rw [em2877]; exact B2543
            have ek2880 : (m2876 10).toInt = ((m1859 10)).toInt := by rw [em2877]; rfl
            have B2881 : sf_B 0 4 (m2876 13) := by rw [em2877]; exact B2544
            have ek2882 : (m2876 13).toInt = ((m1859 13)).toInt := by rw [em2877]; rfl
            have B2883 : sf_B 1 4 (m2876 17) := by rw [em2877]; exact B1868
            have ek2884 : (m2876 17).toInt = ((m1859 17)).toInt := by rw [em2877]; rfl
            have B2885 : sf_B 0 0 (m2876 22) := by rw [em2877]; exact B1869
            have ek2886 : (m2876 22).toInt = ((m1859 22)).toInt := by rw [em2877]; rfl
            have B2887 : sf_B 0 99 (m2876 21) := by rw [em2877]; exact B2549
            have ek2888 : (m2876 21).toInt = (v2548).toInt := by rw [em2877]; rfl
            have W2889 : rf_W [10, 12, 13, 14, 16, 17, 18, 21, 22] m m2876 := by rw [em2877]; exact W2542.put (by decide)
            refine pm_R_lo pm_M191 (pc_q := 43) rfl rfl rfl ?_
            refine pm_R_ret pm_M191 (r := some (.int 1)) rfl rfl ?_
            show pm_R _ 189 178 [.ref 41, .long a0, pm_no, .int a1, pm_no] [.int 1] _ _
            refine pm_R_br pm_M189 (pc_q := 183) (st_q := []) (pm_q189_1 (Nat.le_of_ble_eq_true rfl)) rfl ?_
            refine pm_R_lo pm_M189 (pc_q := 184) (pm_q189_1 (Nat.le_of_ble_eq_true rfl)) rfl rfl ?_
            refine pm_R_ldc2 pm_M189 (pc_q := 187) (pm_q189_1 (Nat.le_of_ble_eq_true rfl)) rfl rfl ?_
            refine pm_R_op pm_M189 (pc_q := 188) (st_q := [.int z342]) (pm_q189_1 (Nat.le_of_ble_eq_true rfl)) (by show some (Value.int (lg_cmp a0 1819242347) :: _) = _; rw [← e343]) rfl ?_
            refine pm_R_ifc pm_M189 (t := 205) (pc_q := 191) (pm_q189_1 (Nat.le_of_ble_eq_true rfl)) rfl rfl (fun c2892 => absurd (sf_pt2 B345 sf_k0) c2892) (fun c2892 => ?_)
            refine pm_R_lo pm_M189 (pc_q := 192) (pm_q189_1 (Nat.le_of_ble_eq_true rfl)) rfl rfl ?_
            refine pm_R_op pm_M189 (pc_q := 193) (st_q := [.int 2, .ref 41]) (pm_q189_1 (Nat.le_of_ble_eq_true rfl)) rfl rfl ?_
            refine pm_R_lo pm_M189 (pc_q := 194) (pm_q189_1 (Nat.le_of_ble_eq_true rfl)) rfl rfl ?_
            refine rf_R_get pm_M189 T2874 (pc_q := 197) (v := .ref 52) (pm_q189_1 (Nat.le_of_ble_eq_true rfl)) rfl rfl rfl ?_
            refine pm_R_op pm_M189 (pc_q := 198) (st_q := [.int 1, .ref 52, .int 2, .ref 41]) (pm_q189_1 (Nat.le_of_ble_eq_true rfl)) rfl rfl ?_
            have e2893 := (F2875.cell (by decide) e2550)
            refine pm_R_iald pm_M189 (pc_q := 199) (v := v2548) (pm_q189_1 (Nat.le_of_ble_eq_true rfl)) e2893 (Nat.lt_of_lt_of_le (by decide) T2874.1) rfl sf_upd_eq rfl ?_
            refine pm_R_cv pm_M189 (pc_q := 202) (a := 41) (ra := [.int v2548, .int 2]) (rest := []) (ls_q := [.ref 41, .int 2, .int v2548, pm_no]) (pm_q189_1 (Nat.le_of_ble_eq_true rfl)) rfl (Or.inl rfl) pm_M191 T2874.2.1 rfl (by decide) (Nat.lt_of_lt_of_le (by decide) T2874.1) rfl rfl (Nat.le_of_ble_eq_true rfl) rfl rfl ?_
            refine pm_R_lo pm_M191 (pc_q := 1) rfl rfl rfl ?_
            refine pm_R_lo pm_M191 (pc_q := 2) rfl rfl rfl ?_
            refine pm_R_op pm_M191 (pc_q := 3) (st_q := [.int 5, .int 2, .ref 41]) rfl rfl rfl ?_
            refine pm_R_lo pm_M191 (pc_q := 4) rfl rfl rfl ?_
            refine pm_R_cv pm_M191 (pc_q := 7) (a := 41) (ra := [.int v2548, .int 5, .int 2]) (rest := []) (ls_q := [.ref 41, .int 2, .int 5, .int v2548]) rfl rfl (Or.inl rfl) pm_M183 T2874.2.1 rfl (by decide) (Nat.lt_of_lt_of_le (by decide) T2874.1) rfl rfl (Nat.le_of_ble_eq_true rfl) rfl rfl ?_
            refine rf_c183_2_5 (d := d + 0) T2874  (fun m2898 w2899 h2900 T2901 F2902 W2903 X2904 => ?_) (fun m2907 w2908 h2909 T2910 F2911 W2912 X2913 X2914 X2915 X2916 X2917 => ?_) (fun m2920 w2921 h2922 T2923 F2924 W2925 X2926 X2927 X2928 B2929 B2930 => ?_)
            · have F2931 := F2878.trans F2902 (by decide)
              have B2932 : sf_B 0 99 (m2898 21) := by rw [W2903 21 (by decide)]; exact B2887
              have ek2933 : (m2898 21).toInt = (v2548).toInt := by rw [W2903 21 (by decide)]; exact ek2888
              have W2934 : rf_W [10, 12, 13, 14, 16, 17, 18, 21, 22] m m2898 := W2889.trans W2903 (by decide)
              have B2935 : sf_B 0 600 (m2898 10) := T2901.2.2.1 10
              have B2936 : sf_B 0 4 (m2898 13) := T2901.2.2.1 13
              have B2937 : sf_B 0 4 (m2898 17) := T2901.2.2.1 17
              have B2938 : sf_B 0 1 (m2898 22) := T2901.2.2.1 22
              show pm_R _ 191 7 [.ref 41, .int 2, .int v2548, pm_no] [.int 0] _ _
              have R2939 : (m 10).toInt ≤ (m2898 10).toInt := (sf_aux76 _ _ _ _ ek2880 R2547 X2904)
              refine pm_R_lo pm_M191 (pc_q := 8) (ls_q := [.ref 41, .int 2, .int v2548, .int 0]) (st_q := []) rfl rfl rfl ?_
              refine pm_R_lo pm_M191 (pc_q := 9) rfl rfl rfl ?_
              refine pm_R_lo pm_M191 (pc_q := 10) rfl rfl rfl ?_
              refine pm_R_br pm_M191 (pc_q := 35) (st_q := [.ref 41]) rfl rfl ?_
              refine pm_R_lo pm_M191 (pc_q := 36) rfl rfl rfl ?_
              refine rf_R_get pm_M191 T2901 (pc_q := 39) (v := .int (m2898 21)) rfl rfl rfl rfl ?_
              refine rf_R_put pm_M191 T2901 (pc_q := 42) rfl rfl rfl (by decide) rfl rfl (sf_weak B2932 (by decide) (by decide)) rfl rfl (fun h2940 m2943 em2944 T2941 F2942 => ?_)
              have F2945 := F2931.trans F2942 (by decide)
              have B2946 : sf_B 0 600 (m2943 10) := by rw [em2944]; exact B2935
              have ek2947 : (m2943 10).toInt = ((m2898 10)).toInt := by rw [em2944]; rfl
              have B2948 : sf_B 0 4 (m2943 13) := by rw [em2944]; exact B2936
              have ek2949 : (m2943 13).toInt = ((m2898 13)).toInt := by rw [em2944]; rfl
              have B2950 : sf_B 0 4 (m2943 17) := by rw [em2944]; exact B2937
              have ek2951 : (m2943 17).toInt = ((m2898 17)).toInt := by rw [em2944]; rfl
              have B2952 : sf_B 0 1 (m2943 22) := by rw [em2944]; exact B2938
              have ek2953 : (m2943 22).toInt = ((m2898 22)).toInt := by rw [em2944]; rfl
              have B2954 : sf_B 0 99 (m2943 21) := by rw [em2944]; exact B2932
              have ek2955 : (m2943 21).toInt = ((m2898 21)).toInt := by rw [em2944]; rfl
              have W2956 : rf_W [10, 12, 13, 14, 16, 17, 18, 21, 22] m m2943 := by rw [em2944]; exact W2934.put (by decide)
              refine pm_R_lo pm_M191 (pc_q := 43) rfl rfl rfl ?_
              refine pm_R_ret pm_M191 (r := some (.int 0)) rfl rfl ?_
              show pm_R _ 189 202 [.ref 41, .long a0, pm_no, .int a1, pm_no] [.int 0] _ _
              refine pm_R_br pm_M189 (pc_q := 224) (st_q := []) (pm_q189_1 (Nat.le_of_ble_eq_true rfl)) rfl ?_
              refine pm_R_op pm_M189 (pc_q := 225) (st_q := [.int 0]) (pm_q189_2 (Nat.le_of_ble_eq_true rfl)) rfl rfl ?_
              exact pm_R_ret pm_M189 (r := some (.int 0)) (pm_q189_2 (Nat.le_of_ble_eq_true rfl)) rfl (K0 m2943 w2899 h2940 T2941 F2945 W2956 (sf_aux39 _ _ _ ek2947 R2939))
            · have F2957 := F2878.trans F2911 (by decide)
              have B2958 : sf_B 0 99 (m2907 21) := by rw [W2912 21 (by decide)]; exact B2887
              have ek2959 : (m2907 21).toInt = (v2548).toInt := by rw [W2912 21 (by decide)]; exact ek2888
              have W2960 : rf_W [10, 12, 13, 14, 16, 17, 18, 21, 22] m m2907 := W2889.trans W2912 (by decide)
              have B2961 : sf_B 0 600 (m2907 10) := T2910.2.2.1 10
              have B2962 : sf_B 0 4 (m2907 13) := T2910.2.2.1 13
              have B2963 : sf_B 0 4 (m2907 17) := T2910.2.2.1 17
              have B2964 : sf_B 0 1 (m2907 22) := T2910.2.2.1 22
              show pm_R _ 191 7 [.ref 41, .int 2, .int v2548, pm_no] [.int 1] _ _
              have R2965 : (m 10).toInt ≤ (m2907 10).toInt := (sf_aux76 _ _ _ _ ek2880 R2547 X2917)
              obtain ⟨v2966, B2967, e2968⟩ := X2913 _ e2893
              refine pm_R_lo pm_M191 (pc_q := 8) (ls_q := [.ref 41, .int 2, .int v2548, .int 1]) (st_q := []) rfl rfl rfl ?_
              refine pm_R_lo pm_M191 (pc_q := 9) rfl rfl rfl ?_
              refine pm_R_lo pm_M191 (pc_q := 10) rfl rfl rfl ?_
              refine pm_R_br pm_M191 (pc_q := 13) (st_q := [.ref 41]) rfl rfl ?_
              refine pm_R_lo pm_M191 (pc_q := 14) rfl rfl rfl ?_
              refine rf_R_get pm_M191 T2910 (pc_q := 17) (v := .ref 52) rfl rfl rfl rfl ?_
              refine pm_R_lo pm_M191 (pc_q := 18) rfl rfl rfl ?_
              refine pm_R_iald pm_M191 (pc_q := 19) (v := v2966) rfl e2968 (Nat.lt_of_lt_of_le (by decide) T2910.1) rfl sf_upd_eq rfl ?_
              refine pm_R_lo pm_M191 (pc_q := 20) rfl rfl rfl ?_
              refine rf_R_get pm_M191 T2910 (pc_q := 23) (v := .int (m2907 21)) rfl rfl rfl rfl ?_
              refine pm_R_icmp pm_M191 (t := 35) (pc_q := 26) rfl rfl rfl (fun c2971 => ?_) (fun c2971 => ?_)
              · skip
                refine pm_R_lo pm_M191 (pc_q := 36) rfl rfl rfl ?_
                refine rf_R_get pm_M191 T2910 (pc_q := 39) (v := .int (m2907 21)) rfl rfl rfl rfl ?_
                refine rf_R_put pm_M191 T2910 (pc_q := 42) rfl rfl rfl (by decide) rfl rfl (sf_weak B2958 (by decide) (by decide)) rfl rfl (fun h2972 m2975 em2976 T2973 F2974 => ?_)
                have F2977 := F2957.trans F2974 (by decide)
                have B2978 : sf_B 0 600 (m2975 10) := by rw [em2976]; exact B2961
                have ek2979 : (m2975 10).toInt = ((m2907 10)).toInt := by rw [em2976]; rfl
                have B2980 : sf_B 0 4 (m2975 13) := by rw [em2976]; exact B2962
                have ek2981 : (m2975 13).toInt = ((m2907 13)).toInt := by rw [em2976]; rfl
                have B2982 : sf_B 1 4 (m2975 17) := by rw [em2976]; exact (sf_eqT X2914 B2883)
                have ek2983 : (m2975 17).toInt = ((m2876 17)).toInt := by rw [em2976]; exact X2914
                have B2984 : sf_B 0 0 (m2975 22) := by rw [em2976]; exact (sf_eqT X2915 B2885)
                have ek2985 : (m2975 22).toInt = ((m2876 22)).toInt := by rw [em2976]; exact X2915
                have B2986 : sf_B 0 99 (m2975 21) := by rw [em2976]; exact B2958
                have ek2987 : (m2975 21).toInt = ((m2907 21)).toInt := by rw [em2976]; rfl
                have W2988 : rf_W [10, 12, 13, 14, 16, 17, 18, 21, 22] m m2975 := by rw [em2976]; exact W2960.put (by decide)
                refine pm_R_lo pm_M191 (pc_q := 43) rfl rfl rfl ?_
                refine pm_R_ret pm_M191 (r := some (.int 1)) rfl rfl ?_
                show pm_R _ 189 202 [.ref 41, .long a0, pm_no, .int a1, pm_no] [.int 1] _ _
                refine pm_R_br pm_M189 (pc_q := 205) (st_q := []) (pm_q189_1 (Nat.le_of_ble_eq_true rfl)) rfl ?_
                refine pm_R_lo pm_M189 (pc_q := 206) (pm_q189_1 (Nat.le_of_ble_eq_true rfl)) rfl rfl ?_
                refine pm_R_ldc2 pm_M189 (pc_q := 209) (pm_q189_1 (Nat.le_of_ble_eq_true rfl)) rfl rfl ?_
                refine sf_R_lcmp pm_M189 (pc_q := 210) (pm_q189_1 (Nat.le_of_ble_eq_true rfl)) rfl (fun z2989 e2990 => ?_)
                have B2991 : sf_B (-2147483648) (-1) z2989 := lf_cmpLt e2990 B346 (⟨by decide, by decide⟩ : lf_B 1935767923 1935767923 1935767923) (by decide)
                refine pm_R_ifc pm_M189 (t := 226) (pc_q := 213) (pm_q189_1 (Nat.le_of_ble_eq_true rfl)) rfl rfl (fun c2992 => ?_) (fun c2992 => absurd (Classical.not_not.mp c2992) (sf_neq2 B2991 sf_k0 (by decide)))
                have k2993 := sf_lneC e2990 c2992
                refine pm_R_lo pm_M189 (pc_q := 227) (pm_q189_2 (Nat.le_of_ble_eq_true rfl)) rfl rfl ?_
                refine pm_R_op pm_M189 (pc_q := 228) (st_q := [.int 1, .ref 41]) (pm_q189_2 (Nat.le_of_ble_eq_true rfl)) rfl rfl ?_
                refine pm_R_op pm_M189 (pc_q := 229) (st_q := [.int 2, .int 1, .ref 41]) (pm_q189_2 (Nat.le_of_ble_eq_true rfl)) rfl rfl ?_
                refine pm_R_op pm_M189 (pc_q := 230) (st_q := [.int 3, .int 2, .int 1, .ref 41]) (pm_q189_2 (Nat.le_of_ble_eq_true rfl)) rfl rfl ?_
                refine pm_R_op pm_M189 (pc_q := 232) (st_q := [.int 50, .int 3, .int 2, .int 1, .ref 41]) (pm_q189_2 (Nat.le_of_ble_eq_true rfl)) rfl rfl ?_
                refine pm_R_op pm_M189 (pc_q := 233) (st_q := [.int 0, .int 50, .int 3, .int 2, .int 1, .ref 41]) (pm_q189_2 (Nat.le_of_ble_eq_true rfl)) rfl rfl ?_
                refine pm_R_cv pm_M189 (pc_q := 236) (a := 41) (ra := [.int 0, .int 50, .int 3, .int 2, .int 1]) (rest := []) (ls_q := [.ref 41, .int 1, .int 2, .int 3, .int 50, .int 0, pm_no, pm_no]) (pm_q189_2 (Nat.le_of_ble_eq_true rfl)) rfl (Or.inl rfl) pm_M185 T2973.2.1 rfl (by decide) (Nat.lt_of_lt_of_le (by decide) T2973.1) rfl rfl (Nat.le_of_ble_eq_true rfl) rfl rfl ?_
                have e2994 := (F2974.cell (by decide) (F2911.cell (by decide) (F2875.cell (by decide) (F1863.cell (by decide) (F1832.cell (by decide) (F1824.cell (by decide) (F1819.cell (by decide) (F1814.cell (by decide) (F1809.cell (by decide) (F1787.cell (by decide) (F1771.cell (by decide) e3)))))))))))
                refine rf_c185_d (d := d + 3) T2973 (⟨f2, e2994, ct4, fun z => (sf_pos B2982 (by decide) z)⟩) (fun z => sf_pos B2982 (by decide) z) (fun m2997 w2998 h2999 T3000 F3001 W3002 X3003 => ?_)
                have F3004 := F2977.trans F3001 (by decide)
                have B3005 : sf_B 0 600 (m2997 10) := by rw [W3002 10 (by decide)]; exact B2978
                have ek3006 : (m2997 10).toInt = ((m2907 10)).toInt := by rw [W3002 10 (by decide)]; exact ek2979
                have B3007 : sf_B 0 4 (m2997 13) := by rw [W3002 13 (by decide)]; exact B2980
                have ek3008 : (m2997 13).toInt = ((m2907 13)).toInt := by rw [W3002 13 (by decide)]; exact ek2981
                have B3009 : sf_B 1 4 (m2997 17) := by rw [W3002 17 (by decide)]; exact B2982
                have ek3010 : (m2997 17).toInt = ((m2876 17)).toInt := by rw [W3002 17 (by decide)]; exact ek2983
                have B3011 : sf_B 0 0 (m2997 22) := by rw [W3002 22 (by decide)]; exact B2984
                have ek3012 : (m2997 22).toInt = ((m2876 22)).toInt := by rw [W3002 22 (by decide)]; exact ek2985
                have B3013 : sf_B 0 99 (m2997 21) := by rw [W3002 21 (by decide)]; exact B2986
                have ek3014 : (m2997 21).toInt = ((m2907 21)).toInt := by rw [W3002 21 (by decide)]; exact ek2987
                have W3015 : rf_W [10, 12, 13, 14, 16, 17, 18, 21, 22] m m2997 := W2988.trans W3002 (by decide)
                show pm_R _ 189 236 [.ref 41, .long a0, pm_no, .int a1, pm_no] [] _ _
                obtain ⟨f3016, e3017, ct3018, bd3019⟩ := X3003
                refine pm_R_op pm_M189 (pc_q := 237) (st_q := [.int 1]) (pm_q189_2 (Nat.le_of_ble_eq_true rfl)) rfl rfl ?_
                exact pm_R_ret pm_M189 (r := some (.int 1)) (pm_q189_2 (Nat.le_of_ble_eq_true rfl)) rfl (K1 m2997 w2998 h2999 T3000 F3004 W3015 (⟨f3016, e3017, ct3018, fun z => (sf_pos B3009 (by decide) z)⟩) (sf_aux39 _ _ _ ek3006 R2965))
              · have B3020 : sf_B 0 4 (m2907 21) := sf_ltL (Int32.not_le.mp c2971) B2958 B2967
                have B3021 : sf_B 1 5 v2966 := sf_ltR (Int32.not_le.mp c2971) B2958 B2967
                refine pm_R_lo pm_M191 (pc_q := 27) rfl rfl rfl ?_
                refine rf_R_get pm_M191 T2910 (pc_q := 30) (v := .ref 52) rfl rfl rfl rfl ?_
                refine pm_R_lo pm_M191 (pc_q := 31) rfl rfl rfl ?_
                refine pm_R_iald pm_M191 (pc_q := 32) (v := v2966) rfl e2968 (Nat.lt_of_lt_of_le (by decide) T2910.1) rfl sf_upd_eq rfl ?_
                refine pm_R_br pm_M191 (pc_q := 39) rfl rfl ?_
                refine rf_R_put pm_M191 T2910 (pc_q := 42) rfl rfl rfl (by decide) rfl rfl (sf_weak B3021 (by decide) (by decide)) rfl rfl (fun h3024 m3027 em3028 T3025 F3026 => ?_)
                have F3029 := F2957.trans F3026 (by decide)
                have B3030 : sf_B 0 600 (m3027 10) := by rw [em3028]; exact B2961
                have ek3031 : (m3027 10).toInt = ((m2907 10)).toInt := by rw [em3028]; rfl
                have B3032 : sf_B 0 4 (m3027 13) := by rw [em3028]; exact B2962
                have ek3033 : (m3027 13).toInt = ((m2907 13)).toInt := by rw [em3028]; rfl
                have B3034 : sf_B 1 4 (m3027 17) := by rw [em3028]; exact (sf_eqT X2914 B2883)
                have ek3035 : (m3027 17).toInt = ((m2876 17)).toInt := by rw [em3028]; exact X2914
                have B3036 : sf_B 0 0 (m3027 22) := by rw [em3028]; exact (sf_eqT X2915 B2885)
                have ek3037 : (m3027 22).toInt = ((m2876 22)).toInt := by rw [em3028]; exact X2915
                have B3038 : sf_B 1 5 (m3027 21) := by rw [em3028]; exact B3021
                have ek3039 : (m3027 21).toInt = (v2966).toInt := by rw [em3028]; rfl
                have W3040 : rf_W [10, 12, 13, 14, 16, 17, 18, 21, 22] m m3027 := by rw [em3028]; exact W2960.put (by decide)
                refine pm_R_lo pm_M191 (pc_q := 43) rfl rfl rfl ?_
                refine pm_R_ret pm_M191 (r := some (.int 1)) rfl rfl ?_
                show pm_R _ 189 202 [.ref 41, .long a0, pm_no, .int a1, pm_no] [.int 1] _ _
                refine pm_R_br pm_M189 (pc_q := 205) (st_q := []) (pm_q189_1 (Nat.le_of_ble_eq_true rfl)) rfl ?_
                refine pm_R_lo pm_M189 (pc_q := 206) (pm_q189_1 (Nat.le_of_ble_eq_true rfl)) rfl rfl ?_
                refine pm_R_ldc2 pm_M189 (pc_q := 209) (pm_q189_1 (Nat.le_of_ble_eq_true rfl)) rfl rfl ?_
                refine sf_R_lcmp pm_M189 (pc_q := 210) (pm_q189_1 (Nat.le_of_ble_eq_true rfl)) rfl (fun z3041 e3042 => ?_)
                have B3043 : sf_B (-2147483648) (-1) z3041 := lf_cmpLt e3042 B346 (⟨by decide, by decide⟩ : lf_B 1935767923 1935767923 1935767923) (by decide)
                refine pm_R_ifc pm_M189 (t := 226) (pc_q := 213) (pm_q189_1 (Nat.le_of_ble_eq_true rfl)) rfl rfl (fun c3044 => ?_) (fun c3044 => absurd (Classical.not_not.mp c3044) (sf_neq2 B3043 sf_k0 (by decide)))
                have k3045 := sf_lneC e3042 c3044
                refine pm_R_lo pm_M189 (pc_q := 227) (pm_q189_2 (Nat.le_of_ble_eq_true rfl)) rfl rfl ?_
                refine pm_R_op pm_M189 (pc_q := 228) (st_q := [.int 1, .ref 41]) (pm_q189_2 (Nat.le_of_ble_eq_true rfl)) rfl rfl ?_
                refine pm_R_op pm_M189 (pc_q := 229) (st_q := [.int 2, .int 1, .ref 41]) (pm_q189_2 (Nat.le_of_ble_eq_true rfl)) rfl rfl ?_
                refine pm_R_op pm_M189 (pc_q := 230) (st_q := [.int 3, .int 2, .int 1, .ref 41]) (pm_q189_2 (Nat.le_of_ble_eq_true rfl)) rfl rfl ?_
                refine pm_R_op pm_M189 (pc_q := 232) (st_q := [.int 50, .int 3, .int 2, .int 1, .ref 41]) (pm_q189_2 (Nat.le_of_ble_eq_true rfl)) rfl rfl ?_
                refine pm_R_op pm_M189 (pc_q := 233) (st_q := [.int 0, .int 50, .int 3, .int 2, .int 1, .ref 41]) (pm_q189_2 (Nat.le_of_ble_eq_true rfl)) rfl rfl ?_
                refine pm_R_cv pm_M189 (pc_q := 236) (a := 41) (ra := [.int 0, .int 50, .int 3, .int 2, .int 1]) (rest := []) (ls_q := [.ref 41, .int 1, .int 2, .int 3, .int 50, .int 0, pm_no, pm_no]) (pm_q189_2 (Nat.le_of_ble_eq_true rfl)) rfl (Or.inl rfl) pm_M185 T3025.2.1 rfl (by decide) (Nat.lt_of_lt_of_le (by decide) T3025.1) rfl rfl (Nat.le_of_ble_eq_true rfl) rfl rfl ?_
                have e3046 := (F3026.cell (by decide) (F2911.cell (by decide) (F2875.cell (by decide) (F1863.cell (by decide) (F1832.cell (by decide) (F1824.cell (by decide) (F1819.cell (by decide) (F1814.cell (by decide) (F1809.cell (by decide) (F1787.cell (by decide) (F1771.cell (by decide) e3)))))))))))
                refine rf_c185_d (d := d + 3) T3025 (⟨f2, e3046, ct4, fun z => (sf_pos B3034 (by decide) z)⟩) (fun z => sf_pos B3034 (by decide) z) (fun m3049 w3050 h3051 T3052 F3053 W3054 X3055 => ?_)
                have F3056 := F3029.trans F3053 (by decide)
                have B3057 : sf_B 0 600 (m3049 10) := by rw [W3054 10 (by decide)]; exact B3030
                have ek3058 : (m3049 10).toInt = ((m2907 10)).toInt := by rw [W3054 10 (by decide)]; exact ek3031
                have B3059 : sf_B 0 4 (m3049 13) := by rw [W3054 13 (by decide)]; exact B3032
                have ek3060 : (m3049 13).toInt = ((m2907 13)).toInt := by rw [W3054 13 (by decide)]; exact ek3033
                have B3061 : sf_B 1 4 (m3049 17) := by rw [W3054 17 (by decide)]; exact B3034
                have ek3062 : (m3049 17).toInt = ((m2876 17)).toInt := by rw [W3054 17 (by decide)]; exact ek3035
                have B3063 : sf_B 0 0 (m3049 22) := by rw [W3054 22 (by decide)]; exact B3036
                have ek3064 : (m3049 22).toInt = ((m2876 22)).toInt := by rw [W3054 22 (by decide)]; exact ek3037
                have B3065 : sf_B 1 5 (m3049 21) := by rw [W3054 21 (by decide)]; exact B3038
                have ek3066 : (m3049 21).toInt = (v2966).toInt := by rw [W3054 21 (by decide)]; exact ek3039
                have W3067 : rf_W [10, 12, 13, 14, 16, 17, 18, 21, 22] m m3049 := W3040.trans W3054 (by decide)
                show pm_R _ 189 236 [.ref 41, .long a0, pm_no, .int a1, pm_no] [] _ _
                obtain ⟨f3068, e3069, ct3070, bd3071⟩ := X3055
                refine pm_R_op pm_M189 (pc_q := 237) (st_q := [.int 1]) (pm_q189_2 (Nat.le_of_ble_eq_true rfl)) rfl rfl ?_
                exact pm_R_ret pm_M189 (r := some (.int 1)) (pm_q189_2 (Nat.le_of_ble_eq_true rfl)) rfl (K1 m3049 w3050 h3051 T3052 F3056 W3067 (⟨f3068, e3069, ct3070, fun z => (sf_pos B3061 (by decide) z)⟩) (sf_aux39 _ _ _ ek3058 R2965))
            · have F3072 := F2878.trans F2924 (by decide)
              have B3073 : sf_B 0 99 (m2920 21) := by rw [W2925 21 (by decide)]; exact B2887
              have ek3074 : (m2920 21).toInt = (v2548).toInt := by rw [W2925 21 (by decide)]; exact ek2888
              have W3075 : rf_W [10, 12, 13, 14, 16, 17, 18, 21, 22] m m2920 := W2889.trans W2925 (by decide)
              have B3076 : sf_B 0 600 (m2920 10) := T2923.2.2.1 10
              have B3077 : sf_B 0 4 (m2920 13) := T2923.2.2.1 13
              have B3078 : sf_B 0 4 (m2920 17) := T2923.2.2.1 17
              have B3079 : sf_B 0 1 (m2920 22) := T2923.2.2.1 22
              show pm_R _ 191 7 [.ref 41, .int 2, .int v2548, pm_no] [.int 1] _ _
              have R3080 : (m 10).toInt ≤ (m2920 10).toInt := (sf_aux76 _ _ _ _ ek2880 R2547 X2928)
              obtain ⟨v3081, B3082, e3083⟩ := X2926 _ e2893
              refine pm_R_lo pm_M191 (pc_q := 8) (ls_q := [.ref 41, .int 2, .int v2548, .int 1]) (st_q := []) rfl rfl rfl ?_
              refine pm_R_lo pm_M191 (pc_q := 9) rfl rfl rfl ?_
              refine pm_R_lo pm_M191 (pc_q := 10) rfl rfl rfl ?_
              refine pm_R_br pm_M191 (pc_q := 13) (st_q := [.ref 41]) rfl rfl ?_
              refine pm_R_lo pm_M191 (pc_q := 14) rfl rfl rfl ?_
              refine rf_R_get pm_M191 T2923 (pc_q := 17) (v := .ref 52) rfl rfl rfl rfl ?_
              refine pm_R_lo pm_M191 (pc_q := 18) rfl rfl rfl ?_
              refine pm_R_iald pm_M191 (pc_q := 19) (v := v3081) rfl e3083 (Nat.lt_of_lt_of_le (by decide) T2923.1) rfl sf_upd_eq rfl ?_
              refine pm_R_lo pm_M191 (pc_q := 20) rfl rfl rfl ?_
              refine rf_R_get pm_M191 T2923 (pc_q := 23) (v := .int (m2920 21)) rfl rfl rfl rfl ?_
              refine pm_R_icmp pm_M191 (t := 35) (pc_q := 26) rfl rfl rfl (fun c3086 => ?_) (fun c3086 => ?_)
              · skip
                refine pm_R_lo pm_M191 (pc_q := 36) rfl rfl rfl ?_
                refine rf_R_get pm_M191 T2923 (pc_q := 39) (v := .int (m2920 21)) rfl rfl rfl rfl ?_
                refine rf_R_put pm_M191 T2923 (pc_q := 42) rfl rfl rfl (by decide) rfl rfl (sf_weak B3073 (by decide) (by decide)) rfl rfl (fun h3087 m3090 em3091 T3088 F3089 => ?_)
                have F3092 := F3072.trans F3089 (by decide)
                have B3093 : sf_B 0 600 (m3090 10) := by rw [em3091]; exact B3076
                have ek3094 : (m3090 10).toInt = ((m2920 10)).toInt := by rw [em3091]; rfl
                have B3095 : sf_B 0 4 (m3090 13) := by rw [em3091]; exact B3077
                have ek3096 : (m3090 13).toInt = ((m2920 13)).toInt := by rw [em3091]; rfl
                have B3097 : sf_B 1 4 (m3090 17) := by rw [em3091]; exact B2929
                have ek3098 : (m3090 17).toInt = ((m2920 17)).toInt := by rw [em3091]; rfl
                have B3099 : sf_B 0 0 (m3090 22) := by rw [em3091]; exact B2930
                have ek3100 : (m3090 22).toInt = ((m2920 22)).toInt := by rw [em3091]; rfl
                have B3101 : sf_B 0 99 (m3090 21) := by rw [em3091]; exact B3073
                have ek3102 : (m3090 21).toInt = ((m2920 21)).toInt := by rw [em3091]; rfl
                have W3103 : rf_W [10, 12, 13, 14, 16, 17, 18, 21, 22] m m3090 := by rw [em3091]; exact W3075.put (by decide)
                refine pm_R_lo pm_M191 (pc_q := 43) rfl rfl rfl ?_
                refine pm_R_ret pm_M191 (r := some (.int 1)) rfl rfl ?_
                show pm_R _ 189 202 [.ref 41, .long a0, pm_no, .int a1, pm_no] [.int 1] _ _
                refine pm_R_br pm_M189 (pc_q := 205) (st_q := []) (pm_q189_1 (Nat.le_of_ble_eq_true rfl)) rfl ?_
                refine pm_R_lo pm_M189 (pc_q := 206) (pm_q189_1 (Nat.le_of_ble_eq_true rfl)) rfl rfl ?_
                refine pm_R_ldc2 pm_M189 (pc_q := 209) (pm_q189_1 (Nat.le_of_ble_eq_true rfl)) rfl rfl ?_
                refine sf_R_lcmp pm_M189 (pc_q := 210) (pm_q189_1 (Nat.le_of_ble_eq_true rfl)) rfl (fun z3104 e3105 => ?_)
                have B3106 : sf_B (-2147483648) (-1) z3104 := lf_cmpLt e3105 B346 (⟨by decide, by decide⟩ : lf_B 1935767923 1935767923 1935767923) (by decide)
                refine pm_R_ifc pm_M189 (t := 226) (pc_q := 213) (pm_q189_1 (Nat.le_of_ble_eq_true rfl)) rfl rfl (fun c3107 => ?_) (fun c3107 => absurd (Classical.not_not.mp c3107) (sf_neq2 B3106 sf_k0 (by decide)))
                have k3108 := sf_lneC e3105 c3107
                refine pm_R_lo pm_M189 (pc_q := 227) (pm_q189_2 (Nat.le_of_ble_eq_true rfl)) rfl rfl ?_
                refine pm_R_op pm_M189 (pc_q := 228) (st_q := [.int 1, .ref 41]) (pm_q189_2 (Nat.le_of_ble_eq_true rfl)) rfl rfl ?_
                refine pm_R_op pm_M189 (pc_q := 229) (st_q := [.int 2, .int 1, .ref 41]) (pm_q189_2 (Nat.le_of_ble_eq_true rfl)) rfl rfl ?_
                refine pm_R_op pm_M189 (pc_q := 230) (st_q := [.int 3, .int 2, .int 1, .ref 41]) (pm_q189_2 (Nat.le_of_ble_eq_true rfl)) rfl rfl ?_
                refine pm_R_op pm_M189 (pc_q := 232) (st_q := [.int 50, .int 3, .int 2, .int 1, .ref 41]) (pm_q189_2 (Nat.le_of_ble_eq_true rfl)) rfl rfl ?_
                refine pm_R_op pm_M189 (pc_q := 233) (st_q := [.int 0, .int 50, .int 3, .int 2, .int 1, .ref 41]) (pm_q189_2 (Nat.le_of_ble_eq_true rfl)) rfl rfl ?_
                refine pm_R_cv pm_M189 (pc_q := 236) (a := 41) (ra := [.int 0, .int 50, .int 3, .int 2, .int 1]) (rest := []) (ls_q := [.ref 41, .int 1, .int 2, .int 3, .int 50, .int 0, pm_no, pm_no]) (pm_q189_2 (Nat.le_of_ble_eq_true rfl)) rfl (Or.inl rfl) pm_M185 T3088.2.1 rfl (by decide) (Nat.lt_of_lt_of_le (by decide) T3088.1) rfl rfl (Nat.le_of_ble_eq_true rfl) rfl rfl ?_
                have e3109 := (F3089.cell (by decide) (F2924.cell (by decide) (F2875.cell (by decide) (F1863.cell (by decide) (F1832.cell (by decide) (F1824.cell (by decide) (F1819.cell (by decide) (F1814.cell (by decide) (F1809.cell (by decide) (F1787.cell (by decide) (F1771.cell (by decide) e3)))))))))))
                refine rf_c185_d (d := d + 3) T3088 (⟨f2, e3109, ct4, fun z => (sf_pos B3097 (by decide) z)⟩) (fun z => sf_pos B3097 (by decide) z) (fun m3112 w3113 h3114 T3115 F3116 W3117 X3118 => ?_)
                have F3119 := F3092.trans F3116 (by decide)
                have B3120 : sf_B 0 600 (m3112 10) := by rw [W3117 10 (by decide)]; exact B3093
                have ek3121 : (m3112 10).toInt = ((m2920 10)).toInt := by rw [W3117 10 (by decide)]; exact ek3094
                have B3122 : sf_B 0 4 (m3112 13) := by rw [W3117 13 (by decide)]; exact B3095
                have ek3123 : (m3112 13).toInt = ((m2920 13)).toInt := by rw [W3117 13 (by decide)]; exact ek3096
                have B3124 : sf_B 1 4 (m3112 17) := by rw [W3117 17 (by decide)]; exact B3097
                have ek3125 : (m3112 17).toInt = ((m2920 17)).toInt := by rw [W3117 17 (by decide)]; exact ek3098
                have B3126 : sf_B 0 0 (m3112 22) := by rw [W3117 22 (by decide)]; exact B3099
                have ek3127 : (m3112 22).toInt = ((m2920 22)).toInt := by rw [W3117 22 (by decide)]; exact ek3100
                have B3128 : sf_B 0 99 (m3112 21) := by rw [W3117 21 (by decide)]; exact B3101
                have ek3129 : (m3112 21).toInt = ((m2920 21)).toInt := by rw [W3117 21 (by decide)]; exact ek3102
                have W3130 : rf_W [10, 12, 13, 14, 16, 17, 18, 21, 22] m m3112 := W3103.trans W3117 (by decide)
                show pm_R _ 189 236 [.ref 41, .long a0, pm_no, .int a1, pm_no] [] _ _
                obtain ⟨f3131, e3132, ct3133, bd3134⟩ := X3118
                refine pm_R_op pm_M189 (pc_q := 237) (st_q := [.int 1]) (pm_q189_2 (Nat.le_of_ble_eq_true rfl)) rfl rfl ?_
                exact pm_R_ret pm_M189 (r := some (.int 1)) (pm_q189_2 (Nat.le_of_ble_eq_true rfl)) rfl (K1 m3112 w3113 h3114 T3115 F3119 W3130 (⟨f3131, e3132, ct3133, fun z => (sf_pos B3124 (by decide) z)⟩) (sf_aux39 _ _ _ ek3121 R3080))
              · have B3135 : sf_B 0 98 (m2920 21) := sf_ltL (Int32.not_le.mp c3086) B3073 B3082
                have B3136 : sf_B 1 99 v3081 := sf_ltR (Int32.not_le.mp c3086) B3073 B3082
                refine pm_R_lo pm_M191 (pc_q := 27) rfl rfl rfl ?_
                refine rf_R_get pm_M191 T2923 (pc_q := 30) (v := .ref 52) rfl rfl rfl rfl ?_
                refine pm_R_lo pm_M191 (pc_q := 31) rfl rfl rfl ?_
                refine pm_R_iald pm_M191 (pc_q := 32) (v := v3081) rfl e3083 (Nat.lt_of_lt_of_le (by decide) T2923.1) rfl sf_upd_eq rfl ?_
                refine pm_R_br pm_M191 (pc_q := 39) rfl rfl ?_
                refine rf_R_put pm_M191 T2923 (pc_q := 42) rfl rfl rfl (by decide) rfl rfl (sf_weak B3136 (by decide) (by decide)) rfl rfl (fun h3139 m3142 em3143 T3140 F3141 => ?_)
                have F3144 := F3072.trans F3141 (by decide)
                have B3145 : sf_B 0 600 (m3142 10) := by rw [em3143]; exact B3076
                have ek3146 : (m3142 10).toInt = ((m2920 10)).toInt := by rw [em3143]; rfl
                have B3147 : sf_B 0 4 (m3142 13) := by rw [em3143]; exact B3077
                have ek3148 : (m3142 13).toInt = ((m2920 13)).toInt := by rw [em3143]; rfl
                have B3149 : sf_B 1 4 (m3142 17) := by rw [em3143]; exact B2929
                have ek3150 : (m3142 17).toInt = ((m2920 17)).toInt := by rw [em3143]; rfl
                have B3151 : sf_B 0 0 (m3142 22) := by rw [em3143]; exact B2930
                have ek3152 : (m3142 22).toInt = ((m2920 22)).toInt := by rw [em3143]; rfl
                have B3153 : sf_B 1 99 (m3142 21) := by rw [em3143]; exact B3136
                have ek3154 : (m3142 21).toInt = (v3081).toInt := by rw [em3143]; rfl
                have W3155 : rf_W [10, 12, 13, 14, 16, 17, 18, 21, 22] m m3142 := by rw [em3143]; exact W3075.put (by decide)
                refine pm_R_lo pm_M191 (pc_q := 43) rfl rfl rfl ?_
                refine pm_R_ret pm_M191 (r := some (.int 1)) rfl rfl ?_
                show pm_R _ 189 202 [.ref 41, .long a0, pm_no, .int a1, pm_no] [.int 1] _ _
                refine pm_R_br pm_M189 (pc_q := 205) (st_q := []) (pm_q189_1 (Nat.le_of_ble_eq_true rfl)) rfl ?_
                refine pm_R_lo pm_M189 (pc_q := 206) (pm_q189_1 (Nat.le_of_ble_eq_true rfl)) rfl rfl ?_
                refine pm_R_ldc2 pm_M189 (pc_q := 209) (pm_q189_1 (Nat.le_of_ble_eq_true rfl)) rfl rfl ?_
                refine sf_R_lcmp pm_M189 (pc_q := 210) (pm_q189_1 (Nat.le_of_ble_eq_true rfl)) rfl (fun z3156 e3157 => ?_)
                have B3158 : sf_B (-2147483648) (-1) z3156 := lf_cmpLt e3157 B346 (⟨by decide, by decide⟩ : lf_B 1935767923 1935767923 1935767923) (by decide)
                refine pm_R_ifc pm_M189 (t := 226) (pc_q := 213) (pm_q189_1 (Nat.le_of_ble_eq_true rfl)) rfl rfl (fun c3159 => ?_) (fun c3159 => absurd (Classical.not_not.mp c3159) (sf_neq2 B3158 sf_k0 (by decide)))
                have k3160 := sf_lneC e3157 c3159
                refine pm_R_lo pm_M189 (pc_q := 227) (pm_q189_2 (Nat.le_of_ble_eq_true rfl)) rfl rfl ?_
                refine pm_R_op pm_M189 (pc_q := 228) (st_q := [.int 1, .ref 41]) (pm_q189_2 (Nat.le_of_ble_eq_true rfl)) rfl rfl ?_
                refine pm_R_op pm_M189 (pc_q := 229) (st_q := [.int 2, .int 1, .ref 41]) (pm_q189_2 (Nat.le_of_ble_eq_true rfl)) rfl rfl ?_
                refine pm_R_op pm_M189 (pc_q := 230) (st_q := [.int 3, .int 2, .int 1, .ref 41]) (pm_q189_2 (Nat.le_of_ble_eq_true rfl)) rfl rfl ?_
                refine pm_R_op pm_M189 (pc_q := 232) (st_q := [.int 50, .int 3, .int 2, .int 1, .ref 41]) (pm_q189_2 (Nat.le_of_ble_eq_true rfl)) rfl rfl ?_
                refine pm_R_op pm_M189 (pc_q := 233) (st_q := [.int 0, .int 50, .int 3, .int 2, .int 1, .ref 41]) (pm_q189_2 (Nat.le_of_ble_eq_true rfl)) rfl rfl ?_
                refine pm_R_cv pm_M189 (pc_q := 236) (a := 41) (ra := [.int 0, .int 50, .int 3, .int 2, .int 1]) (rest := []) (ls_q := [.ref 41, .int 1, .int 2, .int 3, .int 50, .int 0, pm_no, pm_no]) (pm_q189_2 (Nat.le_of_ble_eq_true rfl)) rfl (Or.inl rfl) pm_M185 T3140.2.1 rfl (by decide) (Nat.lt_of_lt_of_le (by decide) T3140.1) rfl rfl (Nat.le_of_ble_eq_true rfl) rfl rfl ?_
                have e3161 := (F3141.cell (by decide) (F2924.cell (by decide) (F2875.cell (by decide) (F1863.cell (by decide) (F1832.cell (by decide) (F1824.cell (by decide) (F1819.cell (by decide) (F1814.cell (by decide) (F1809.cell (by decide) (F1787.cell (by decide) (F1771.cell (by decide) e3)))))))))))
                refine rf_c185_d (d := d + 3) T3140 (⟨f2, e3161, ct4, fun z => (sf_pos B3149 (by decide) z)⟩) (fun z => sf_pos B3149 (by decide) z) (fun m3164 w3165 h3166 T3167 F3168 W3169 X3170 => ?_)
                have F3171 := F3144.trans F3168 (by decide)
                have B3172 : sf_B 0 600 (m3164 10) := by rw [W3169 10 (by decide)]; exact B3145
                have ek3173 : (m3164 10).toInt = ((m2920 10)).toInt := by rw [W3169 10 (by decide)]; exact ek3146
                have B3174 : sf_B 0 4 (m3164 13) := by rw [W3169 13 (by decide)]; exact B3147
                have ek3175 : (m3164 13).toInt = ((m2920 13)).toInt := by rw [W3169 13 (by decide)]; exact ek3148
                have B3176 : sf_B 1 4 (m3164 17) := by rw [W3169 17 (by decide)]; exact B3149
                have ek3177 : (m3164 17).toInt = ((m2920 17)).toInt := by rw [W3169 17 (by decide)]; exact ek3150
                have B3178 : sf_B 0 0 (m3164 22) := by rw [W3169 22 (by decide)]; exact B3151
                have ek3179 : (m3164 22).toInt = ((m2920 22)).toInt := by rw [W3169 22 (by decide)]; exact ek3152
                have B3180 : sf_B 1 99 (m3164 21) := by rw [W3169 21 (by decide)]; exact B3153
                have ek3181 : (m3164 21).toInt = (v3081).toInt := by rw [W3169 21 (by decide)]; exact ek3154
                have W3182 : rf_W [10, 12, 13, 14, 16, 17, 18, 21, 22] m m3164 := W3155.trans W3169 (by decide)
                show pm_R _ 189 236 [.ref 41, .long a0, pm_no, .int a1, pm_no] [] _ _
                obtain ⟨f3183, e3184, ct3185, bd3186⟩ := X3170
                refine pm_R_op pm_M189 (pc_q := 237) (st_q := [.int 1]) (pm_q189_2 (Nat.le_of_ble_eq_true rfl)) rfl rfl ?_
                exact pm_R_ret pm_M189 (r := some (.int 1)) (pm_q189_2 (Nat.le_of_ble_eq_true rfl)) rfl (K1 m3164 w3165 h3166 T3167 F3171 W3182 (⟨f3183, e3184, ct3185, fun z => (sf_pos B3176 (by decide) z)⟩) (sf_aux39 _ _ _ ek3173 R3080))
    · have k3187 := sf_lneC e343 c344
      refine pm_R_lo pm_M189 (pc_q := 17) rfl rfl rfl ?_
      refine pm_R_ldc2 pm_M189 (pc_q := 20) rfl rfl rfl ?_
      refine sf_R_lcmp pm_M189 (pc_q := 21) rfl rfl (fun z3188 e3189 => ?_)
      refine pm_R_ifc pm_M189 (t := 37) (pc_q := 24) rfl rfl rfl (fun c3190 => ?_) (fun c3190 => ?_)
      · have B3191 : sf_B 0 0 z3188 := sf_eqL c3190 sf_k0
        have B3192 : lf_B 1635213689 1635213689 a0 := lf_eqB e3189 B3191 (⟨by decide, by decide⟩ : lf_B 1635213689 1635213689 1635213689)
        refine pm_R_lo pm_M189 (pc_q := 38) rfl rfl rfl ?_
        refine pm_R_ldc2 pm_M189 (pc_q := 41) rfl rfl rfl ?_
        refine pm_R_op pm_M189 (pc_q := 42) (st_q := [.int z7]) rfl (by show some (Value.int (lg_cmp a0 495622124659) :: _) = _; rw [← e8]) rfl ?_
        refine pm_R_ifc pm_M189 (t := 62) (pc_q := 45) rfl rfl rfl (fun c3195 => absurd c3195 c9) (fun c3195 => ?_)
        have k3196 := sf_lneC e8 c3195
        refine pm_R_lo pm_M189 (pc_q := 46) rfl rfl rfl ?_
        refine rf_R_get pm_M189 T (pc_q := 49) (v := .ref 51) rfl rfl rfl rfl ?_
        refine pm_R_op pm_M189 (pc_q := 50) (st_q := [.int 1, .ref 51]) rfl rfl rfl ?_
        refine pm_R_iald pm_M189 (pc_q := 51) (v := (f2 1)) rfl e3 (Nat.lt_of_lt_of_le (by decide) T.1) rfl rfl rfl ?_
        refine pm_R_op pm_M189 (pc_q := 53) (st_q := [.int 50, .int (f2 1)]) rfl rfl rfl ?_
        refine pm_R_icmp pm_M189 (t := 62) (pc_q := 56) rfl rfl rfl (fun c3199 => ?_) (fun c3199 => ?_)
        · have B3200 : sf_B 0 49 (f2 1) := sf_neH0 c3199 sf_k50 ct4
          refine pm_R_lo pm_M189 (pc_q := 63) rfl rfl rfl ?_
          refine pm_R_cv pm_M189 (pc_q := 66) (a := 41) (ra := []) (rest := []) (ls_q := [.ref 41, pm_no, pm_no]) rfl rfl (Or.inl rfl) pm_M179 T.2.1 rfl (by decide) (Nat.lt_of_lt_of_le (by decide) T.1) rfl rfl (Nat.le_of_ble_eq_true rfl) rfl rfl ?_
          refine rf_c179 (d := d + 2) T  (fun m3203 w3204 h3205 T3206 F3207 W3208 X3209 X3210 => ?_)
          have F3211 := (rf_G.refl [41, 51, 52] h).trans F3207 (by decide)
          have B3212 : sf_B 0 4 (m3203 17) := by rw [W3208 17 (by decide)]; exact B6
          have ek3213 : (m3203 17).toInt = ((m 17)).toInt := by rw [W3208 17 (by decide)]
          have W3214 : rf_W [10, 12, 13, 14, 16, 17, 18, 21, 22] m m3203 := (rf_W.refl [10, 12, 13, 14, 16, 17, 18, 21, 22] m).trans W3208 (by decide)
          have B3215 : sf_B 0 600 (m3203 10) := T3206.2.2.1 10
          have B3216 : sf_B 0 4 (m3203 13) := T3206.2.2.1 13
          have B3217 : sf_B 0 1 (m3203 22) := T3206.2.2.1 22
          show pm_R _ 189 66 [.ref 41, .long a0, pm_no, .int a1, pm_no] [] _ _
          have R3218 : (m 10).toInt ≤ (m3203 10).toInt := (sf_aux51 _ _ X3209)
          refine pm_R_lo pm_M189 (pc_q := 67) rfl rfl rfl ?_
          refine pm_R_ldc2 pm_M189 (pc_q := 70) rfl rfl rfl ?_
          refine pm_R_op pm_M189 (pc_q := 71) (st_q := [.int z7]) rfl (by show some (Value.int (lg_cmp a0 495622124659) :: _) = _; rw [← e8]) rfl ?_
          refine pm_R_ifc pm_M189 (t := 137) (pc_q := 74) rfl rfl rfl (fun c3221 => ?_) (fun c3221 => absurd (Classical.not_not.mp c3221) c9)
          have k3222 := sf_lneC e8 c3221
          refine pm_R_lo pm_M189 (pc_q := 138) (pm_q189_1 (Nat.le_of_ble_eq_true rfl)) rfl rfl ?_
          refine pm_R_cv pm_M189 (pc_q := 141) (a := 41) (ra := []) (rest := []) (ls_q := [.ref 41, pm_no]) (pm_q189_1 (Nat.le_of_ble_eq_true rfl)) rfl (Or.inl rfl) pm_M190 T3206.2.1 rfl (by decide) (Nat.lt_of_lt_of_le (by decide) T3206.1) rfl rfl (Nat.le_of_ble_eq_true rfl) rfl rfl ?_
          refine pm_R_op pm_M190 (pc_q := 1) (st_q := [.int 0]) rfl rfl rfl ?_
          refine pm_R_lo pm_M190 (pc_q := 2) (ls_q := [.ref 41, .int 0]) (st_q := []) rfl rfl rfl ?_
          refine pm_R_lo pm_M190 (pc_q := 3) rfl rfl rfl ?_
          refine pm_R_op pm_M190 (pc_q := 4) (st_q := [.int 4, .int 0]) rfl rfl rfl ?_
          refine pm_R_br pm_M190 (pc_q := 7) (st_q := []) rfl rfl ?_
          refine pm_R_lo pm_M190 (pc_q := 8) rfl rfl rfl ?_
          refine rf_R_get pm_M190 T3206 (pc_q := 11) (v := .ref 52) rfl rfl rfl rfl ?_
          refine pm_R_lo pm_M190 (pc_q := 12) rfl rfl rfl ?_
          refine pm_R_op pm_M190 (pc_q := 13) (st_q := [.int (-1), .int 0, .ref 52]) rfl rfl rfl ?_
          obtain ⟨f3223, e3224, b3225⟩ := T3206.2.2.2.1 52 (by decide) (by decide)
          refine rf_R_ist pm_M190 T3206 (pc_q := 14) rfl e3224 (by decide) (by decide) rfl ⟨_, rfl, sf_upd b3225 (sf_weak sf_kn1 (by decide) (by decide)) _⟩ rfl (fun h3226 T3227 F3228 e3229 => ?_)
          have F3230 := F3211.trans F3228 (by decide)
          refine pm_R_lo pm_M190 (pc_q := 17) (ls_q := [.ref 41, .int 1]) (st_q := []) rfl rfl rfl ?_
          refine pm_R_br pm_M190 (pc_q := 2) rfl rfl ?_
          refine pm_R_lo pm_M190 (pc_q := 3) rfl rfl rfl ?_
          refine pm_R_op pm_M190 (pc_q := 4) (st_q := [.int 4, .int 1]) rfl rfl rfl ?_
          refine pm_R_br pm_M190 (pc_q := 7) (st_q := []) rfl rfl ?_
          refine pm_R_lo pm_M190 (pc_q := 8) rfl rfl rfl ?_
          refine rf_R_get pm_M190 T3227 (pc_q := 11) (v := .ref 52) rfl rfl rfl rfl ?_
          refine pm_R_lo pm_M190 (pc_q := 12) rfl rfl rfl ?_
          refine pm_R_op pm_M190 (pc_q := 13) (st_q := [.int (-1), .int 1, .ref 52]) rfl rfl rfl ?_
          refine rf_R_ist pm_M190 T3227 (pc_q := 14) rfl e3229 (by decide) (by decide) rfl ⟨_, rfl, sf_upd (sf_upd b3225 (sf_weak sf_kn1 (by decide) (by decide)) _) (sf_weak sf_kn1 (by decide) (by decide)) _⟩ rfl (fun h3231 T3232 F3233 e3234 => ?_)
          have F3235 := F3230.trans F3233 (by decide)
          refine pm_R_lo pm_M190 (pc_q := 17) (ls_q := [.ref 41, .int 2]) (st_q := []) rfl rfl rfl ?_
          refine pm_R_br pm_M190 (pc_q := 2) rfl rfl ?_
          refine pm_R_lo pm_M190 (pc_q := 3) rfl rfl rfl ?_
          refine pm_R_op pm_M190 (pc_q := 4) (st_q := [.int 4, .int 2]) rfl rfl rfl ?_
          refine pm_R_br pm_M190 (pc_q := 7) (st_q := []) rfl rfl ?_
          refine pm_R_lo pm_M190 (pc_q := 8) rfl rfl rfl ?_
          refine rf_R_get pm_M190 T3232 (pc_q := 11) (v := .ref 52) rfl rfl rfl rfl ?_
          refine pm_R_lo pm_M190 (pc_q := 12) rfl rfl rfl ?_
          refine pm_R_op pm_M190 (pc_q := 13) (st_q := [.int (-1), .int 2, .ref 52]) rfl rfl rfl ?_
          refine rf_R_ist pm_M190 T3232 (pc_q := 14) rfl e3234 (by decide) (by decide) rfl ⟨_, rfl, sf_upd (sf_upd (sf_upd b3225 (sf_weak sf_kn1 (by decide) (by decide)) _) (sf_weak sf_kn1 (by decide) (by decide)) _) (sf_weak sf_kn1 (by decide) (by decide)) _⟩ rfl (fun h3236 T3237 F3238 e3239 => ?_)
          have F3240 := F3235.trans F3238 (by decide)
          refine pm_R_lo pm_M190 (pc_q := 17) (ls_q := [.ref 41, .int 3]) (st_q := []) rfl rfl rfl ?_
          refine pm_R_br pm_M190 (pc_q := 2) rfl rfl ?_
          refine pm_R_lo pm_M190 (pc_q := 3) rfl rfl rfl ?_
          refine pm_R_op pm_M190 (pc_q := 4) (st_q := [.int 4, .int 3]) rfl rfl rfl ?_
          refine pm_R_br pm_M190 (pc_q := 7) (st_q := []) rfl rfl ?_
          refine pm_R_lo pm_M190 (pc_q := 8) rfl rfl rfl ?_
          refine rf_R_get pm_M190 T3237 (pc_q := 11) (v := .ref 52) rfl rfl rfl rfl ?_
          refine pm_R_lo pm_M190 (pc_q := 12) rfl rfl rfl ?_
          refine pm_R_op pm_M190 (pc_q := 13) (st_q := [.int (-1), .int 3, .ref 52]) rfl rfl rfl ?_
          refine rf_R_ist pm_M190 T3237 (pc_q := 14) rfl e3239 (by decide) (by decide) rfl ⟨_, rfl, sf_upd (sf_upd (sf_upd (sf_upd b3225 (sf_weak sf_kn1 (by decide) (by decide)) _) (sf_weak sf_kn1 (by decide) (by decide)) _) (sf_weak sf_kn1 (by decide) (by decide)) _) (sf_weak sf_kn1 (by decide) (by decide)) _⟩ rfl (fun h3241 T3242 F3243 e3244 => ?_)
          have F3245 := F3240.trans F3243 (by decide)
          refine pm_R_lo pm_M190 (pc_q := 17) (ls_q := [.ref 41, .int 4]) (st_q := []) rfl rfl rfl ?_
          refine pm_R_br pm_M190 (pc_q := 2) rfl rfl ?_
          refine pm_R_lo pm_M190 (pc_q := 3) rfl rfl rfl ?_
          refine pm_R_op pm_M190 (pc_q := 4) (st_q := [.int 4, .int 4]) rfl rfl rfl ?_
          refine pm_R_br pm_M190 (pc_q := 20) (st_q := []) rfl rfl ?_
          refine pm_R_ret pm_M190 (r := none) rfl rfl ?_
          show pm_R _ 189 141 [.ref 41, .long a0, pm_no, .int a1, pm_no] [] _ _
          refine pm_R_lo pm_M189 (pc_q := 142) (pm_q189_1 (Nat.le_of_ble_eq_true rfl)) rfl rfl ?_
          refine rf_R_get pm_M189 T3242 (pc_q := 145) (v := .ref 52) (pm_q189_1 (Nat.le_of_ble_eq_true rfl)) rfl rfl rfl ?_
          refine pm_R_op pm_M189 (pc_q := 146) (st_q := [.int 0, .ref 52]) (pm_q189_1 (Nat.le_of_ble_eq_true rfl)) rfl rfl ?_
          refine pm_R_lo pm_M189 (pc_q := 147) (pm_q189_1 (Nat.le_of_ble_eq_true rfl)) rfl rfl ?_
          refine pm_R_ldc2 pm_M189 (pc_q := 150) (pm_q189_1 (Nat.le_of_ble_eq_true rfl)) rfl rfl ?_
          refine pm_R_op pm_M189 (pc_q := 151) (st_q := [.int z342, .int 0, .ref 52]) (pm_q189_1 (Nat.le_of_ble_eq_true rfl)) (by show some (Value.int (lg_cmp a0 1819242347) :: _) = _; rw [← e343]) rfl ?_
          refine pm_R_ifc pm_M189 (t := 158) (pc_q := 154) (pm_q189_1 (Nat.le_of_ble_eq_true rfl)) rfl rfl (fun c3248 => ?_) (fun c3248 => absurd (Classical.not_not.mp c3248) c344)
          have k3249 := sf_lneC e343 c3248
          refine pm_R_lo pm_M189 (pc_q := 159) (pm_q189_1 (Nat.le_of_ble_eq_true rfl)) rfl rfl ?_
          refine pm_R_ldc2 pm_M189 (pc_q := 162) (pm_q189_1 (Nat.le_of_ble_eq_true rfl)) rfl rfl ?_
          refine pm_R_op pm_M189 (pc_q := 163) (st_q := [.int z3188, .int 0, .ref 52]) (pm_q189_1 (Nat.le_of_ble_eq_true rfl)) (by show some (Value.int (lg_cmp a0 1635213689) :: _) = _; rw [← e3189]) rfl ?_
          refine pm_R_ifc pm_M189 (t := 170) (pc_q := 166) (pm_q189_1 (Nat.le_of_ble_eq_true rfl)) rfl rfl (fun c3252 => absurd (sf_pt2 B3191 sf_k0) c3252) (fun c3252 => ?_)
          refine pm_R_op pm_M189 (pc_q := 167) (st_q := [.int 1, .int 0, .ref 52]) (pm_q189_1 (Nat.le_of_ble_eq_true rfl)) rfl rfl ?_
          refine pm_R_br pm_M189 (pc_q := 171) (pm_q189_1 (Nat.le_of_ble_eq_true rfl)) rfl ?_
          refine rf_R_ist pm_M189 T3242 (pc_q := 172) (pm_q189_1 (Nat.le_of_ble_eq_true rfl)) e3244 (by decide) (by decide) rfl ⟨_, rfl, sf_upd (sf_upd (sf_upd (sf_upd (sf_upd b3225 (sf_weak sf_kn1 (by decide) (by decide)) _) (sf_weak sf_kn1 (by decide) (by decide)) _) (sf_weak sf_kn1 (by decide) (by decide)) _) (sf_weak sf_kn1 (by decide) (by decide)) _) (sf_weak sf_k1 (by decide) (by decide)) _⟩ rfl (fun h3253 T3254 F3255 e3256 => ?_)
          have F3257 := F3245.trans F3255 (by decide)
          refine pm_R_lo pm_M189 (pc_q := 173) (pm_q189_1 (Nat.le_of_ble_eq_true rfl)) rfl rfl ?_
          refine pm_R_op pm_M189 (pc_q := 174) (st_q := [.int 1, .ref 41]) (pm_q189_1 (Nat.le_of_ble_eq_true rfl)) rfl rfl ?_
          refine pm_R_op pm_M189 (pc_q := 175) (st_q := [.int (-1), .int 1, .ref 41]) (pm_q189_1 (Nat.le_of_ble_eq_true rfl)) rfl rfl ?_
          refine pm_R_cv pm_M189 (pc_q := 178) (a := 41) (ra := [.int (-1), .int 1]) (rest := []) (ls_q := [.ref 41, .int 1, .int (-1), pm_no]) (pm_q189_1 (Nat.le_of_ble_eq_true rfl)) rfl (Or.inl rfl) pm_M191 T3254.2.1 rfl (by decide) (Nat.lt_of_lt_of_le (by decide) T3254.1) rfl rfl (Nat.le_of_ble_eq_true rfl) rfl rfl ?_
          refine pm_R_lo pm_M191 (pc_q := 1) rfl rfl rfl ?_
          refine pm_R_lo pm_M191 (pc_q := 2) rfl rfl rfl ?_
          refine pm_R_op pm_M191 (pc_q := 3) (st_q := [.int 5, .int 1, .ref 41]) rfl rfl rfl ?_
          refine pm_R_lo pm_M191 (pc_q := 4) rfl rfl rfl ?_
          refine pm_R_cv pm_M191 (pc_q := 7) (a := 41) (ra := [.int (-1), .int 5, .int 1]) (rest := []) (ls_q := [.ref 41, .int 1, .int 5, .int (-1)]) rfl rfl (Or.inl rfl) pm_M183 T3254.2.1 rfl (by decide) (Nat.lt_of_lt_of_le (by decide) T3254.1) rfl rfl (Nat.le_of_ble_eq_true rfl) rfl rfl ?_
          refine rf_c183_1_5 (d := d + 0) T3254  (fun m3260 w3261 h3262 T3263 F3264 W3265 X3266 => ?_) (fun m3269 w3270 h3271 T3272 F3273 W3274 X3275 X3276 X3277 X3278 X3279 => ?_) (fun m3282 w3283 h3284 T3285 F3286 W3287 X3288 X3289 X3290 B3291 B3292 => ?_)
          · have F3293 := F3257.trans F3264 (by decide)
            have W3294 : rf_W [10, 12, 13, 14, 16, 17, 18, 21, 22] m m3260 := W3214.trans W3265 (by decide)
            have B3295 : sf_B 0 600 (m3260 10) := T3263.2.2.1 10
            have B3296 : sf_B 0 4 (m3260 13) := T3263.2.2.1 13
            have B3297 : sf_B 0 4 (m3260 17) := T3263.2.2.1 17
            have B3298 : sf_B 0 1 (m3260 22) := T3263.2.2.1 22
            show pm_R _ 191 7 [.ref 41, .int 1, .int (-1), pm_no] [.int 0] _ _
            have R3299 : (m 10).toInt ≤ (m3260 10).toInt := (sf_aux70 _ _ _ R3218 X3266)
            refine pm_R_lo pm_M191 (pc_q := 8) (ls_q := [.ref 41, .int 1, .int (-1), .int 0]) (st_q := []) rfl rfl rfl ?_
            refine pm_R_lo pm_M191 (pc_q := 9) rfl rfl rfl ?_
            refine pm_R_lo pm_M191 (pc_q := 10) rfl rfl rfl ?_
            refine pm_R_br pm_M191 (pc_q := 35) (st_q := [.ref 41]) rfl rfl ?_
            refine pm_R_lo pm_M191 (pc_q := 36) rfl rfl rfl ?_
            have B3300 : sf_B (-1) 99 (m3260 21) := T3263.2.2.1 21
            refine rf_R_get pm_M191 T3263 (pc_q := 39) (v := .int (m3260 21)) rfl rfl rfl rfl ?_
            refine rf_R_put pm_M191 T3263 (pc_q := 42) rfl rfl rfl (by decide) rfl rfl B3300 rfl rfl (fun h3301 m3304 em3305 T3302 F3303 => ?_)
            have F3306 := F3293.trans F3303 (by decide)
            have B3307 : sf_B 0 600 (m3304 10) := by rw [em3305]; exact B3295
            have ek3308 : (m3304 10).toInt = ((m3260 10)).toInt := by rw [em3305]; rfl
            have B3309 : sf_B 0 4 (m3304 13) := by rw [em3305]; exact B3296
            have ek3310 : (m3304 13).toInt = ((m3260 13)).toInt := by rw [em3305]; rfl
            have B3311 : sf_B 0 4 (m3304 17) := by rw [em3305]; exact B3297
            have ek3312 : (m3304 17).toInt = ((m3260 17)).toInt := by rw [em3305]; rfl
            have B3313 : sf_B 0 1 (m3304 22) := by rw [em3305]; exact B3298
            have ek3314 : (m3304 22).toInt = ((m3260 22)).toInt := by rw [em3305]; rfl
            have B3315 : sf_B (-1) 99 (m3304 21) := by rw [em3305]; exact B3300
            have ek3316 : (m3304 21).toInt = ((m3260 21)).toInt := by rw [em3305]; rfl
            have W3317 : rf_W [10, 12, 13, 14, 16, 17, 18, 21, 22] m m3304 := by rw [em3305]; exact W3294.put (by decide)
            refine pm_R_lo pm_M191 (pc_q := 43) rfl rfl rfl ?_
            refine pm_R_ret pm_M191 (r := some (.int 0)) rfl rfl ?_
            show pm_R _ 189 178 [.ref 41, .long a0, pm_no, .int a1, pm_no] [.int 0] _ _
            refine pm_R_br pm_M189 (pc_q := 181) (st_q := []) (pm_q189_1 (Nat.le_of_ble_eq_true rfl)) rfl ?_
            refine pm_R_op pm_M189 (pc_q := 182) (st_q := [.int 0]) (pm_q189_1 (Nat.le_of_ble_eq_true rfl)) rfl rfl ?_
            exact pm_R_ret pm_M189 (r := some (.int 0)) (pm_q189_1 (Nat.le_of_ble_eq_true rfl)) rfl (K0 m3304 w3261 h3301 T3302 F3306 W3317 (sf_aux39 _ _ _ ek3308 R3299))
          · have F3318 := F3257.trans F3273 (by decide)
            have W3319 : rf_W [10, 12, 13, 14, 16, 17, 18, 21, 22] m m3269 := W3214.trans W3274 (by decide)
            have B3320 : sf_B 0 600 (m3269 10) := T3272.2.2.1 10
            have B3321 : sf_B 0 4 (m3269 13) := T3272.2.2.1 13
            have B3322 : sf_B 0 4 (m3269 17) := T3272.2.2.1 17
            have B3323 : sf_B 0 1 (m3269 22) := T3272.2.2.1 22
            show pm_R _ 191 7 [.ref 41, .int 1, .int (-1), pm_no] [.int 1] _ _
            have R3324 : (m 10).toInt ≤ (m3269 10).toInt := (sf_aux70 _ _ _ R3218 X3279)
            obtain ⟨v3325, B3326, e3327⟩ := X3275 _ e3256
            refine pm_R_lo pm_M191 (pc_q := 8) (ls_q := [.ref 41, .int 1, .int (-1), .int 1]) (st_q := []) rfl rfl rfl ?_
            refine pm_R_lo pm_M191 (pc_q := 9) rfl rfl rfl ?_
            refine pm_R_lo pm_M191 (pc_q := 10) rfl rfl rfl ?_
            refine pm_R_br pm_M191 (pc_q := 13) (st_q := [.ref 41]) rfl rfl ?_
            refine pm_R_lo pm_M191 (pc_q := 14) rfl rfl rfl ?_
            refine rf_R_get pm_M191 T3272 (pc_q := 17) (v := .ref 52) rfl rfl rfl rfl ?_
            refine pm_R_lo pm_M191 (pc_q := 18) rfl rfl rfl ?_
            refine pm_R_iald pm_M191 (pc_q := 19) (v := v3325) rfl e3327 (Nat.lt_of_lt_of_le (by decide) T3272.1) rfl sf_upd_eq rfl ?_
            refine pm_R_lo pm_M191 (pc_q := 20) rfl rfl rfl ?_
            have B3330 : sf_B (-1) 99 (m3269 21) := T3272.2.2.1 21
            refine rf_R_get pm_M191 T3272 (pc_q := 23) (v := .int (m3269 21)) rfl rfl rfl rfl ?_
            refine pm_R_icmp pm_M191 (t := 35) (pc_q := 26) rfl rfl rfl (fun c3331 => ?_) (fun c3331 => ?_)
            · have B3332 : sf_B 0 99 (m3269 21) := sf_leR c3331 B3326 B3330
              refine pm_R_lo pm_M191 (pc_q := 36) rfl rfl rfl ?_
              refine rf_R_get pm_M191 T3272 (pc_q := 39) (v := .int (m3269 21)) rfl rfl rfl rfl ?_
              refine rf_R_put pm_M191 T3272 (pc_q := 42) rfl rfl rfl (by decide) rfl rfl (sf_weak B3332 (by decide) (by decide)) rfl rfl (fun h3333 m3336 em3337 T3334 F3335 => ?_)
              have F3338 := F3318.trans F3335 (by decide)
              have B3339 : sf_B 0 600 (m3336 10) := by rw [em3337]; exact B3320
              have ek3340 : (m3336 10).toInt = ((m3269 10)).toInt := by rw [em3337]; rfl
              have B3341 : sf_B 0 4 (m3336 13) := by rw [em3337]; exact B3321
              have ek3342 : (m3336 13).toInt = ((m3269 13)).toInt := by rw [em3337]; rfl
              have B3343 : sf_B 0 4 (m3336 17) := by rw [em3337]; exact (sf_eqT X3276 B3212)
              have ek3344 : (m3336 17).toInt = ((m3203 17)).toInt := by rw [em3337]; exact X3276
              have B3345 : sf_B 0 1 (m3336 22) := by rw [em3337]; exact (sf_eqT X3277 B3217)
              have ek3346 : (m3336 22).toInt = ((m3203 22)).toInt := by rw [em3337]; exact X3277
              have B3347 : sf_B 0 99 (m3336 21) := by rw [em3337]; exact B3332
              have ek3348 : (m3336 21).toInt = ((m3269 21)).toInt := by rw [em3337]; rfl
              have W3349 : rf_W [10, 12, 13, 14, 16, 17, 18, 21, 22] m m3336 := by rw [em3337]; exact W3319.put (by decide)
              refine pm_R_lo pm_M191 (pc_q := 43) rfl rfl rfl ?_
              refine pm_R_ret pm_M191 (r := some (.int 1)) rfl rfl ?_
              show pm_R _ 189 178 [.ref 41, .long a0, pm_no, .int a1, pm_no] [.int 1] _ _
              refine pm_R_br pm_M189 (pc_q := 183) (st_q := []) (pm_q189_1 (Nat.le_of_ble_eq_true rfl)) rfl ?_
              refine pm_R_lo pm_M189 (pc_q := 184) (pm_q189_1 (Nat.le_of_ble_eq_true rfl)) rfl rfl ?_
              refine pm_R_ldc2 pm_M189 (pc_q := 187) (pm_q189_1 (Nat.le_of_ble_eq_true rfl)) rfl rfl ?_
              refine pm_R_op pm_M189 (pc_q := 188) (st_q := [.int z342]) (pm_q189_1 (Nat.le_of_ble_eq_true rfl)) (by show some (Value.int (lg_cmp a0 1819242347) :: _) = _; rw [← e343]) rfl ?_
              refine pm_R_ifc pm_M189 (t := 205) (pc_q := 191) (pm_q189_1 (Nat.le_of_ble_eq_true rfl)) rfl rfl (fun c3352 => ?_) (fun c3352 => absurd (Classical.not_not.mp c3352) c344)
              have k3353 := sf_lneC e343 c3352
              refine pm_R_lo pm_M189 (pc_q := 206) (pm_q189_1 (Nat.le_of_ble_eq_true rfl)) rfl rfl ?_
              refine pm_R_ldc2 pm_M189 (pc_q := 209) (pm_q189_1 (Nat.le_of_ble_eq_true rfl)) rfl rfl ?_
              refine sf_R_lcmp pm_M189 (pc_q := 210) (pm_q189_1 (Nat.le_of_ble_eq_true rfl)) rfl (fun z3354 e3355 => ?_)
              have B3356 : sf_B (-2147483648) (-1) z3354 := lf_cmpLt e3355 B3192 (⟨by decide, by decide⟩ : lf_B 1935767923 1935767923 1935767923) (by decide)
              refine pm_R_ifc pm_M189 (t := 226) (pc_q := 213) (pm_q189_1 (Nat.le_of_ble_eq_true rfl)) rfl rfl (fun c3357 => ?_) (fun c3357 => absurd (Classical.not_not.mp c3357) (sf_neq2 B3356 sf_k0 (by decide)))
              have k3358 := sf_lneC e3355 c3357
              refine pm_R_lo pm_M189 (pc_q := 227) (pm_q189_2 (Nat.le_of_ble_eq_true rfl)) rfl rfl ?_
              refine pm_R_op pm_M189 (pc_q := 228) (st_q := [.int 1, .ref 41]) (pm_q189_2 (Nat.le_of_ble_eq_true rfl)) rfl rfl ?_
              refine pm_R_op pm_M189 (pc_q := 229) (st_q := [.int 2, .int 1, .ref 41]) (pm_q189_2 (Nat.le_of_ble_eq_true rfl)) rfl rfl ?_
              refine pm_R_op pm_M189 (pc_q := 230) (st_q := [.int 3, .int 2, .int 1, .ref 41]) (pm_q189_2 (Nat.le_of_ble_eq_true rfl)) rfl rfl ?_
              refine pm_R_op pm_M189 (pc_q := 232) (st_q := [.int 50, .int 3, .int 2, .int 1, .ref 41]) (pm_q189_2 (Nat.le_of_ble_eq_true rfl)) rfl rfl ?_
              refine pm_R_op pm_M189 (pc_q := 233) (st_q := [.int 0, .int 50, .int 3, .int 2, .int 1, .ref 41]) (pm_q189_2 (Nat.le_of_ble_eq_true rfl)) rfl rfl ?_
              refine pm_R_cv pm_M189 (pc_q := 236) (a := 41) (ra := [.int 0, .int 50, .int 3, .int 2, .int 1]) (rest := []) (ls_q := [.ref 41, .int 1, .int 2, .int 3, .int 50, .int 0, pm_no, pm_no]) (pm_q189_2 (Nat.le_of_ble_eq_true rfl)) rfl (Or.inl rfl) pm_M185 T3334.2.1 rfl (by decide) (Nat.lt_of_lt_of_le (by decide) T3334.1) rfl rfl (Nat.le_of_ble_eq_true rfl) rfl rfl ?_
              have e3359 := (F3335.cell (by decide) (F3273.cell (by decide) (F3255.cell (by decide) (F3243.cell (by decide) (F3238.cell (by decide) (F3233.cell (by decide) (F3228.cell (by decide) (F3207.cell (by decide) e3))))))))
              have e3360 := (F3335.cell (by decide) e3327)
              refine rf_c185_d (d := d + 3) T3334 (⟨f2, e3359, ct4, fun z => (bd5 (sf_aux75 _ _ _ ek3213 ek3344 z))⟩) (fun _ g eg => by rw [e3360] at eg; cases eg; exact ⟨sf_eqL (Eq.trans (sf_upd_nec (k := Int32.toNatClampNeg 1) (j := Int32.toNatClampNeg 0) (by decide)) sf_upd_eq) (sf_weak sf_k1 (by decide) (by decide)), sf_eqL sf_upd_eq B3326, sf_eqL (Eq.trans (sf_upd_nec (k := Int32.toNatClampNeg 1) (j := Int32.toNatClampNeg 2) (by decide)) (Eq.trans (sf_upd_nec (k := Int32.toNatClampNeg 0) (j := Int32.toNatClampNeg 2) (by decide)) (Eq.trans (sf_upd_nec (k := Int32.toNatClampNeg 3) (j := Int32.toNatClampNeg 2) (by decide)) sf_upd_eq))) (sf_weak sf_kn1 (by decide) (by decide))⟩) (fun m3363 w3364 h3365 T3366 F3367 W3368 X3369 => ?_)
              have F3370 := F3338.trans F3367 (by decide)
              have B3371 : sf_B 0 600 (m3363 10) := by rw [W3368 10 (by decide)]; exact B3339
              have ek3372 : (m3363 10).toInt = ((m3269 10)).toInt := by rw [W3368 10 (by decide)]; exact ek3340
              have B3373 : sf_B 0 4 (m3363 13) := by rw [W3368 13 (by decide)]; exact B3341
              have ek3374 : (m3363 13).toInt = ((m3269 13)).toInt := by rw [W3368 13 (by decide)]; exact ek3342
              have B3375 : sf_B 0 4 (m3363 17) := by rw [W3368 17 (by decide)]; exact B3343
              have ek3376 : (m3363 17).toInt = ((m3203 17)).toInt := by rw [W3368 17 (by decide)]; exact ek3344
              have B3377 : sf_B 0 1 (m3363 22) := by rw [W3368 22 (by decide)]; exact B3345
              have ek3378 : (m3363 22).toInt = ((m3203 22)).toInt := by rw [W3368 22 (by decide)]; exact ek3346
              have B3379 : sf_B 0 99 (m3363 21) := by rw [W3368 21 (by decide)]; exact B3347
              have ek3380 : (m3363 21).toInt = ((m3269 21)).toInt := by rw [W3368 21 (by decide)]; exact ek3348
              have W3381 : rf_W [10, 12, 13, 14, 16, 17, 18, 21, 22] m m3363 := W3349.trans W3368 (by decide)
              show pm_R _ 189 236 [.ref 41, .long a0, pm_no, .int a1, pm_no] [] _ _
              obtain ⟨f3382, e3383, ct3384, bd3385⟩ := X3369
              refine pm_R_op pm_M189 (pc_q := 237) (st_q := [.int 1]) (pm_q189_2 (Nat.le_of_ble_eq_true rfl)) rfl rfl ?_
              exact pm_R_ret pm_M189 (r := some (.int 1)) (pm_q189_2 (Nat.le_of_ble_eq_true rfl)) rfl (K1 m3363 w3364 h3365 T3366 F3370 W3381 (⟨f3382, e3383, ct3384, fun z => (bd3385 z)⟩) (sf_aux39 _ _ _ ek3372 R3324))
            · have B3386 : sf_B (-1) 4 (m3269 21) := sf_ltL (Int32.not_le.mp c3331) B3330 B3326
              refine pm_R_lo pm_M191 (pc_q := 27) rfl rfl rfl ?_
              refine rf_R_get pm_M191 T3272 (pc_q := 30) (v := .ref 52) rfl rfl rfl rfl ?_
              refine pm_R_lo pm_M191 (pc_q := 31) rfl rfl rfl ?_
              refine pm_R_iald pm_M191 (pc_q := 32) (v := v3325) rfl e3327 (Nat.lt_of_lt_of_le (by decide) T3272.1) rfl sf_upd_eq rfl ?_
              refine pm_R_br pm_M191 (pc_q := 39) rfl rfl ?_
              refine rf_R_put pm_M191 T3272 (pc_q := 42) rfl rfl rfl (by decide) rfl rfl (sf_weak B3326 (by decide) (by decide)) rfl rfl (fun h3389 m3392 em3393 T3390 F3391 => ?_)
              have F3394 := F3318.trans F3391 (by decide)
              have B3395 : sf_B 0 600 (m3392 10) := by rw [em3393]; exact B3320
              have ek3396 : (m3392 10).toInt = ((m3269 10)).toInt := by rw [em3393]; rfl
              have B3397 : sf_B 0 4 (m3392 13) := by rw [em3393]; exact B3321
              have ek3398 : (m3392 13).toInt = ((m3269 13)).toInt := by rw [em3393]; rfl
              have B3399 : sf_B 0 4 (m3392 17) := by rw [em3393]; exact (sf_eqT X3276 B3212)
              have ek3400 : (m3392 17).toInt = ((m3203 17)).toInt := by rw [em3393]; exact X3276
              have B3401 : sf_B 0 1 (m3392 22) := by rw [em3393]; exact (sf_eqT X3277 B3217)
              have ek3402 : (m3392 22).toInt = ((m3203 22)).toInt := by rw [em3393]; exact X3277
              have B3403 : sf_B 0 5 (m3392 21) := by rw [em3393]; exact B3326
              have ek3404 : (m3392 21).toInt = (v3325).toInt := by rw [em3393]; rfl
              have W3405 : rf_W [10, 12, 13, 14, 16, 17, 18, 21, 22] m m3392 := by rw [em3393]; exact W3319.put (by decide)
              refine pm_R_lo pm_M191 (pc_q := 43) rfl rfl rfl ?_
              refine pm_R_ret pm_M191 (r := some (.int 1)) rfl rfl ?_
              show pm_R _ 189 178 [.ref 41, .long a0, pm_no, .int a1, pm_no] [.int 1] _ _
              refine pm_R_br pm_M189 (pc_q := 183) (st_q := []) (pm_q189_1 (Nat.le_of_ble_eq_true rfl)) rfl ?_
              refine pm_R_lo pm_M189 (pc_q := 184) (pm_q189_1 (Nat.le_of_ble_eq_true rfl)) rfl rfl ?_
              refine pm_R_ldc2 pm_M189 (pc_q := 187) (pm_q189_1 (Nat.le_of_ble_eq_true rfl)) rfl rfl ?_
              refine pm_R_op pm_M189 (pc_q := 188) (st_q := [.int z342]) (pm_q189_1 (Nat.le_of_ble_eq_true rfl)) (by show some (Value.int (lg_cmp a0 1819242347) :: _) = _; rw [← e343]) rfl ?_
              refine pm_R_ifc pm_M189 (t := 205) (pc_q := 191) (pm_q189_1 (Nat.le_of_ble_eq_true rfl)) rfl rfl (fun c3408 => ?_) (fun c3408 => absurd (Classical.not_not.mp c3408) c344)
              have k3409 := sf_lneC e343 c3408
              refine pm_R_lo pm_M189 (pc_q := 206) (pm_q189_1 (Nat.le_of_ble_eq_true rfl)) rfl rfl ?_
              refine pm_R_ldc2 pm_M189 (pc_q := 209) (pm_q189_1 (Nat.le_of_ble_eq_true rfl)) rfl rfl ?_
              refine sf_R_lcmp pm_M189 (pc_q := 210) (pm_q189_1 (Nat.le_of_ble_eq_true rfl)) rfl (fun z3410 e3411 => ?_)
              have B3412 : sf_B (-2147483648) (-1) z3410 := lf_cmpLt e3411 B3192 (⟨by decide, by decide⟩ : lf_B 1935767923 1935767923 1935767923) (by decide)
              refine pm_R_ifc pm_M189 (t := 226) (pc_q := 213) (pm_q189_1 (Nat.le_of_ble_eq_true rfl)) rfl rfl (fun c3413 => ?_) (fun c3413 => absurd (Classical.not_not.mp c3413) (sf_neq2 B3412 sf_k0 (by decide)))
              have k3414 := sf_lneC e3411 c3413
              refine pm_R_lo pm_M189 (pc_q := 227) (pm_q189_2 (Nat.le_of_ble_eq_true rfl)) rfl rfl ?_
              refine pm_R_op pm_M189 (pc_q := 228) (st_q := [.int 1, .ref 41]) (pm_q189_2 (Nat.le_of_ble_eq_true rfl)) rfl rfl ?_
              refine pm_R_op pm_M189 (pc_q := 229) (st_q := [.int 2, .int 1, .ref 41]) (pm_q189_2 (Nat.le_of_ble_eq_true rfl)) rfl rfl ?_
              refine pm_R_op pm_M189 (pc_q := 230) (st_q := [.int 3, .int 2, .int 1, .ref 41]) (pm_q189_2 (Nat.le_of_ble_eq_true rfl)) rfl rfl ?_
              refine pm_R_op pm_M189 (pc_q := 232) (st_q := [.int 50, .int 3, .int 2, .int 1, .ref 41]) (pm_q189_2 (Nat.le_of_ble_eq_true rfl)) rfl rfl ?_
              refine pm_R_op pm_M189 (pc_q := 233) (st_q := [.int 0, .int 50, .int 3, .int 2, .int 1, .ref 41]) (pm_q189_2 (Nat.le_of_ble_eq_true rfl)) rfl rfl ?_
              refine pm_R_cv pm_M189 (pc_q := 236) (a := 41) (ra := [.int 0, .int 50, .int 3, .int 2, .int 1]) (rest := []) (ls_q := [.ref 41, .int 1, .int 2, .int 3, .int 50, .int 0, pm_no, pm_no]) (pm_q189_2 (Nat.le_of_ble_eq_true rfl)) rfl (Or.inl rfl) pm_M185 T3390.2.1 rfl (by decide) (Nat.lt_of_lt_of_le (by decide) T3390.1) rfl rfl (Nat.le_of_ble_eq_true rfl) rfl rfl ?_
              have e3415 := (F3391.cell (by decide) (F3273.cell (by decide) (F3255.cell (by decide) (F3243.cell (by decide) (F3238.cell (by decide) (F3233.cell (by decide) (F3228.cell (by decide) (F3207.cell (by decide) e3))))))))
              have e3416 := (F3391.cell (by decide) e3327)
              refine rf_c185_d (d := d + 3) T3390 (⟨f2, e3415, ct4, fun z => (bd5 (sf_aux75 _ _ _ ek3213 ek3400 z))⟩) (fun _ g eg => by rw [e3416] at eg; cases eg; exact ⟨sf_eqL (Eq.trans (sf_upd_nec (k := Int32.toNatClampNeg 1) (j := Int32.toNatClampNeg 0) (by decide)) sf_upd_eq) (sf_weak sf_k1 (by decide) (by decide)), sf_eqL sf_upd_eq B3326, sf_eqL (Eq.trans (sf_upd_nec (k := Int32.toNatClampNeg 1) (j := Int32.toNatClampNeg 2) (by decide)) (Eq.trans (sf_upd_nec (k := Int32.toNatClampNeg 0) (j := Int32.toNatClampNeg 2) (by decide)) (Eq.trans (sf_upd_nec (k := Int32.toNatClampNeg 3) (j := Int32.toNatClampNeg 2) (by decide)) sf_upd_eq))) (sf_weak sf_kn1 (by decide) (by decide))⟩) (fun m3419 w3420 h3421 T3422 F3423 W3424 X3425 => ?_)
              have F3426 := F3394.trans F3423 (by decide)
              have B3427 : sf_B 0 600 (m3419 10) := by rw [W3424 10 (by decide)]; exact B3395
              have ek3428 : (m3419 10).toInt = ((m3269 10)).toInt := by rw [W3424 10 (by decide)]; exact ek3396
              have B3429 : sf_B 0 4 (m3419 13) := by rw [W3424 13 (by decide)]; exact B3397
              have ek3430 : (m3419 13).toInt = ((m3269 13)).toInt := by rw [W3424 13 (by decide)]; exact ek3398
              have B3431 : sf_B 0 4 (m3419 17) := by rw [W3424 17 (by decide)]; exact B3399
              have ek3432 : (m3419 17).toInt = ((m3203 17)).toInt := by rw [W3424 17 (by decide)]; exact ek3400
              have B3433 : sf_B 0 1 (m3419 22) := by rw [W3424 22 (by decide)]; exact B3401
              have ek3434 : (m3419 22).toInt = ((m3203 22)).toInt := by rw [W3424 22 (by decide)]; exact ek3402
              have B3435 : sf_B 0 5 (m3419 21) := by rw [W3424 21 (by decide)]; exact B3403
              have ek3436 : (m3419 21).toInt = (v3325).toInt := by rw [W3424 21 (by decide)]; exact ek3404
              have W3437 : rf_W [10, 12, 13, 14, 16, 17, 18, 21, 22] m m3419 := W3405.trans W3424 (by decide)
              show pm_R _ 189 236 [.ref 41, .long a0, pm_no, .int a1, pm_no] [] _ _
              obtain ⟨f3438, e3439, ct3440, bd3441⟩ := X3425
              refine pm_R_op pm_M189 (pc_q := 237) (st_q := [.int 1]) (pm_q189_2 (Nat.le_of_ble_eq_true rfl)) rfl rfl ?_
              exact pm_R_ret pm_M189 (r := some (.int 1)) (pm_q189_2 (Nat.le_of_ble_eq_true rfl)) rfl (K1 m3419 w3420 h3421 T3422 F3426 W3437 (⟨f3438, e3439, ct3440, fun z => (bd3441 z)⟩) (sf_aux39 _ _ _ ek3428 R3324))
          · have F3442 := F3257.trans F3286 (by decide)
            have W3443 : rf_W [10, 12, 13, 14, 16, 17, 18, 21, 22] m m3282 := W3214.trans W3287 (by decide)
            have B3444 : sf_B 0 600 (m3282 10) := T3285.2.2.1 10
            have B3445 : sf_B 0 4 (m3282 13) := T3285.2.2.1 13
            have B3446 : sf_B 0 4 (m3282 17) := T3285.2.2.1 17
            have B3447 : sf_B 0 1 (m3282 22) := T3285.2.2.1 22
            show pm_R _ 191 7 [.ref 41, .int 1, .int (-1), pm_no] [.int 1] _ _
            have R3448 : (m 10).toInt ≤ (m3282 10).toInt := (sf_aux70 _ _ _ R3218 X3290)
            obtain ⟨v3449, B3450, e3451⟩ := X3288 _ e3256
            refine pm_R_lo pm_M191 (pc_q := 8) (ls_q := [.ref 41, .int 1, .int (-1), .int 1]) (st_q := []) rfl rfl rfl ?_
            refine pm_R_lo pm_M191 (pc_q := 9) rfl rfl rfl ?_
            refine pm_R_lo pm_M191 (pc_q := 10) rfl rfl rfl ?_
            refine pm_R_br pm_M191 (pc_q := 13) (st_q := [.ref 41]) rfl rfl ?_
            refine pm_R_lo pm_M191 (pc_q := 14) rfl rfl rfl ?_
            refine rf_R_get pm_M191 T3285 (pc_q := 17) (v := .ref 52) rfl rfl rfl rfl ?_
            refine pm_R_lo pm_M191 (pc_q := 18) rfl rfl rfl ?_
            refine pm_R_iald pm_M191 (pc_q := 19) (v := v3449) rfl e3451 (Nat.lt_of_lt_of_le (by decide) T3285.1) rfl sf_upd_eq rfl ?_
            refine pm_R_lo pm_M191 (pc_q := 20) rfl rfl rfl ?_
            have B3454 : sf_B (-1) 99 (m3282 21) := T3285.2.2.1 21
            refine rf_R_get pm_M191 T3285 (pc_q := 23) (v := .int (m3282 21)) rfl rfl rfl rfl ?_
            refine pm_R_icmp pm_M191 (t := 35) (pc_q := 26) rfl rfl rfl (fun c3455 => ?_) (fun c3455 => ?_)
            · have B3456 : sf_B 0 99 (m3282 21) := sf_leR c3455 B3450 B3454
              refine pm_R_lo pm_M191 (pc_q := 36) rfl rfl rfl ?_
              refine rf_R_get pm_M191 T3285 (pc_q := 39) (v := .int (m3282 21)) rfl rfl rfl rfl ?_
              refine rf_R_put pm_M191 T3285 (pc_q := 42) rfl rfl rfl (by decide) rfl rfl (sf_weak B3456 (by decide) (by decide)) rfl rfl (fun h3457 m3460 em3461 T3458 F3459 => ?_)
              have F3462 := F3442.trans F3459 (by decide)
              have B3463 : sf_B 0 600 (m3460 10) := by rw [em3461]; exact B3444
              have ek3464 : (m3460 10).toInt = ((m3282 10)).toInt := by rw [em3461]; rfl
              have B3465 : sf_B 0 4 (m3460 13) := by rw [em3461]; exact B3445
              have ek3466 : (m3460 13).toInt = ((m3282 13)).toInt := by rw [em3461]; rfl
              have B3467 : sf_B 1 4 (m3460 17) := by rw [em3461]; exact B3291
              have ek3468 : (m3460 17).toInt = ((m3282 17)).toInt := by rw [em3461]; rfl
              have B3469 : sf_B 0 0 (m3460 22) := by rw [em3461]; exact B3292
              have ek3470 : (m3460 22).toInt = ((m3282 22)).toInt := by rw [em3461]; rfl
              have B3471 : sf_B 0 99 (m3460 21) := by rw [em3461]; exact B3456
              have ek3472 : (m3460 21).toInt = ((m3282 21)).toInt := by rw [em3461]; rfl
              have W3473 : rf_W [10, 12, 13, 14, 16, 17, 18, 21, 22] m m3460 := by rw [em3461]; exact W3443.put (by decide)
              refine pm_R_lo pm_M191 (pc_q := 43) rfl rfl rfl ?_
              refine pm_R_ret pm_M191 (r := some (.int 1)) rfl rfl ?_
              show pm_R _ 189 178 [.ref 41, .long a0, pm_no, .int a1, pm_no] [.int 1] _ _
              refine pm_R_br pm_M189 (pc_q := 183) (st_q := []) (pm_q189_1 (Nat.le_of_ble_eq_true rfl)) rfl ?_
              refine pm_R_lo pm_M189 (pc_q := 184) (pm_q189_1 (Nat.le_of_ble_eq_true rfl)) rfl rfl ?_
              refine pm_R_ldc2 pm_M189 (pc_q := 187) (pm_q189_1 (Nat.le_of_ble_eq_true rfl)) rfl rfl ?_
              refine pm_R_op pm_M189 (pc_q := 188) (st_q := [.int z342]) (pm_q189_1 (Nat.le_of_ble_eq_true rfl)) (by show some (Value.int (lg_cmp a0 1819242347) :: _) = _; rw [← e343]) rfl ?_
              refine pm_R_ifc pm_M189 (t := 205) (pc_q := 191) (pm_q189_1 (Nat.le_of_ble_eq_true rfl)) rfl rfl (fun c3476 => ?_) (fun c3476 => absurd (Classical.not_not.mp c3476) c344)
              have k3477 := sf_lneC e343 c3476
              refine pm_R_lo pm_M189 (pc_q := 206) (pm_q189_1 (Nat.le_of_ble_eq_true rfl)) rfl rfl ?_
              refine pm_R_ldc2 pm_M189 (pc_q := 209) (pm_q189_1 (Nat.le_of_ble_eq_true rfl)) rfl rfl ?_
              refine sf_R_lcmp pm_M189 (pc_q := 210) (pm_q189_1 (Nat.le_of_ble_eq_true rfl)) rfl (fun z3478 e3479 => ?_)
              have B3480 : sf_B (-2147483648) (-1) z3478 := lf_cmpLt e3479 B3192 (⟨by decide, by decide⟩ : lf_B 1935767923 1935767923 1935767923) (by decide)
              refine pm_R_ifc pm_M189 (t := 226) (pc_q := 213) (pm_q189_1 (Nat.le_of_ble_eq_true rfl)) rfl rfl (fun c3481 => ?_) (fun c3481 => absurd (Classical.not_not.mp c3481) (sf_neq2 B3480 sf_k0 (by decide)))
              have k3482 := sf_lneC e3479 c3481
              refine pm_R_lo pm_M189 (pc_q := 227) (pm_q189_2 (Nat.le_of_ble_eq_true rfl)) rfl rfl ?_
              refine pm_R_op pm_M189 (pc_q := 228) (st_q := [.int 1, .ref 41]) (pm_q189_2 (Nat.le_of_ble_eq_true rfl)) rfl rfl ?_
              refine pm_R_op pm_M189 (pc_q := 229) (st_q := [.int 2, .int 1, .ref 41]) (pm_q189_2 (Nat.le_of_ble_eq_true rfl)) rfl rfl ?_
              refine pm_R_op pm_M189 (pc_q := 230) (st_q := [.int 3, .int 2, .int 1, .ref 41]) (pm_q189_2 (Nat.le_of_ble_eq_true rfl)) rfl rfl ?_
              refine pm_R_op pm_M189 (pc_q := 232) (st_q := [.int 50, .int 3, .int 2, .int 1, .ref 41]) (pm_q189_2 (Nat.le_of_ble_eq_true rfl)) rfl rfl ?_
              refine pm_R_op pm_M189 (pc_q := 233) (st_q := [.int 0, .int 50, .int 3, .int 2, .int 1, .ref 41]) (pm_q189_2 (Nat.le_of_ble_eq_true rfl)) rfl rfl ?_
              refine pm_R_cv pm_M189 (pc_q := 236) (a := 41) (ra := [.int 0, .int 50, .int 3, .int 2, .int 1]) (rest := []) (ls_q := [.ref 41, .int 1, .int 2, .int 3, .int 50, .int 0, pm_no, pm_no]) (pm_q189_2 (Nat.le_of_ble_eq_true rfl)) rfl (Or.inl rfl) pm_M185 T3458.2.1 rfl (by decide) (Nat.lt_of_lt_of_le (by decide) T3458.1) rfl rfl (Nat.le_of_ble_eq_true rfl) rfl rfl ?_
              have e3483 := (F3459.cell (by decide) (F3286.cell (by decide) (F3255.cell (by decide) (F3243.cell (by decide) (F3238.cell (by decide) (F3233.cell (by decide) (F3228.cell (by decide) (F3207.cell (by decide) e3))))))))
              refine rf_c185_d (d := d + 3) T3458 (⟨f2, e3483, ct4, fun z => (sf_pos B3467 (by decide) z)⟩) (fun z => sf_pos B3467 (by decide) z) (fun m3486 w3487 h3488 T3489 F3490 W3491 X3492 => ?_)
              have F3493 := F3462.trans F3490 (by decide)
              have B3494 : sf_B 0 600 (m3486 10) := by rw [W3491 10 (by decide)]; exact B3463
              have ek3495 : (m3486 10).toInt = ((m3282 10)).toInt := by rw [W3491 10 (by decide)]; exact ek3464
              have B3496 : sf_B 0 4 (m3486 13) := by rw [W3491 13 (by decide)]; exact B3465
              have ek3497 : (m3486 13).toInt = ((m3282 13)).toInt := by rw [W3491 13 (by decide)]; exact ek3466
              have B3498 : sf_B 1 4 (m3486 17) := by rw [W3491 17 (by decide)]; exact B3467
              have ek3499 : (m3486 17).toInt = ((m3282 17)).toInt := by rw [W3491 17 (by decide)]; exact ek3468
              have B3500 : sf_B 0 0 (m3486 22) := by rw [W3491 22 (by decide)]; exact B3469
              have ek3501 : (m3486 22).toInt = ((m3282 22)).toInt := by rw [W3491 22 (by decide)]; exact ek3470
              have B3502 : sf_B 0 99 (m3486 21) := by rw [W3491 21 (by decide)]; exact B3471
              have ek3503 : (m3486 21).toInt = ((m3282 21)).toInt := by rw [W3491 21 (by decide)]; exact ek3472
              have W3504 : rf_W [10, 12, 13, 14, 16, 17, 18, 21, 22] m m3486 := W3473.trans W3491 (by decide)
              show pm_R _ 189 236 [.ref 41, .long a0, pm_no, .int a1, pm_no] [] _ _
              obtain ⟨f3505, e3506, ct3507, bd3508⟩ := X3492
              refine pm_R_op pm_M189 (pc_q := 237) (st_q := [.int 1]) (pm_q189_2 (Nat.le_of_ble_eq_true rfl)) rfl rfl ?_
              exact pm_R_ret pm_M189 (r := some (.int 1)) (pm_q189_2 (Nat.le_of_ble_eq_true rfl)) rfl (K1 m3486 w3487 h3488 T3489 F3493 W3504 (⟨f3505, e3506, ct3507, fun z => (sf_pos B3498 (by decide) z)⟩) (sf_aux39 _ _ _ ek3495 R3448))
            · have B3509 : sf_B (-1) 98 (m3282 21) := sf_ltL (Int32.not_le.mp c3455) B3454 B3450
              refine pm_R_lo pm_M191 (pc_q := 27) rfl rfl rfl ?_
              refine rf_R_get pm_M191 T3285 (pc_q := 30) (v := .ref 52) rfl rfl rfl rfl ?_
              refine pm_R_lo pm_M191 (pc_q := 31) rfl rfl rfl ?_
              refine pm_R_iald pm_M191 (pc_q := 32) (v := v3449) rfl e3451 (Nat.lt_of_lt_of_le (by decide) T3285.1) rfl sf_upd_eq rfl ?_
              refine pm_R_br pm_M191 (pc_q := 39) rfl rfl ?_
              refine rf_R_put pm_M191 T3285 (pc_q := 42) rfl rfl rfl (by decide) rfl rfl (sf_weak B3450 (by decide) (by decide)) rfl rfl (fun h3512 m3515 em3516 T3513 F3514 => ?_)
              have F3517 := F3442.trans F3514 (by decide)
              have B3518 : sf_B 0 600 (m3515 10) := by rw [em3516]; exact B3444
              have ek3519 : (m3515 10).toInt = ((m3282 10)).toInt := by rw [em3516]; rfl
              have B3520 : sf_B 0 4 (m3515 13) := by rw [em3516]; exact B3445
              have ek3521 : (m3515 13).toInt = ((m3282 13)).toInt := by rw [em3516]; rfl
              have B3522 : sf_B 1 4 (m3515 17) := by rw [em3516]; exact B3291
              have ek3523 : (m3515 17).toInt = ((m3282 17)).toInt := by rw [em3516]; rfl
              have B3524 : sf_B 0 0 (m3515 22) := by rw [em3516]; exact B3292
              have ek3525 : (m3515 22).toInt = ((m3282 22)).toInt := by rw [em3516]; rfl
              have B3526 : sf_B 0 99 (m3515 21) := by rw [em3516]; exact B3450
              have ek3527 : (m3515 21).toInt = (v3449).toInt := by rw [em3516]; rfl
              have W3528 : rf_W [10, 12, 13, 14, 16, 17, 18, 21, 22] m m3515 := by rw [em3516]; exact W3443.put (by decide)
              refine pm_R_lo pm_M191 (pc_q := 43) rfl rfl rfl ?_
              refine pm_R_ret pm_M191 (r := some (.int 1)) rfl rfl ?_
              show pm_R _ 189 178 [.ref 41, .long a0, pm_no, .int a1, pm_no] [.int 1] _ _
              refine pm_R_br pm_M189 (pc_q := 183) (st_q := []) (pm_q189_1 (Nat.le_of_ble_eq_true rfl)) rfl ?_
              refine pm_R_lo pm_M189 (pc_q := 184) (pm_q189_1 (Nat.le_of_ble_eq_true rfl)) rfl rfl ?_
              refine pm_R_ldc2 pm_M189 (pc_q := 187) (pm_q189_1 (Nat.le_of_ble_eq_true rfl)) rfl rfl ?_
              refine pm_R_op pm_M189 (pc_q := 188) (st_q := [.int z342]) (pm_q189_1 (Nat.le_of_ble_eq_true rfl)) (by show some (Value.int (lg_cmp a0 1819242347) :: _) = _; rw [← e343]) rfl ?_
              refine pm_R_ifc pm_M189 (t := 205) (pc_q := 191) (pm_q189_1 (Nat.le_of_ble_eq_true rfl)) rfl rfl (fun c3531 => ?_) (fun c3531 => absurd (Classical.not_not.mp c3531) c344)
              have k3532 := sf_lneC e343 c3531
              refine pm_R_lo pm_M189 (pc_q := 206) (pm_q189_1 (Nat.le_of_ble_eq_true rfl)) rfl rfl ?_
              refine pm_R_ldc2 pm_M189 (pc_q := 209) (pm_q189_1 (Nat.le_of_ble_eq_true rfl)) rfl rfl ?_
              refine sf_R_lcmp pm_M189 (pc_q := 210) (pm_q189_1 (Nat.le_of_ble_eq_true rfl)) rfl (fun z3533 e3534 => ?_)
              have B3535 : sf_B (-2147483648) (-1) z3533 := lf_cmpLt e3534 B3192 (⟨by decide, by decide⟩ : lf_B 1935767923 1935767923 1935767923) (by decide)
              refine pm_R_ifc pm_M189 (t := 226) (pc_q := 213) (pm_q189_1 (Nat.le_of_ble_eq_true rfl)) rfl rfl (fun c3536 => ?_) (fun c3536 => absurd (Classical.not_not.mp c3536) (sf_neq2 B3535 sf_k0 (by decide)))
              have k3537 := sf_lneC e3534 c3536
              refine pm_R_lo pm_M189 (pc_q := 227) (pm_q189_2 (Nat.le_of_ble_eq_true rfl)) rfl rfl ?_
              refine pm_R_op pm_M189 (pc_q := 228) (st_q := [.int 1, .ref 41]) (pm_q189_2 (Nat.le_of_ble_eq_true rfl)) rfl rfl ?_
              refine pm_R_op pm_M189 (pc_q := 229) (st_q := [.int 2, .int 1, .ref 41]) (pm_q189_2 (Nat.le_of_ble_eq_true rfl)) rfl rfl ?_
              refine pm_R_op pm_M189 (pc_q := 230) (st_q := [.int 3, .int 2, .int 1, .ref 41]) (pm_q189_2 (Nat.le_of_ble_eq_true rfl)) rfl rfl ?_
              refine pm_R_op pm_M189 (pc_q := 232) (st_q := [.int 50, .int 3, .int 2, .int 1, .ref 41]) (pm_q189_2 (Nat.le_of_ble_eq_true rfl)) rfl rfl ?_
              refine pm_R_op pm_M189 (pc_q := 233) (st_q := [.int 0, .int 50, .int 3, .int 2, .int 1, .ref 41]) (pm_q189_2 (Nat.le_of_ble_eq_true rfl)) rfl rfl ?_
              refine pm_R_cv pm_M189 (pc_q := 236) (a := 41) (ra := [.int 0, .int 50, .int 3, .int 2, .int 1]) (rest := []) (ls_q := [.ref 41, .int 1, .int 2, .int 3, .int 50, .int 0, pm_no, pm_no]) (pm_q189_2 (Nat.le_of_ble_eq_true rfl)) rfl (Or.inl rfl) pm_M185 T3513.2.1 rfl (by decide) (Nat.lt_of_lt_of_le (by decide) T3513.1) rfl rfl (Nat.le_of_ble_eq_true rfl) rfl rfl ?_
              have e3538 := (F3514.cell (by decide) (F3286.cell (by decide) (F3255.cell (by decide) (F3243.cell (by decide) (F3238.cell (by decide) (F3233.cell (by decide) (F3228.cell (by decide) (F3207.cell (by decide) e3))))))))
              refine rf_c185_d (d := d + 3) T3513 (⟨f2, e3538, ct4, fun z => (sf_pos B3522 (by decide) z)⟩) (fun z => sf_pos B3522 (by decide) z) (fun m3541 w3542 h3543 T3544 F3545 W3546 X3547 => ?_)
              have F3548 := F3517.trans F3545 (by decide)
              have B3549 : sf_B 0 600 (m3541 10) := by rw [W3546 10 (by decide)]; exact B3518
              have ek3550 : (m3541 10).toInt = ((m3282 10)).toInt := by rw [W3546 10 (by decide)]; exact ek3519
              have B3551 : sf_B 0 4 (m3541 13) := by rw [W3546 13 (by decide)]; exact B3520
              have ek3552 : (m3541 13).toInt = ((m3282 13)).toInt := by rw [W3546 13 (by decide)]; exact ek3521
              have B3553 : sf_B 1 4 (m3541 17) := by rw [W3546 17 (by decide)]; exact B3522
              have ek3554 : (m3541 17).toInt = ((m3282 17)).toInt := by rw [W3546 17 (by decide)]; exact ek3523
              have B3555 : sf_B 0 0 (m3541 22) := by rw [W3546 22 (by decide)]; exact B3524
              have ek3556 : (m3541 22).toInt = ((m3282 22)).toInt := by rw [W3546 22 (by decide)]; exact ek3525
              have B3557 : sf_B 0 99 (m3541 21) := by rw [W3546 21 (by decide)]; exact B3526
              have ek3558 : (m3541 21).toInt = (v3449).toInt := by rw [W3546 21 (by decide)]; exact ek3527
              have W3559 : rf_W [10, 12, 13, 14, 16, 17, 18, 21, 22] m m3541 := W3528.trans W3546 (by decide)
              show pm_R _ 189 236 [.ref 41, .long a0, pm_no, .int a1, pm_no] [] _ _
              obtain ⟨f3560, e3561, ct3562, bd3563⟩ := X3547
              refine pm_R_op pm_M189 (pc_q := 237) (st_q := [.int 1]) (pm_q189_2 (Nat.le_of_ble_eq_true rfl)) rfl rfl ?_
              exact pm_R_ret pm_M189 (r := some (.int 1)) (pm_q189_2 (Nat.le_of_ble_eq_true rfl)) rfl (K1 m3541 w3542 h3543 T3544 F3548 W3559 (⟨f3560, e3561, ct3562, fun z => (sf_pos B3553 (by decide) z)⟩) (sf_aux39 _ _ _ ek3550 R3448))
        · have B3564 : sf_B 50 50 (f2 1) := sf_eqL (Classical.not_not.mp c3199) sf_k50
          refine pm_R_lo pm_M189 (pc_q := 57) rfl rfl rfl ?_
          refine pm_R_op pm_M189 (pc_q := 58) (st_q := [.int 3, .ref 41]) rfl rfl rfl ?_
          refine pm_R_lo pm_M189 (pc_q := 59) rfl rfl rfl ?_
          refine pm_R_cv pm_M189 (pc_q := 62) (a := 41) (ra := [.int a1, .int 3]) (rest := []) (ls_q := [.ref 41, .int 3, .int a1]) rfl rfl (Or.inl rfl) pm_M182 T.2.1 rfl (by decide) (Nat.lt_of_lt_of_le (by decide) T.1) rfl rfl (Nat.le_of_ble_eq_true rfl) rfl rfl ?_
          refine rf_c182 (d := d + 3) T (sf_weak sf_k3 (by decide) (by decide)) Ba1 (fun m3567 w3568 h3569 T3570 F3571 W3572 B3573 => ?_)
          have F3574 := (rf_G.refl [41, 51, 52] h).trans F3571 (by decide)
          have B3575 : sf_B 0 600 (m3567 10) := by rw [W3572 10 (by decide)]; exact B1
          have ek3576 : (m3567 10).toInt = ((m 10)).toInt := by rw [W3572 10 (by decide)]
          have W3577 : rf_W [10, 12, 13, 14, 16, 17, 18, 21, 22] m m3567 := (rf_W.refl [10, 12, 13, 14, 16, 17, 18, 21, 22] m).trans W3572 (by decide)
          have B3578 : sf_B 0 4 (m3567 13) := T3570.2.2.1 13
          have B3579 : sf_B 0 4 (m3567 17) := T3570.2.2.1 17
          have B3580 : sf_B 0 1 (m3567 22) := T3570.2.2.1 22
          show pm_R _ 189 62 [.ref 41, .long a0, pm_no, .int a1, pm_no] [] _ _
          refine pm_R_lo pm_M189 (pc_q := 63) rfl rfl rfl ?_
          refine pm_R_cv pm_M189 (pc_q := 66) (a := 41) (ra := []) (rest := []) (ls_q := [.ref 41, pm_no, pm_no]) rfl rfl (Or.inl rfl) pm_M179 T3570.2.1 rfl (by decide) (Nat.lt_of_lt_of_le (by decide) T3570.1) rfl rfl (Nat.le_of_ble_eq_true rfl) rfl rfl ?_
          refine rf_c179 (d := d + 2) T3570  (fun m3583 w3584 h3585 T3586 F3587 W3588 X3589 X3590 => ?_)
          have F3591 := F3574.trans F3587 (by decide)
          have B3592 : sf_B 1 4 (m3583 17) := by rw [W3588 17 (by decide)]; exact B3573
          have ek3593 : (m3583 17).toInt = ((m3567 17)).toInt := by rw [W3588 17 (by decide)]
          have B3594 : sf_B 0 1 (m3583 22) := by rw [W3588 22 (by decide)]; exact B3580
          have ek3595 : (m3583 22).toInt = ((m3567 22)).toInt := by rw [W3588 22 (by decide)]
          have W3596 : rf_W [10, 12, 13, 14, 16, 17, 18, 21, 22] m m3583 := W3577.trans W3588 (by decide)
          have B3597 : sf_B 0 600 (m3583 10) := T3586.2.2.1 10
          have B3598 : sf_B 0 4 (m3583 13) := T3586.2.2.1 13
          show pm_R _ 189 66 [.ref 41, .long a0, pm_no, .int a1, pm_no] [] _ _
          have R3599 : (m 10).toInt ≤ (m3583 10).toInt := (sf_aux53 _ _ _ ek3576 X3589)
          refine pm_R_lo pm_M189 (pc_q := 67) rfl rfl rfl ?_
          refine pm_R_ldc2 pm_M189 (pc_q := 70) rfl rfl rfl ?_
          refine pm_R_op pm_M189 (pc_q := 71) (st_q := [.int z7]) rfl (by show some (Value.int (lg_cmp a0 495622124659) :: _) = _; rw [← e8]) rfl ?_
          refine pm_R_ifc pm_M189 (t := 137) (pc_q := 74) rfl rfl rfl (fun c3602 => ?_) (fun c3602 => absurd (Classical.not_not.mp c3602) c9)
          have k3603 := sf_lneC e8 c3602
          refine pm_R_lo pm_M189 (pc_q := 138) (pm_q189_1 (Nat.le_of_ble_eq_true rfl)) rfl rfl ?_
          refine pm_R_cv pm_M189 (pc_q := 141) (a := 41) (ra := []) (rest := []) (ls_q := [.ref 41, pm_no]) (pm_q189_1 (Nat.le_of_ble_eq_true rfl)) rfl (Or.inl rfl) pm_M190 T3586.2.1 rfl (by decide) (Nat.lt_of_lt_of_le (by decide) T3586.1) rfl rfl (Nat.le_of_ble_eq_true rfl) rfl rfl ?_
          refine pm_R_op pm_M190 (pc_q := 1) (st_q := [.int 0]) rfl rfl rfl ?_
          refine pm_R_lo pm_M190 (pc_q := 2) (ls_q := [.ref 41, .int 0]) (st_q := []) rfl rfl rfl ?_
          refine pm_R_lo pm_M190 (pc_q := 3) rfl rfl rfl ?_
          refine pm_R_op pm_M190 (pc_q := 4) (st_q := [.int 4, .int 0]) rfl rfl rfl ?_
          refine pm_R_br pm_M190 (pc_q := 7) (st_q := []) rfl rfl ?_
          refine pm_R_lo pm_M190 (pc_q := 8) rfl rfl rfl ?_
          refine rf_R_get pm_M190 T3586 (pc_q := 11) (v := .ref 52) rfl rfl rfl rfl ?_
          refine pm_R_lo pm_M190 (pc_q := 12) rfl rfl rfl ?_
          refine pm_R_op pm_M190 (pc_q := 13) (st_q := [.int (-1), .int 0, .ref 52]) rfl rfl rfl ?_
          obtain ⟨f3604, e3605, b3606⟩ := T3586.2.2.2.1 52 (by decide) (by decide)
          refine rf_R_ist pm_M190 T3586 (pc_q := 14) rfl e3605 (by decide) (by decide) rfl ⟨_, rfl, sf_upd b3606 (sf_weak sf_kn1 (by decide) (by decide)) _⟩ rfl (fun h3607 T3608 F3609 e3610 => ?_)
          have F3611 := F3591.trans F3609 (by decide)
          refine pm_R_lo pm_M190 (pc_q := 17) (ls_q := [.ref 41, .int 1]) (st_q := []) rfl rfl rfl ?_
          refine pm_R_br pm_M190 (pc_q := 2) rfl rfl ?_
          refine pm_R_lo pm_M190 (pc_q := 3) rfl rfl rfl ?_
          refine pm_R_op pm_M190 (pc_q := 4) (st_q := [.int 4, .int 1]) rfl rfl rfl ?_
          refine pm_R_br pm_M190 (pc_q := 7) (st_q := []) rfl rfl ?_
          refine pm_R_lo pm_M190 (pc_q := 8) rfl rfl rfl ?_
          refine rf_R_get pm_M190 T3608 (pc_q := 11) (v := .ref 52) rfl rfl rfl rfl ?_
          refine pm_R_lo pm_M190 (pc_q := 12) rfl rfl rfl ?_
          refine pm_R_op pm_M190 (pc_q := 13) (st_q := [.int (-1), .int 1, .ref 52]) rfl rfl rfl ?_
          refine rf_R_ist pm_M190 T3608 (pc_q := 14) rfl e3610 (by decide) (by decide) rfl ⟨_, rfl, sf_upd (sf_upd b3606 (sf_weak sf_kn1 (by decide) (by decide)) _) (sf_weak sf_kn1 (by decide) (by decide)) _⟩ rfl (fun h3612 T3613 F3614 e3615 => ?_)
          have F3616 := F3611.trans F3614 (by decide)
          refine pm_R_lo pm_M190 (pc_q := 17) (ls_q := [.ref 41, .int 2]) (st_q := []) rfl rfl rfl ?_
          refine pm_R_br pm_M190 (pc_q := 2) rfl rfl ?_
          refine pm_R_lo pm_M190 (pc_q := 3) rfl rfl rfl ?_
          refine pm_R_op pm_M190 (pc_q := 4) (st_q := [.int 4, .int 2]) rfl rfl rfl ?_
          refine pm_R_br pm_M190 (pc_q := 7) (st_q := []) rfl rfl ?_
          refine pm_R_lo pm_M190 (pc_q := 8) rfl rfl rfl ?_
          refine rf_R_get pm_M190 T3613 (pc_q := 11) (v := .ref 52) rfl rfl rfl rfl ?_
          refine pm_R_lo pm_M190 (pc_q := 12) rfl rfl rfl ?_
          refine pm_R_op pm_M190 (pc_q := 13) (st_q := [.int (-1), .int 2, .ref 52]) rfl rfl rfl ?_
          refine rf_R_ist pm_M190 T3613 (pc_q := 14) rfl e3615 (by decide) (by decide) rfl ⟨_, rfl, sf_upd (sf_upd (sf_upd b3606 (sf_weak sf_kn1 (by decide) (by decide)) _) (sf_weak sf_kn1 (by decide) (by decide)) _) (sf_weak sf_kn1 (by decide) (by decide)) _⟩ rfl (fun h3617 T3618 F3619 e3620 => ?_)
          have F3621 := F3616.trans F3619 (by decide)
          refine pm_R_lo pm_M190 (pc_q := 17) (ls_q := [.ref 41, .int 3]) (st_q := []) rfl rfl rfl ?_
          refine pm_R_br pm_M190 (pc_q := 2) rfl rfl ?_
          refine pm_R_lo pm_M190 (pc_q := 3) rfl rfl rfl ?_
          refine pm_R_op pm_M190 (pc_q := 4) (st_q := [.int 4, .int 3]) rfl rfl rfl ?_
          refine pm_R_br pm_M190 (pc_q := 7) (st_q := []) rfl rfl ?_
          refine pm_R_lo pm_M190 (pc_q := 8) rfl rfl rfl ?_
          refine rf_R_get pm_M190 T3618 (pc_q := 11) (v := .ref 52) rfl rfl rfl rfl ?_
          refine pm_R_lo pm_M190 (pc_q := 12) rfl rfl rfl ?_
          refine pm_R_op pm_M190 (pc_q := 13) (st_q := [.int (-1), .int 3, .ref 52]) rfl rfl rfl ?_
          refine rf_R_ist pm_M190 T3618 (pc_q := 14) rfl e3620 (by decide) (by decide) rfl ⟨_, rfl, sf_upd (sf_upd (sf_upd (sf_upd b3606 (sf_weak sf_kn1 (by decide) (by decide)) _) (sf_weak sf_kn1 (by decide) (by decide)) _) (sf_weak sf_kn1 (by decide) (by decide)) _) (sf_weak sf_kn1 (by decide) (by decide)) _⟩ rfl (fun h3622 T3623 F3624 e3625 => ?_)
          have F3626 := F3621.trans F3624 (by decide)
          refine pm_R_lo pm_M190 (pc_q := 17) (ls_q := [.ref 41, .int 4]) (st_q := []) rfl rfl rfl ?_
          refine pm_R_br pm_M190 (pc_q := 2) rfl rfl ?_
          refine pm_R_lo pm_M190 (pc_q := 3) rfl rfl rfl ?_
          refine pm_R_op pm_M190 (pc_q := 4) (st_q := [.int 4, .int 4]) rfl rfl rfl ?_
          refine pm_R_br pm_M190 (pc_q := 20) (st_q := []) rfl rfl ?_
          refine pm_R_ret pm_M190 (r := none) rfl rfl ?_
          show pm_R _ 189 141 [.ref 41, .long a0, pm_no, .int a1, pm_no] [] _ _
          refine pm_R_lo pm_M189 (pc_q := 142) (pm_q189_1 (Nat.le_of_ble_eq_true rfl)) rfl rfl ?_
          refine rf_R_get pm_M189 T3623 (pc_q := 145) (v := .ref 52) (pm_q189_1 (Nat.le_of_ble_eq_true rfl)) rfl rfl rfl ?_
          refine pm_R_op pm_M189 (pc_q := 146) (st_q := [.int 0, .ref 52]) (pm_q189_1 (Nat.le_of_ble_eq_true rfl)) rfl rfl ?_
          refine pm_R_lo pm_M189 (pc_q := 147) (pm_q189_1 (Nat.le_of_ble_eq_true rfl)) rfl rfl ?_
          refine pm_R_ldc2 pm_M189 (pc_q := 150) (pm_q189_1 (Nat.le_of_ble_eq_true rfl)) rfl rfl ?_
          refine pm_R_op pm_M189 (pc_q := 151) (st_q := [.int z342, .int 0, .ref 52]) (pm_q189_1 (Nat.le_of_ble_eq_true rfl)) (by show some (Value.int (lg_cmp a0 1819242347) :: _) = _; rw [← e343]) rfl ?_
          refine pm_R_ifc pm_M189 (t := 158) (pc_q := 154) (pm_q189_1 (Nat.le_of_ble_eq_true rfl)) rfl rfl (fun c3629 => ?_) (fun c3629 => absurd (Classical.not_not.mp c3629) c344)
          have k3630 := sf_lneC e343 c3629
          refine pm_R_lo pm_M189 (pc_q := 159) (pm_q189_1 (Nat.le_of_ble_eq_true rfl)) rfl rfl ?_
          refine pm_R_ldc2 pm_M189 (pc_q := 162) (pm_q189_1 (Nat.le_of_ble_eq_true rfl)) rfl rfl ?_
          refine pm_R_op pm_M189 (pc_q := 163) (st_q := [.int z3188, .int 0, .ref 52]) (pm_q189_1 (Nat.le_of_ble_eq_true rfl)) (by show some (Value.int (lg_cmp a0 1635213689) :: _) = _; rw [← e3189]) rfl ?_
          refine pm_R_ifc pm_M189 (t := 170) (pc_q := 166) (pm_q189_1 (Nat.le_of_ble_eq_true rfl)) rfl rfl (fun c3633 => absurd (sf_pt2 B3191 sf_k0) c3633) (fun c3633 => ?_)
          refine pm_R_op pm_M189 (pc_q := 167) (st_q := [.int 1, .int 0, .ref 52]) (pm_q189_1 (Nat.le_of_ble_eq_true rfl)) rfl rfl ?_
          refine pm_R_br pm_M189 (pc_q := 171) (pm_q189_1 (Nat.le_of_ble_eq_true rfl)) rfl ?_
          refine rf_R_ist pm_M189 T3623 (pc_q := 172) (pm_q189_1 (Nat.le_of_ble_eq_true rfl)) e3625 (by decide) (by decide) rfl ⟨_, rfl, sf_upd (sf_upd (sf_upd (sf_upd (sf_upd b3606 (sf_weak sf_kn1 (by decide) (by decide)) _) (sf_weak sf_kn1 (by decide) (by decide)) _) (sf_weak sf_kn1 (by decide) (by decide)) _) (sf_weak sf_kn1 (by decide) (by decide)) _) (sf_weak sf_k1 (by decide) (by decide)) _⟩ rfl (fun h3634 T3635 F3636 e3637 => ?_)
          have F3638 := F3626.trans F3636 (by decide)
          refine pm_R_lo pm_M189 (pc_q := 173) (pm_q189_1 (Nat.le_of_ble_eq_true rfl)) rfl rfl ?_
          refine pm_R_op pm_M189 (pc_q := 174) (st_q := [.int 1, .ref 41]) (pm_q189_1 (Nat.le_of_ble_eq_true rfl)) rfl rfl ?_
          refine pm_R_op pm_M189 (pc_q := 175) (st_q := [.int (-1), .int 1, .ref 41]) (pm_q189_1 (Nat.le_of_ble_eq_true rfl)) rfl rfl ?_
          refine pm_R_cv pm_M189 (pc_q := 178) (a := 41) (ra := [.int (-1), .int 1]) (rest := []) (ls_q := [.ref 41, .int 1, .int (-1), pm_no]) (pm_q189_1 (Nat.le_of_ble_eq_true rfl)) rfl (Or.inl rfl) pm_M191 T3635.2.1 rfl (by decide) (Nat.lt_of_lt_of_le (by decide) T3635.1) rfl rfl (Nat.le_of_ble_eq_true rfl) rfl rfl ?_
          refine pm_R_lo pm_M191 (pc_q := 1) rfl rfl rfl ?_
          refine pm_R_lo pm_M191 (pc_q := 2) rfl rfl rfl ?_
          refine pm_R_op pm_M191 (pc_q := 3) (st_q := [.int 5, .int 1, .ref 41]) rfl rfl rfl ?_
          refine pm_R_lo pm_M191 (pc_q := 4) rfl rfl rfl ?_
          refine pm_R_cv pm_M191 (pc_q := 7) (a := 41) (ra := [.int (-1), .int 5, .int 1]) (rest := []) (ls_q := [.ref 41, .int 1, .int 5, .int (-1)]) rfl rfl (Or.inl rfl) pm_M183 T3635.2.1 rfl (by decide) (Nat.lt_of_lt_of_le (by decide) T3635.1) rfl rfl (Nat.le_of_ble_eq_true rfl) rfl rfl ?_
          refine rf_c183_1_5 (d := d + 0) T3635  (fun m3641 w3642 h3643 T3644 F3645 W3646 X3647 => ?_) (fun m3650 w3651 h3652 T3653 F3654 W3655 X3656 X3657 X3658 X3659 X3660 => ?_) (fun m3663 w3664 h3665 T3666 F3667 W3668 X3669 X3670 X3671 B3672 B3673 => ?_)
          · have F3674 := F3638.trans F3645 (by decide)
            have W3675 : rf_W [10, 12, 13, 14, 16, 17, 18, 21, 22] m m3641 := W3596.trans W3646 (by decide)
            have B3676 : sf_B 0 600 (m3641 10) := T3644.2.2.1 10
            have B3677 : sf_B 0 4 (m3641 13) := T3644.2.2.1 13
            have B3678 : sf_B 0 4 (m3641 17) := T3644.2.2.1 17
            have B3679 : sf_B 0 1 (m3641 22) := T3644.2.2.1 22
            show pm_R _ 191 7 [.ref 41, .int 1, .int (-1), pm_no] [.int 0] _ _
            have R3680 : (m 10).toInt ≤ (m3641 10).toInt := (sf_aux70 _ _ _ R3599 X3647)
            refine pm_R_lo pm_M191 (pc_q := 8) (ls_q := [.ref 41, .int 1, .int (-1), .int 0]) (st_q := []) rfl rfl rfl ?_
            refine pm_R_lo pm_M191 (pc_q := 9) rfl rfl rfl ?_
            refine pm_R_lo pm_M191 (pc_q := 10) rfl rfl rfl ?_
            refine pm_R_br pm_M191 (pc_q := 35) (st_q := [.ref 41]) rfl rfl ?_
            refine pm_R_lo pm_M191 (pc_q := 36) rfl rfl rfl ?_
            have B3681 : sf_B (-1) 99 (m3641 21) := T3644.2.2.1 21
            refine rf_R_get pm_M191 T3644 (pc_q := 39) (v := .int (m3641 21)) rfl rfl rfl rfl ?_
            refine rf_R_put pm_M191 T3644 (pc_q := 42) rfl rfl rfl (by decide) rfl rfl B3681 rfl rfl (fun h3682 m3685 em3686 T3683 F3684 => ?_)
            have F3687 := F3674.trans F3684 (by decide)
            have B3688 : sf_B 0 600 (m3685 10) := by rw [em3686]; exact B3676
            have ek3689 : (m3685 10).toInt = ((m3641 10)).toInt := by rw [em3686]; rfl
            have B3690 : sf_B 0 4 (m3685 13) := by rw [em3686]; exact B3677
            have ek3691 : (m3685 13).toInt = ((m3641 13)).toInt := by rw [em3686]; rfl
            have B3692 : sf_B 0 4 (m3685 17) := by rw [em3686]; exact B3678
            have ek3693 : (m3685 17).toInt = ((m3641 17)).toInt := by rw [em3686]; rfl
            have B3694 : sf_B 0 1 (m3685 22) := by rw [em3686]; exact B3679
            have ek3695 : (m3685 22).toInt = ((m3641 22)).toInt := by rw [em3686]; rfl
            have B3696 : sf_B (-1) 99 (m3685 21) := by rw [em3686]; exact B3681
            have ek3697 : (m3685 21).toInt = ((m3641 21)).toInt := by rw [em3686]; rfl
            have W3698 : rf_W [10, 12, 13, 14, 16, 17, 18, 21, 22] m m3685 := by rw [em3686]; exact W3675.put (by decide)
            refine pm_R_lo pm_M191 (pc_q := 43) rfl rfl rfl ?_
            refine pm_R_ret pm_M191 (r := some (.int 0)) rfl rfl ?_
            show pm_R _ 189 178 [.ref 41, .long a0, pm_no, .int a1, pm_no] [.int 0] _ _
            refine pm_R_br pm_M189 (pc_q := 181) (st_q := []) (pm_q189_1 (Nat.le_of_ble_eq_true rfl)) rfl ?_
            refine pm_R_op pm_M189 (pc_q := 182) (st_q := [.int 0]) (pm_q189_1 (Nat.le_of_ble_eq_true rfl)) rfl rfl ?_
            exact pm_R_ret pm_M189 (r := some (.int 0)) (pm_q189_1 (Nat.le_of_ble_eq_true rfl)) rfl (K0 m3685 w3642 h3682 T3683 F3687 W3698 (sf_aux39 _ _ _ ek3689 R3680))
          · have F3699 := F3638.trans F3654 (by decide)
            have W3700 : rf_W [10, 12, 13, 14, 16, 17, 18, 21, 22] m m3650 := W3596.trans W3655 (by decide)
            have B3701 : sf_B 0 600 (m3650 10) := T3653.2.2.1 10
            have B3702 : sf_B 0 4 (m3650 13) := T3653.2.2.1 13
            have B3703 : sf_B 0 4 (m3650 17) := T3653.2.2.1 17
            have B3704 : sf_B 0 1 (m3650 22) := T3653.2.2.1 22
            show pm_R _ 191 7 [.ref 41, .int 1, .int (-1), pm_no] [.int 1] _ _
            have R3705 : (m 10).toInt ≤ (m3650 10).toInt := (sf_aux70 _ _ _ R3599 X3660)
            obtain ⟨v3706, B3707, e3708⟩ := X3656 _ e3637
            refine pm_R_lo pm_M191 (pc_q := 8) (ls_q := [.ref 41, .int 1, .int (-1), .int 1]) (st_q := []) rfl rfl rfl ?_
            refine pm_R_lo pm_M191 (pc_q := 9) rfl rfl rfl ?_
            refine pm_R_lo pm_M191 (pc_q := 10) rfl rfl rfl ?_
            refine pm_R_br pm_M191 (pc_q := 13) (st_q := [.ref 41]) rfl rfl ?_
            refine pm_R_lo pm_M191 (pc_q := 14) rfl rfl rfl ?_
            refine rf_R_get pm_M191 T3653 (pc_q := 17) (v := .ref 52) rfl rfl rfl rfl ?_
            refine pm_R_lo pm_M191 (pc_q := 18) rfl rfl rfl ?_
            refine pm_R_iald pm_M191 (pc_q := 19) (v := v3706) rfl e3708 (Nat.lt_of_lt_of_le (by decide) T3653.1) rfl sf_upd_eq rfl ?_
            refine pm_R_lo pm_M191 (pc_q := 20) rfl rfl rfl ?_
            have B3711 : sf_B (-1) 99 (m3650 21) := T3653.2.2.1 21
            refine rf_R_get pm_M191 T3653 (pc_q := 23) (v := .int (m3650 21)) rfl rfl rfl rfl ?_
            refine pm_R_icmp pm_M191 (t := 35) (pc_q := 26) rfl rfl rfl (fun c3712 => ?_) (fun c3712 => ?_)
            · have B3713 : sf_B 0 99 (m3650 21) := sf_leR c3712 B3707 B3711
              refine pm_R_lo pm_M191 (pc_q := 36) rfl rfl rfl ?_
              refine rf_R_get pm_M191 T3653 (pc_q := 39) (v := .int (m3650 21)) rfl rfl rfl rfl ?_
              refine rf_R_put pm_M191 T3653 (pc_q := 42) rfl rfl rfl (by decide) rfl rfl (sf_weak B3713 (by decide) (by decide)) rfl rfl (fun h3714 m3717 em3718 T3715 F3716 => ?_)
              have F3719 := F3699.trans F3716 (by decide)
              have B3720 : sf_B 0 600 (m3717 10) := by rw [em3718]; exact B3701
              have ek3721 : (m3717 10).toInt = ((m3650 10)).toInt := by rw [em3718]; rfl
              have B3722 : sf_B 0 4 (m3717 13) := by rw [em3718]; exact B3702
              have ek3723 : (m3717 13).toInt = ((m3650 13)).toInt := by rw [em3718]; rfl
              have B3724 : sf_B 1 4 (m3717 17) := by rw [em3718]; exact (sf_eqT X3657 B3592)
              have ek3725 : (m3717 17).toInt = ((m3583 17)).toInt := by rw [em3718]; exact X3657
              have B3726 : sf_B 0 1 (m3717 22) := by rw [em3718]; exact (sf_eqT X3658 B3594)
              have ek3727 : (m3717 22).toInt = ((m3583 22)).toInt := by rw [em3718]; exact X3658
              have B3728 : sf_B 0 99 (m3717 21) := by rw [em3718]; exact B3713
              have ek3729 : (m3717 21).toInt = ((m3650 21)).toInt := by rw [em3718]; rfl
              have W3730 : rf_W [10, 12, 13, 14, 16, 17, 18, 21, 22] m m3717 := by rw [em3718]; exact W3700.put (by decide)
              refine pm_R_lo pm_M191 (pc_q := 43) rfl rfl rfl ?_
              refine pm_R_ret pm_M191 (r := some (.int 1)) rfl rfl ?_
              show pm_R _ 189 178 [.ref 41, .long a0, pm_no, .int a1, pm_no] [.int 1] _ _
              refine pm_R_br pm_M189 (pc_q := 183) (st_q := []) (pm_q189_1 (Nat.le_of_ble_eq_true rfl)) rfl ?_
              refine pm_R_lo pm_M189 (pc_q := 184) (pm_q189_1 (Nat.le_of_ble_eq_true rfl)) rfl rfl ?_
              refine pm_R_ldc2 pm_M189 (pc_q := 187) (pm_q189_1 (Nat.le_of_ble_eq_true rfl)) rfl rfl ?_
              refine pm_R_op pm_M189 (pc_q := 188) (st_q := [.int z342]) (pm_q189_1 (Nat.le_of_ble_eq_true rfl)) (by show some (Value.int (lg_cmp a0 1819242347) :: _) = _; rw [← e343]) rfl ?_
              refine pm_R_ifc pm_M189 (t := 205) (pc_q := 191) (pm_q189_1 (Nat.le_of_ble_eq_true rfl)) rfl rfl (fun c3733 => ?_) (fun c3733 => absurd (Classical.not_not.mp c3733) c344)
              have k3734 := sf_lneC e343 c3733
              refine pm_R_lo pm_M189 (pc_q := 206) (pm_q189_1 (Nat.le_of_ble_eq_true rfl)) rfl rfl ?_
              refine pm_R_ldc2 pm_M189 (pc_q := 209) (pm_q189_1 (Nat.le_of_ble_eq_true rfl)) rfl rfl ?_
              refine sf_R_lcmp pm_M189 (pc_q := 210) (pm_q189_1 (Nat.le_of_ble_eq_true rfl)) rfl (fun z3735 e3736 => ?_)
              have B3737 : sf_B (-2147483648) (-1) z3735 := lf_cmpLt e3736 B3192 (⟨by decide, by decide⟩ : lf_B 1935767923 1935767923 1935767923) (by decide)
              refine pm_R_ifc pm_M189 (t := 226) (pc_q := 213) (pm_q189_1 (Nat.le_of_ble_eq_true rfl)) rfl rfl (fun c3738 => ?_) (fun c3738 => absurd (Classical.not_not.mp c3738) (sf_neq2 B3737 sf_k0 (by decide)))
              have k3739 := sf_lneC e3736 c3738
              refine pm_R_lo pm_M189 (pc_q := 227) (pm_q189_2 (Nat.le_of_ble_eq_true rfl)) rfl rfl ?_
              refine pm_R_op pm_M189 (pc_q := 228) (st_q := [.int 1, .ref 41]) (pm_q189_2 (Nat.le_of_ble_eq_true rfl)) rfl rfl ?_
              refine pm_R_op pm_M189 (pc_q := 229) (st_q := [.int 2, .int 1, .ref 41]) (pm_q189_2 (Nat.le_of_ble_eq_true rfl)) rfl rfl ?_
              refine pm_R_op pm_M189 (pc_q := 230) (st_q := [.int 3, .int 2, .int 1, .ref 41]) (pm_q189_2 (Nat.le_of_ble_eq_true rfl)) rfl rfl ?_
              refine pm_R_op pm_M189 (pc_q := 232) (st_q := [.int 50, .int 3, .int 2, .int 1, .ref 41]) (pm_q189_2 (Nat.le_of_ble_eq_true rfl)) rfl rfl ?_
              refine pm_R_op pm_M189 (pc_q := 233) (st_q := [.int 0, .int 50, .int 3, .int 2, .int 1, .ref 41]) (pm_q189_2 (Nat.le_of_ble_eq_true rfl)) rfl rfl ?_
              refine pm_R_cv pm_M189 (pc_q := 236) (a := 41) (ra := [.int 0, .int 50, .int 3, .int 2, .int 1]) (rest := []) (ls_q := [.ref 41, .int 1, .int 2, .int 3, .int 50, .int 0, pm_no, pm_no]) (pm_q189_2 (Nat.le_of_ble_eq_true rfl)) rfl (Or.inl rfl) pm_M185 T3715.2.1 rfl (by decide) (Nat.lt_of_lt_of_le (by decide) T3715.1) rfl rfl (Nat.le_of_ble_eq_true rfl) rfl rfl ?_
              have e3740 := (F3716.cell (by decide) (F3654.cell (by decide) (F3636.cell (by decide) (F3624.cell (by decide) (F3619.cell (by decide) (F3614.cell (by decide) (F3609.cell (by decide) (F3587.cell (by decide) (F3571.cell (by decide) e3)))))))))
              refine rf_c185_d (d := d + 3) T3715 (⟨f2, e3740, ct4, fun z => (sf_pos B3724 (by decide) z)⟩) (fun z => sf_pos B3724 (by decide) z) (fun m3743 w3744 h3745 T3746 F3747 W3748 X3749 => ?_)
              have F3750 := F3719.trans F3747 (by decide)
              have B3751 : sf_B 0 600 (m3743 10) := by rw [W3748 10 (by decide)]; exact B3720
              have ek3752 : (m3743 10).toInt = ((m3650 10)).toInt := by rw [W3748 10 (by decide)]; exact ek3721
              have B3753 : sf_B 0 4 (m3743 13) := by rw [W3748 13 (by decide)]; exact B3722
              have ek3754 : (m3743 13).toInt = ((m3650 13)).toInt := by rw [W3748 13 (by decide)]; exact ek3723
              have B3755 : sf_B 1 4 (m3743 17) := by rw [W3748 17 (by decide)]; exact B3724
              have ek3756 : (m3743 17).toInt = ((m3583 17)).toInt := by rw [W3748 17 (by decide)]; exact ek3725
              have B3757 : sf_B 0 1 (m3743 22) := by rw [W3748 22 (by decide)]; exact B3726
              have ek3758 : (m3743 22).toInt = ((m3583 22)).toInt := by rw [W3748 22 (by decide)]; exact ek3727
              have B3759 : sf_B 0 99 (m3743 21) := by rw [W3748 21 (by decide)]; exact B3728
              have ek3760 : (m3743 21).toInt = ((m3650 21)).toInt := by rw [W3748 21 (by decide)]; exact ek3729
              have W3761 : rf_W [10, 12, 13, 14, 16, 17, 18, 21, 22] m m3743 := W3730.trans W3748 (by decide)
              show pm_R _ 189 236 [.ref 41, .long a0, pm_no, .int a1, pm_no] [] _ _
              obtain ⟨f3762, e3763, ct3764, bd3765⟩ := X3749
              refine pm_R_op pm_M189 (pc_q := 237) (st_q := [.int 1]) (pm_q189_2 (Nat.le_of_ble_eq_true rfl)) rfl rfl ?_
              exact pm_R_ret pm_M189 (r := some (.int 1)) (pm_q189_2 (Nat.le_of_ble_eq_true rfl)) rfl (K1 m3743 w3744 h3745 T3746 F3750 W3761 (⟨f3762, e3763, ct3764, fun z => (sf_pos B3755 (by decide) z)⟩) (sf_aux39 _ _ _ ek3752 R3705))
            · have B3766 : sf_B (-1) 4 (m3650 21) := sf_ltL (Int32.not_le.mp c3712) B3711 B3707
              refine pm_R_lo pm_M191 (pc_q := 27) rfl rfl rfl ?_
              refine rf_R_get pm_M191 T3653 (pc_q := 30) (v := .ref 52) rfl rfl rfl rfl ?_
              refine pm_R_lo pm_M191 (pc_q := 31) rfl rfl rfl ?_
              refine pm_R_iald pm_M191 (pc_q := 32) (v := v3706) rfl e3708 (Nat.lt_of_lt_of_le (by decide) T3653.1) rfl sf_upd_eq rfl ?_
              refine pm_R_br pm_M191 (pc_q := 39) rfl rfl ?_
              refine rf_R_put pm_M191 T3653 (pc_q := 42) rfl rfl rfl (by decide) rfl rfl (sf_weak B3707 (by decide) (by decide)) rfl rfl (fun h3769 m3772 em3773 T3770 F3771 => ?_)
              have F3774 := F3699.trans F3771 (by decide)
              have B3775 : sf_B 0 600 (m3772 10) := by rw [em3773]; exact B3701
              have ek3776 : (m3772 10).toInt = ((m3650 10)).toInt := by rw [em3773]; rfl
              have B3777 : sf_B 0 4 (m3772 13) := by rw [em3773]; exact B3702
              have ek3778 : (m3772 13).toInt = ((m3650 13)).toInt := by rw [em3773]; rfl
              have B3779 : sf_B 1 4 (m3772 17) := by rw [em3773]; exact (sf_eqT X3657 B3592)
              have ek3780 : (m3772 17).toInt = ((m3583 17)).toInt := by rw [em3773]; exact X3657
              have B3781 : sf_B 0 1 (m3772 22) := by rw [em3773]; exact (sf_eqT X3658 B3594)
              have ek3782 : (m3772 22).toInt = ((m3583 22)).toInt := by rw [em3773]; exact X3658
              have B3783 : sf_B 0 5 (m3772 21) := by rw [em3773]; exact B3707
              have ek3784 : (m3772 21).toInt = (v3706).toInt := by rw [em3773]; rfl
              have W3785 : rf_W [10, 12, 13, 14, 16, 17, 18, 21, 22] m m3772 := by rw [em3773]; exact W3700.put (by decide)
              refine pm_R_lo pm_M191 (pc_q := 43) rfl rfl rfl ?_
              refine pm_R_ret pm_M191 (r := some (.int 1)) rfl rfl ?_
              show pm_R _ 189 178 [.ref 41, .long a0, pm_no, .int a1, pm_no] [.int 1] _ _
              refine pm_R_br pm_M189 (pc_q := 183) (st_q := []) (pm_q189_1 (Nat.le_of_ble_eq_true rfl)) rfl ?_
              refine pm_R_lo pm_M189 (pc_q := 184) (pm_q189_1 (Nat.le_of_ble_eq_true rfl)) rfl rfl ?_
              refine pm_R_ldc2 pm_M189 (pc_q := 187) (pm_q189_1 (Nat.le_of_ble_eq_true rfl)) rfl rfl ?_
              refine pm_R_op pm_M189 (pc_q := 188) (st_q := [.int z342]) (pm_q189_1 (Nat.le_of_ble_eq_true rfl)) (by show some (Value.int (lg_cmp a0 1819242347) :: _) = _; rw [← e343]) rfl ?_
              refine pm_R_ifc pm_M189 (t := 205) (pc_q := 191) (pm_q189_1 (Nat.le_of_ble_eq_true rfl)) rfl rfl (fun c3788 => ?_) (fun c3788 => absurd (Classical.not_not.mp c3788) c344)
              have k3789 := sf_lneC e343 c3788
              refine pm_R_lo pm_M189 (pc_q := 206) (pm_q189_1 (Nat.le_of_ble_eq_true rfl)) rfl rfl ?_
              refine pm_R_ldc2 pm_M189 (pc_q := 209) (pm_q189_1 (Nat.le_of_ble_eq_true rfl)) rfl rfl ?_
              refine sf_R_lcmp pm_M189 (pc_q := 210) (pm_q189_1 (Nat.le_of_ble_eq_true rfl)) rfl (fun z3790 e3791 => ?_)
              have B3792 : sf_B (-2147483648) (-1) z3790 := lf_cmpLt e3791 B3192 (⟨by decide, by decide⟩ : lf_B 1935767923 1935767923 1935767923) (by decide)
              refine pm_R_ifc pm_M189 (t := 226) (pc_q := 213) (pm_q189_1 (Nat.le_of_ble_eq_true rfl)) rfl rfl (fun c3793 => ?_) (fun c3793 => absurd (Classical.not_not.mp c3793) (sf_neq2 B3792 sf_k0 (by decide)))
              have k3794 := sf_lneC e3791 c3793
              refine pm_R_lo pm_M189 (pc_q := 227) (pm_q189_2 (Nat.le_of_ble_eq_true rfl)) rfl rfl ?_
              refine pm_R_op pm_M189 (pc_q := 228) (st_q := [.int 1, .ref 41]) (pm_q189_2 (Nat.le_of_ble_eq_true rfl)) rfl rfl ?_
              refine pm_R_op pm_M189 (pc_q := 229) (st_q := [.int 2, .int 1, .ref 41]) (pm_q189_2 (Nat.le_of_ble_eq_true rfl)) rfl rfl ?_
              refine pm_R_op pm_M189 (pc_q := 230) (st_q := [.int 3, .int 2, .int 1, .ref 41]) (pm_q189_2 (Nat.le_of_ble_eq_true rfl)) rfl rfl ?_
              refine pm_R_op pm_M189 (pc_q := 232) (st_q := [.int 50, .int 3, .int 2, .int 1, .ref 41]) (pm_q189_2 (Nat.le_of_ble_eq_true rfl)) rfl rfl ?_
              refine pm_R_op pm_M189 (pc_q := 233) (st_q := [.int 0, .int 50, .int 3, .int 2, .int 1, .ref 41]) (pm_q189_2 (Nat.le_of_ble_eq_true rfl)) rfl rfl ?_
              refine pm_R_cv pm_M189 (pc_q := 236) (a := 41) (ra := [.int 0, .int 50, .int 3, .int 2, .int 1]) (rest := []) (ls_q := [.ref 41, .int 1, .int 2, .int 3, .int 50, .int 0, pm_no, pm_no]) (pm_q189_2 (Nat.le_of_ble_eq_true rfl)) rfl (Or.inl rfl) pm_M185 T3770.2.1 rfl (by decide) (Nat.lt_of_lt_of_le (by decide) T3770.1) rfl rfl (Nat.le_of_ble_eq_true rfl) rfl rfl ?_
              have e3795 := (F3771.cell (by decide) (F3654.cell (by decide) (F3636.cell (by decide) (F3624.cell (by decide) (F3619.cell (by decide) (F3614.cell (by decide) (F3609.cell (by decide) (F3587.cell (by decide) (F3571.cell (by decide) e3)))))))))
              refine rf_c185_d (d := d + 3) T3770 (⟨f2, e3795, ct4, fun z => (sf_pos B3779 (by decide) z)⟩) (fun z => sf_pos B3779 (by decide) z) (fun m3798 w3799 h3800 T3801 F3802 W3803 X3804 => ?_)
              have F3805 := F3774.trans F3802 (by decide)
              have B3806 : sf_B 0 600 (m3798 10) := by rw [W3803 10 (by decide)]; exact B3775
              have ek3807 : (m3798 10).toInt = ((m3650 10)).toInt := by rw [W3803 10 (by decide)]; exact ek3776
              have B3808 : sf_B 0 4 (m3798 13) := by rw [W3803 13 (by decide)]; exact B3777
              have ek3809 : (m3798 13).toInt = ((m3650 13)).toInt := by rw [W3803 13 (by decide)]; exact ek3778
              have B3810 : sf_B 1 4 (m3798 17) := by rw [W3803 17 (by decide)]; exact B3779
              have ek3811 : (m3798 17).toInt = ((m3583 17)).toInt := by rw [W3803 17 (by decide)]; exact ek3780
              have B3812 : sf_B 0 1 (m3798 22) := by rw [W3803 22 (by decide)]; exact B3781
              have ek3813 : (m3798 22).toInt = ((m3583 22)).toInt := by rw [W3803 22 (by decide)]; exact ek3782
              have B3814 : sf_B 0 5 (m3798 21) := by rw [W3803 21 (by decide)]; exact B3783
              have ek3815 : (m3798 21).toInt = (v3706).toInt := by rw [W3803 21 (by decide)]; exact ek3784
              have W3816 : rf_W [10, 12, 13, 14, 16, 17, 18, 21, 22] m m3798 := W3785.trans W3803 (by decide)
              show pm_R _ 189 236 [.ref 41, .long a0, pm_no, .int a1, pm_no] [] _ _
              obtain ⟨f3817, e3818, ct3819, bd3820⟩ := X3804
              refine pm_R_op pm_M189 (pc_q := 237) (st_q := [.int 1]) (pm_q189_2 (Nat.le_of_ble_eq_true rfl)) rfl rfl ?_
              exact pm_R_ret pm_M189 (r := some (.int 1)) (pm_q189_2 (Nat.le_of_ble_eq_true rfl)) rfl (K1 m3798 w3799 h3800 T3801 F3805 W3816 (⟨f3817, e3818, ct3819, fun z => (sf_pos B3810 (by decide) z)⟩) (sf_aux39 _ _ _ ek3807 R3705))
          · have F3821 := F3638.trans F3667 (by decide)
            have W3822 : rf_W [10, 12, 13, 14, 16, 17, 18, 21, 22] m m3663 := W3596.trans W3668 (by decide)
            have B3823 : sf_B 0 600 (m3663 10) := T3666.2.2.1 10
            have B3824 : sf_B 0 4 (m3663 13) := T3666.2.2.1 13
            have B3825 : sf_B 0 4 (m3663 17) := T3666.2.2.1 17
            have B3826 : sf_B 0 1 (m3663 22) := T3666.2.2.1 22
            show pm_R _ 191 7 [.ref 41, .int 1, .int (-1), pm_no] [.int 1] _ _
            have R3827 : (m 10).toInt ≤ (m3663 10).toInt := (sf_aux70 _ _ _ R3599 X3671)
            obtain ⟨v3828, B3829, e3830⟩ := X3669 _ e3637
            refine pm_R_lo pm_M191 (pc_q := 8) (ls_q := [.ref 41, .int 1, .int (-1), .int 1]) (st_q := []) rfl rfl rfl ?_
            refine pm_R_lo pm_M191 (pc_q := 9) rfl rfl rfl ?_
            refine pm_R_lo pm_M191 (pc_q := 10) rfl rfl rfl ?_
            refine pm_R_br pm_M191 (pc_q := 13) (st_q := [.ref 41]) rfl rfl ?_
            refine pm_R_lo pm_M191 (pc_q := 14) rfl rfl rfl ?_
            refine rf_R_get pm_M191 T3666 (pc_q := 17) (v := .ref 52) rfl rfl rfl rfl ?_
            refine pm_R_lo pm_M191 (pc_q := 18) rfl rfl rfl ?_
            refine pm_R_iald pm_M191 (pc_q := 19) (v := v3828) rfl e3830 (Nat.lt_of_lt_of_le (by decide) T3666.1) rfl sf_upd_eq rfl ?_
            refine pm_R_lo pm_M191 (pc_q := 20) rfl rfl rfl ?_
            have B3833 : sf_B (-1) 99 (m3663 21) := T3666.2.2.1 21
            refine rf_R_get pm_M191 T3666 (pc_q := 23) (v := .int (m3663 21)) rfl rfl rfl rfl ?_
            refine pm_R_icmp pm_M191 (t := 35) (pc_q := 26) rfl rfl rfl (fun c3834 => ?_) (fun c3834 => ?_)
            · have B3835 : sf_B 0 99 (m3663 21) := sf_leR c3834 B3829 B3833
              refine pm_R_lo pm_M191 (pc_q := 36) rfl rfl rfl ?_
              refine rf_R_get pm_M191 T3666 (pc_q := 39) (v := .int (m3663 21)) rfl rfl rfl rfl ?_
              refine rf_R_put pm_M191 T3666 (pc_q := 42) rfl rfl rfl (by decide) rfl rfl (sf_weak B3835 (by decide) (by decide)) rfl rfl (fun h3836 m3839 em3840 T3837 F3838 => ?_)
              have F3841 := F3821.trans F3838 (by decide)
              have B3842 : sf_B 0 600 (m3839 10) := by rw [em3840]; exact B3823
              have ek3843 : (m3839 10).toInt = ((m3663 10)).toInt := by rw [em3840]; rfl
              have B3844 : sf_B 0 4 (m3839 13) := by rw [em3840]; exact B3824
              have ek3845 : (m3839 13).toInt = ((m3663 13)).toInt := by rw [em3840]; rfl
              have B3846 : sf_B 1 4 (m3839 17) := by rw [em3840]; exact B3672
              have ek3847 : (m3839 17).toInt = ((m3663 17)).toInt := by rw [em3840]; rfl
              have B3848 : sf_B 0 0 (m3839 22) := by rw [em3840]; exact B3673
              have ek3849 : (m3839 22).toInt = ((m3663 22)).toInt := by rw [em3840]; rfl
              have B3850 : sf_B 0 99 (m3839 21) := by rw [em3840]; exact B3835
              have ek3851 : (m3839 21).toInt = ((m3663 21)).toInt := by rw [em3840]; rfl
              have W3852 : rf_W [10, 12, 13, 14, 16, 17, 18, 21, 22] m m3839 := by rw [em3840]; exact W3822.put (by decide)
              refine pm_R_lo pm_M191 (pc_q := 43) rfl rfl rfl ?_
              refine pm_R_ret pm_M191 (r := some (.int 1)) rfl rfl ?_
              show pm_R _ 189 178 [.ref 41, .long a0, pm_no, .int a1, pm_no] [.int 1] _ _
              refine pm_R_br pm_M189 (pc_q := 183) (st_q := []) (pm_q189_1 (Nat.le_of_ble_eq_true rfl)) rfl ?_
              refine pm_R_lo pm_M189 (pc_q := 184) (pm_q189_1 (Nat.le_of_ble_eq_true rfl)) rfl rfl ?_
              refine pm_R_ldc2 pm_M189 (pc_q := 187) (pm_q189_1 (Nat.le_of_ble_eq_true rfl)) rfl rfl ?_
              refine pm_R_op pm_M189 (pc_q := 188) (st_q := [.int z342]) (pm_q189_1 (Nat.le_of_ble_eq_true rfl)) (by show some (Value.int (lg_cmp a0 1819242347) :: _) = _; rw [← e343]) rfl ?_
              refine pm_R_ifc pm_M189 (t := 205) (pc_q := 191) (pm_q189_1 (Nat.le_of_ble_eq_true rfl)) rfl rfl (fun c3855 => ?_) (fun c3855 => absurd (Classical.not_not.mp c3855) c344)
              have k3856 := sf_lneC e343 c3855
              refine pm_R_lo pm_M189 (pc_q := 206) (pm_q189_1 (Nat.le_of_ble_eq_true rfl)) rfl rfl ?_
              refine pm_R_ldc2 pm_M189 (pc_q := 209) (pm_q189_1 (Nat.le_of_ble_eq_true rfl)) rfl rfl ?_
              refine sf_R_lcmp pm_M189 (pc_q := 210) (pm_q189_1 (Nat.le_of_ble_eq_true rfl)) rfl (fun z3857 e3858 => ?_)
              have B3859 : sf_B (-2147483648) (-1) z3857 := lf_cmpLt e3858 B3192 (⟨by decide, by decide⟩ : lf_B 1935767923 1935767923 1935767923) (by decide)
              refine pm_R_ifc pm_M189 (t := 226) (pc_q := 213) (pm_q189_1 (Nat.le_of_ble_eq_true rfl)) rfl rfl (fun c3860 => ?_) (fun c3860 => absurd (Classical.not_not.mp c3860) (sf_neq2 B3859 sf_k0 (by decide)))
              have k3861 := sf_lneC e3858 c3860
              refine pm_R_lo pm_M189 (pc_q := 227) (pm_q189_2 (Nat.le_of_ble_eq_true rfl)) rfl rfl ?_
              refine pm_R_op pm_M189 (pc_q := 228) (st_q := [.int 1, .ref 41]) (pm_q189_2 (Nat.le_of_ble_eq_true rfl)) rfl rfl ?_
              refine pm_R_op pm_M189 (pc_q := 229) (st_q := [.int 2, .int 1, .ref 41]) (pm_q189_2 (Nat.le_of_ble_eq_true rfl)) rfl rfl ?_
              refine pm_R_op pm_M189 (pc_q := 230) (st_q := [.int 3, .int 2, .int 1, .ref 41]) (pm_q189_2 (Nat.le_of_ble_eq_true rfl)) rfl rfl ?_
              refine pm_R_op pm_M189 (pc_q := 232) (st_q := [.int 50, .int 3, .int 2, .int 1, .ref 41]) (pm_q189_2 (Nat.le_of_ble_eq_true rfl)) rfl rfl ?_
              refine pm_R_op pm_M189 (pc_q := 233) (st_q := [.int 0, .int 50, .int 3, .int 2, .int 1, .ref 41]) (pm_q189_2 (Nat.le_of_ble_eq_true rfl)) rfl rfl ?_
              refine pm_R_cv pm_M189 (pc_q := 236) (a := 41) (ra := [.int 0, .int 50, .int 3, .int 2, .int 1]) (rest := []) (ls_q := [.ref 41, .int 1, .int 2, .int 3, .int 50, .int 0, pm_no, pm_no]) (pm_q189_2 (Nat.le_of_ble_eq_true rfl)) rfl (Or.inl rfl) pm_M185 T3837.2.1 rfl (by decide) (Nat.lt_of_lt_of_le (by decide) T3837.1) rfl rfl (Nat.le_of_ble_eq_true rfl) rfl rfl ?_
              have e3862 := (F3838.cell (by decide) (F3667.cell (by decide) (F3636.cell (by decide) (F3624.cell (by decide) (F3619.cell (by decide) (F3614.cell (by decide) (F3609.cell (by decide) (F3587.cell (by decide) (F3571.cell (by decide) e3)))))))))
              refine rf_c185_d (d := d + 3) T3837 (⟨f2, e3862, ct4, fun z => (sf_pos B3846 (by decide) z)⟩) (fun z => sf_pos B3846 (by decide) z) (fun m3865 w3866 h3867 T3868 F3869 W3870 X3871 => ?_)
              have F3872 := F3841.trans F3869 (by decide)
              have B3873 : sf_B 0 600 (m3865 10) := by rw [W3870 10 (by decide)]; exact B3842
              have ek3874 : (m3865 10).toInt = ((m3663 10)).toInt := by rw [W3870 10 (by decide)]; exact ek3843
              have B3875 : sf_B 0 4 (m3865 13) := by rw [W3870 13 (by decide)]; exact B3844
              have ek3876 : (m3865 13).toInt = ((m3663 13)).toInt := by rw [W3870 13 (by decide)]; exact ek3845
              have B3877 : sf_B 1 4 (m3865 17) := by rw [W3870 17 (by decide)]; exact B3846
              have ek3878 : (m3865 17).toInt = ((m3663 17)).toInt := by rw [W3870 17 (by decide)]; exact ek3847
              have B3879 : sf_B 0 0 (m3865 22) := by rw [W3870 22 (by decide)]; exact B3848
              have ek3880 : (m3865 22).toInt = ((m3663 22)).toInt := by rw [W3870 22 (by decide)]; exact ek3849
              have B3881 : sf_B 0 99 (m3865 21) := by rw [W3870 21 (by decide)]; exact B3850
              have ek3882 : (m3865 21).toInt = ((m3663 21)).toInt := by rw [W3870 21 (by decide)]; exact ek3851
              have W3883 : rf_W [10, 12, 13, 14, 16, 17, 18, 21, 22] m m3865 := W3852.trans W3870 (by decide)
              show pm_R _ 189 236 [.ref 41, .long a0, pm_no, .int a1, pm_no] [] _ _
              obtain ⟨f3884, e3885, ct3886, bd3887⟩ := X3871
              refine pm_R_op pm_M189 (pc_q := 237) (st_q := [.int 1]) (pm_q189_2 (Nat.le_of_ble_eq_true rfl)) rfl rfl ?_
              exact pm_R_ret pm_M189 (r := some (.int 1)) (pm_q189_2 (Nat.le_of_ble_eq_true rfl)) rfl (K1 m3865 w3866 h3867 T3868 F3872 W3883 (⟨f3884, e3885, ct3886, fun z => (sf_pos B3877 (by decide) z)⟩) (sf_aux39 _ _ _ ek3874 R3827))
            · have B3888 : sf_B (-1) 98 (m3663 21) := sf_ltL (Int32.not_le.mp c3834) B3833 B3829
              refine pm_R_lo pm_M191 (pc_q := 27) rfl rfl rfl ?_
              refine rf_R_get pm_M191 T3666 (pc_q := 30) (v := .ref 52) rfl rfl rfl rfl ?_
              refine pm_R_lo pm_M191 (pc_q := 31) rfl rfl rfl ?_
              refine pm_R_iald pm_M191 (pc_q := 32) (v := v3828) rfl e3830 (Nat.lt_of_lt_of_le (by decide) T3666.1) rfl sf_upd_eq rfl ?_
              refine pm_R_br pm_M191 (pc_q := 39) rfl rfl ?_
              refine rf_R_put pm_M191 T3666 (pc_q := 42) rfl rfl rfl (by decide) rfl rfl (sf_weak B3829 (by decide) (by decide)) rfl rfl (fun h3891 m3894 em3895 T3892 F3893 => ?_)
              have F3896 := F3821.trans F3893 (by decide)
              have B3897 : sf_B 0 600 (m3894 10) := by rw [em3895]; exact B3823
              have ek3898 : (m3894 10).toInt = ((m3663 10)).toInt := by rw [em3895]; rfl
              have B3899 : sf_B 0 4 (m3894 13) := by rw [em3895]; exact B3824
              have ek3900 : (m3894 13).toInt = ((m3663 13)).toInt := by rw [em3895]; rfl
              have B3901 : sf_B 1 4 (m3894 17) := by rw [em3895]; exact B3672
              have ek3902 : (m3894 17).toInt = ((m3663 17)).toInt := by rw [em3895]; rfl
              have B3903 : sf_B 0 0 (m3894 22) := by rw [em3895]; exact B3673
              have ek3904 : (m3894 22).toInt = ((m3663 22)).toInt := by rw [em3895]; rfl
              have B3905 : sf_B 0 99 (m3894 21) := by rw [em3895]; exact B3829
              have ek3906 : (m3894 21).toInt = (v3828).toInt := by rw [em3895]; rfl
              have W3907 : rf_W [10, 12, 13, 14, 16, 17, 18, 21, 22] m m3894 := by rw [em3895]; exact W3822.put (by decide)
              refine pm_R_lo pm_M191 (pc_q := 43) rfl rfl rfl ?_
              refine pm_R_ret pm_M191 (r := some (.int 1)) rfl rfl ?_
              show pm_R _ 189 178 [.ref 41, .long a0, pm_no, .int a1, pm_no] [.int 1] _ _
              refine pm_R_br pm_M189 (pc_q := 183) (st_q := []) (pm_q189_1 (Nat.le_of_ble_eq_true rfl)) rfl ?_
              refine pm_R_lo pm_M189 (pc_q := 184) (pm_q189_1 (Nat.le_of_ble_eq_true rfl)) rfl rfl ?_
              refine pm_R_ldc2 pm_M189 (pc_q := 187) (pm_q189_1 (Nat.le_of_ble_eq_true rfl)) rfl rfl ?_
              refine pm_R_op pm_M189 (pc_q := 188) (st_q := [.int z342]) (pm_q189_1 (Nat.le_of_ble_eq_true rfl)) (by show some (Value.int (lg_cmp a0 1819242347) :: _) = _; rw [← e343]) rfl ?_
              refine pm_R_ifc pm_M189 (t := 205) (pc_q := 191) (pm_q189_1 (Nat.le_of_ble_eq_true rfl)) rfl rfl (fun c3910 => ?_) (fun c3910 => absurd (Classical.not_not.mp c3910) c344)
              have k3911 := sf_lneC e343 c3910
              refine pm_R_lo pm_M189 (pc_q := 206) (pm_q189_1 (Nat.le_of_ble_eq_true rfl)) rfl rfl ?_
              refine pm_R_ldc2 pm_M189 (pc_q := 209) (pm_q189_1 (Nat.le_of_ble_eq_true rfl)) rfl rfl ?_
              refine sf_R_lcmp pm_M189 (pc_q := 210) (pm_q189_1 (Nat.le_of_ble_eq_true rfl)) rfl (fun z3912 e3913 => ?_)
              have B3914 : sf_B (-2147483648) (-1) z3912 := lf_cmpLt e3913 B3192 (⟨by decide, by decide⟩ : lf_B 1935767923 1935767923 1935767923) (by decide)
              refine pm_R_ifc pm_M189 (t := 226) (pc_q := 213) (pm_q189_1 (Nat.le_of_ble_eq_true rfl)) rfl rfl (fun c3915 => ?_) (fun c3915 => absurd (Classical.not_not.mp c3915) (sf_neq2 B3914 sf_k0 (by decide)))
              have k3916 := sf_lneC e3913 c3915
              refine pm_R_lo pm_M189 (pc_q := 227) (pm_q189_2 (Nat.le_of_ble_eq_true rfl)) rfl rfl ?_
              refine pm_R_op pm_M189 (pc_q := 228) (st_q := [.int 1, .ref 41]) (pm_q189_2 (Nat.le_of_ble_eq_true rfl)) rfl rfl ?_
              refine pm_R_op pm_M189 (pc_q := 229) (st_q := [.int 2, .int 1, .ref 41]) (pm_q189_2 (Nat.le_of_ble_eq_true rfl)) rfl rfl ?_
              refine pm_R_op pm_M189 (pc_q := 230) (st_q := [.int 3, .int 2, .int 1, .ref 41]) (pm_q189_2 (Nat.le_of_ble_eq_true rfl)) rfl rfl ?_
              refine pm_R_op pm_M189 (pc_q := 232) (st_q := [.int 50, .int 3, .int 2, .int 1, .ref 41]) (pm_q189_2 (Nat.le_of_ble_eq_true rfl)) rfl rfl ?_
              refine pm_R_op pm_M189 (pc_q := 233) (st_q := [.int 0, .int 50, .int 3, .int 2, .int 1, .ref 41]) (pm_q189_2 (Nat.le_of_ble_eq_true rfl)) rfl rfl ?_
              refine pm_R_cv pm_M189 (pc_q := 236) (a := 41) (ra := [.int 0, .int 50, .int 3, .int 2, .int 1]) (rest := []) (ls_q := [.ref 41, .int 1, .int 2, .int 3, .int 50, .int 0, pm_no, pm_no]) (pm_q189_2 (Nat.le_of_ble_eq_true rfl)) rfl (Or.inl rfl) pm_M185 T3892.2.1 rfl (by decide) (Nat.lt_of_lt_of_le (by decide) T3892.1) rfl rfl (Nat.le_of_ble_eq_true rfl) rfl rfl ?_
              have e3917 := (F3893.cell (by decide) (F3667.cell (by decide) (F3636.cell (by decide) (F3624.cell (by decide) (F3619.cell (by decide) (F3614.cell (by decide) (F3609.cell (by decide) (F3587.cell (by decide) (F3571.cell (by decide) e3)))))))))
              refine rf_c185_d (d := d + 3) T3892 (⟨f2, e3917, ct4, fun z => (sf_pos B3901 (by decide) z)⟩) (fun z => sf_pos B3901 (by decide) z) (fun m3920 w3921 h3922 T3923 F3924 W3925 X3926 => ?_)
              have F3927 := F3896.trans F3924 (by decide)
              have B3928 : sf_B 0 600 (m3920 10) := by rw [W3925 10 (by decide)]; exact B3897
              have ek3929 : (m3920 10).toInt = ((m3663 10)).toInt := by rw [W3925 10 (by decide)]; exact ek3898
              have B3930 : sf_B 0 4 (m3920 13) := by rw [W3925 13 (by decide)]; exact B3899
              have ek3931 : (m3920 13).toInt = ((m3663 13)).toInt := by rw [W3925 13 (by decide)]; exact ek3900
              have B3932 : sf_B 1 4 (m3920 17) := by rw [W3925 17 (by decide)]; exact B3901
              have ek3933 : (m3920 17).toInt = ((m3663 17)).toInt := by rw [W3925 17 (by decide)]; exact ek3902
              have B3934 : sf_B 0 0 (m3920 22) := by rw [W3925 22 (by decide)]; exact B3903
              have ek3935 : (m3920 22).toInt = ((m3663 22)).toInt := by rw [W3925 22 (by decide)]; exact ek3904
              have B3936 : sf_B 0 99 (m3920 21) := by rw [W3925 21 (by decide)]; exact B3905
              have ek3937 : (m3920 21).toInt = (v3828).toInt := by rw [W3925 21 (by decide)]; exact ek3906
              have W3938 : rf_W [10, 12, 13, 14, 16, 17, 18, 21, 22] m m3920 := W3907.trans W3925 (by decide)
              show pm_R _ 189 236 [.ref 41, .long a0, pm_no, .int a1, pm_no] [] _ _
              obtain ⟨f3939, e3940, ct3941, bd3942⟩ := X3926
              refine pm_R_op pm_M189 (pc_q := 237) (st_q := [.int 1]) (pm_q189_2 (Nat.le_of_ble_eq_true rfl)) rfl rfl ?_
              exact pm_R_ret pm_M189 (r := some (.int 1)) (pm_q189_2 (Nat.le_of_ble_eq_true rfl)) rfl (K1 m3920 w3921 h3922 T3923 F3927 W3938 (⟨f3939, e3940, ct3941, fun z => (sf_pos B3932 (by decide) z)⟩) (sf_aux39 _ _ _ ek3929 R3827))
      · have k3943 := sf_lneC e3189 c3190
        refine pm_R_lo pm_M189 (pc_q := 25) rfl rfl rfl ?_
        refine pm_R_ldc2 pm_M189 (pc_q := 28) rfl rfl rfl ?_
        refine sf_R_lcmp pm_M189 (pc_q := 29) rfl rfl (fun z3944 e3945 => ?_)
        refine pm_R_ifc pm_M189 (t := 37) (pc_q := 32) rfl rfl rfl (fun c3946 => ?_) (fun c3946 => ?_)
        · have B3947 : sf_B 0 0 z3944 := sf_eqL c3946 sf_k0
          have B3948 : lf_B 1935767923 1935767923 a0 := lf_eqB e3945 B3947 (⟨by decide, by decide⟩ : lf_B 1935767923 1935767923 1935767923)
          refine pm_R_lo pm_M189 (pc_q := 38) rfl rfl rfl ?_
          refine pm_R_ldc2 pm_M189 (pc_q := 41) rfl rfl rfl ?_
          refine pm_R_op pm_M189 (pc_q := 42) (st_q := [.int z7]) rfl (by show some (Value.int (lg_cmp a0 495622124659) :: _) = _; rw [← e8]) rfl ?_
          refine pm_R_ifc pm_M189 (t := 62) (pc_q := 45) rfl rfl rfl (fun c3951 => absurd c3951 c9) (fun c3951 => ?_)
          have k3952 := sf_lneC e8 c3951
          refine pm_R_lo pm_M189 (pc_q := 46) rfl rfl rfl ?_
          refine rf_R_get pm_M189 T (pc_q := 49) (v := .ref 51) rfl rfl rfl rfl ?_
          refine pm_R_op pm_M189 (pc_q := 50) (st_q := [.int 1, .ref 51]) rfl rfl rfl ?_
          refine pm_R_iald pm_M189 (pc_q := 51) (v := (f2 1)) rfl e3 (Nat.lt_of_lt_of_le (by decide) T.1) rfl rfl rfl ?_
          refine pm_R_op pm_M189 (pc_q := 53) (st_q := [.int 50, .int (f2 1)]) rfl rfl rfl ?_
          refine pm_R_icmp pm_M189 (t := 62) (pc_q := 56) rfl rfl rfl (fun c3955 => ?_) (fun c3955 => ?_)
          · have B3956 : sf_B 0 49 (f2 1) := sf_neH0 c3955 sf_k50 ct4
            refine pm_R_lo pm_M189 (pc_q := 63) rfl rfl rfl ?_
            refine pm_R_cv pm_M189 (pc_q := 66) (a := 41) (ra := []) (rest := []) (ls_q := [.ref 41, pm_no, pm_no]) rfl rfl (Or.inl rfl) pm_M179 T.2.1 rfl (by decide) (Nat.lt_of_lt_of_le (by decide) T.1) rfl rfl (Nat.le_of_ble_eq_true rfl) rfl rfl ?_
            refine rf_c179 (d := d + 2) T  (fun m3959 w3960 h3961 T3962 F3963 W3964 X3965 X3966 => ?_)
            have F3967 := (rf_G.refl [41, 51, 52] h).trans F3963 (by decide)
            have B3968 : sf_B 0 4 (m3959 17) := by rw [W3964 17 (by decide)]; exact B6
            have ek3969 : (m3959 17).toInt = ((m 17)).toInt := by rw [W3964 17 (by decide)]
            have W3970 : rf_W [10, 12, 13, 14, 16, 17, 18, 21, 22] m m3959 := (rf_W.refl [10, 12, 13, 14, 16, 17, 18, 21, 22] m).trans W3964 (by decide)
            have B3971 : sf_B 0 600 (m3959 10) := T3962.2.2.1 10
            have B3972 : sf_B 0 4 (m3959 13) := T3962.2.2.1 13
            have B3973 : sf_B 0 1 (m3959 22) := T3962.2.2.1 22
            show pm_R _ 189 66 [.ref 41, .long a0, pm_no, .int a1, pm_no] [] _ _
            have R3974 : (m 10).toInt ≤ (m3959 10).toInt := (sf_aux51 _ _ X3965)
            refine pm_R_lo pm_M189 (pc_q := 67) rfl rfl rfl ?_
            refine pm_R_ldc2 pm_M189 (pc_q := 70) rfl rfl rfl ?_
            refine pm_R_op pm_M189 (pc_q := 71) (st_q := [.int z7]) rfl (by show some (Value.int (lg_cmp a0 495622124659) :: _) = _; rw [← e8]) rfl ?_
            refine pm_R_ifc pm_M189 (t := 137) (pc_q := 74) rfl rfl rfl (fun c3977 => ?_) (fun c3977 => absurd (Classical.not_not.mp c3977) c9)
            have k3978 := sf_lneC e8 c3977
            refine pm_R_lo pm_M189 (pc_q := 138) (pm_q189_1 (Nat.le_of_ble_eq_true rfl)) rfl rfl ?_
            refine pm_R_cv pm_M189 (pc_q := 141) (a := 41) (ra := []) (rest := []) (ls_q := [.ref 41, pm_no]) (pm_q189_1 (Nat.le_of_ble_eq_true rfl)) rfl (Or.inl rfl) pm_M190 T3962.2.1 rfl (by decide) (Nat.lt_of_lt_of_le (by decide) T3962.1) rfl rfl (Nat.le_of_ble_eq_true rfl) rfl rfl ?_
            refine pm_R_op pm_M190 (pc_q := 1) (st_q := [.int 0]) rfl rfl rfl ?_
            refine pm_R_lo pm_M190 (pc_q := 2) (ls_q := [.ref 41, .int 0]) (st_q := []) rfl rfl rfl ?_
            refine pm_R_lo pm_M190 (pc_q := 3) rfl rfl rfl ?_
            refine pm_R_op pm_M190 (pc_q := 4) (st_q := [.int 4, .int 0]) rfl rfl rfl ?_
            refine pm_R_br pm_M190 (pc_q := 7) (st_q := []) rfl rfl ?_
            refine pm_R_lo pm_M190 (pc_q := 8) rfl rfl rfl ?_
            refine rf_R_get pm_M190 T3962 (pc_q := 11) (v := .ref 52) rfl rfl rfl rfl ?_
            refine pm_R_lo pm_M190 (pc_q := 12) rfl rfl rfl ?_
            refine pm_R_op pm_M190 (pc_q := 13) (st_q := [.int (-1), .int 0, .ref 52]) rfl rfl rfl ?_
            obtain ⟨f3979, e3980, b3981⟩ := T3962.2.2.2.1 52 (by decide) (by decide)
            refine rf_R_ist pm_M190 T3962 (pc_q := 14) rfl e3980 (by decide) (by decide) rfl ⟨_, rfl, sf_upd b3981 (sf_weak sf_kn1 (by decide) (by decide)) _⟩ rfl (fun h3982 T3983 F3984 e3985 => ?_)
            have F3986 := F3967.trans F3984 (by decide)
            refine pm_R_lo pm_M190 (pc_q := 17) (ls_q := [.ref 41, .int 1]) (st_q := []) rfl rfl rfl ?_
            refine pm_R_br pm_M190 (pc_q := 2) rfl rfl ?_
            refine pm_R_lo pm_M190 (pc_q := 3) rfl rfl rfl ?_
            refine pm_R_op pm_M190 (pc_q := 4) (st_q := [.int 4, .int 1]) rfl rfl rfl ?_
            refine pm_R_br pm_M190 (pc_q := 7) (st_q := []) rfl rfl ?_
            refine pm_R_lo pm_M190 (pc_q := 8) rfl rfl rfl ?_
            refine rf_R_get pm_M190 T3983 (pc_q := 11) (v := .ref 52) rfl rfl rfl rfl ?_
            refine pm_R_lo pm_M190 (pc_q := 12) rfl rfl rfl ?_
            refine pm_R_op pm_M190 (pc_q := 13) (st_q := [.int (-1), .int 1, .ref 52]) rfl rfl rfl ?_
            refine rf_R_ist pm_M190 T3983 (pc_q := 14) rfl e3985 (by decide) (by decide) rfl ⟨_, rfl, sf_upd (sf_upd b3981 (sf_weak sf_kn1 (by decide) (by decide)) _) (sf_weak sf_kn1 (by decide) (by decide)) _⟩ rfl (fun h3987 T3988 F3989 e3990 => ?_)
            have F3991 := F3986.trans F3989 (by decide)
            refine pm_R_lo pm_M190 (pc_q := 17) (ls_q := [.ref 41, .int 2]) (st_q := []) rfl rfl rfl ?_
            refine pm_R_br pm_M190 (pc_q := 2) rfl rfl ?_
            refine pm_R_lo pm_M190 (pc_q := 3) rfl rfl rfl ?_
            refine pm_R_op pm_M190 (pc_q := 4) (st_q := [.int 4, .int 2]) rfl rfl rfl ?_
            refine pm_R_br pm_M190 (pc_q := 7) (st_q := []) rfl rfl ?_
            refine pm_R_lo pm_M190 (pc_q := 8) rfl rfl rfl ?_
            refine rf_R_get pm_M190 T3988 (pc_q := 11) (v := .ref 52) rfl rfl rfl rfl ?_
            refine pm_R_lo pm_M190 (pc_q := 12) rfl rfl rfl ?_
            refine pm_R_op pm_M190 (pc_q := 13) (st_q := [.int (-1), .int 2, .ref 52]) rfl rfl rfl ?_
            refine rf_R_ist pm_M190 T3988 (pc_q := 14) rfl e3990 (by decide) (by decide) rfl ⟨_, rfl, sf_upd (sf_upd (sf_upd b3981 (sf_weak sf_kn1 (by decide) (by decide)) _) (sf_weak sf_kn1 (by decide) (by decide)) _) (sf_weak sf_kn1 (by decide) (by decide)) _⟩ rfl (fun h3992 T3993 F3994 e3995 => ?_)
            have F3996 := F3991.trans F3994 (by decide)
            refine pm_R_lo pm_M190 (pc_q := 17) (ls_q := [.ref 41, .int 3]) (st_q := []) rfl rfl rfl ?_
            refine pm_R_br pm_M190 (pc_q := 2) rfl rfl ?_
            refine pm_R_lo pm_M190 (pc_q := 3) rfl rfl rfl ?_
            refine pm_R_op pm_M190 (pc_q := 4) (st_q := [.int 4, .int 3]) rfl rfl rfl ?_
            refine pm_R_br pm_M190 (pc_q := 7) (st_q := []) rfl rfl ?_
            refine pm_R_lo pm_M190 (pc_q := 8) rfl rfl rfl ?_
            refine rf_R_get pm_M190 T3993 (pc_q := 11) (v := .ref 52) rfl rfl rfl rfl ?_
            refine pm_R_lo pm_M190 (pc_q := 12) rfl rfl rfl ?_
            refine pm_R_op pm_M190 (pc_q := 13) (st_q := [.int (-1), .int 3, .ref 52]) rfl rfl rfl ?_
            refine rf_R_ist pm_M190 T3993 (pc_q := 14) rfl e3995 (by decide) (by decide) rfl ⟨_, rfl, sf_upd (sf_upd (sf_upd (sf_upd b3981 (sf_weak sf_kn1 (by decide) (by decide)) _) (sf_weak sf_kn1 (by decide) (by decide)) _) (sf_weak sf_kn1 (by decide) (by decide)) _) (sf_weak sf_kn1 (by decide) (by decide)) _⟩ rfl (fun h3997 T3998 F3999 e4000 => ?_)
            have F4001 := F3996.trans F3999 (by decide)
            refine pm_R_lo pm_M190 (pc_q := 17) (ls_q := [.ref 41, .int 4]) (st_q := []) rfl rfl rfl ?_
            refine pm_R_br pm_M190 (pc_q := 2) rfl rfl ?_
            refine pm_R_lo pm_M190 (pc_q := 3) rfl rfl rfl ?_
            refine pm_R_op pm_M190 (pc_q := 4) (st_q := [.int 4, .int 4]) rfl rfl rfl ?_
            refine pm_R_br pm_M190 (pc_q := 20) (st_q := []) rfl rfl ?_
            refine pm_R_ret pm_M190 (r := none) rfl rfl ?_
            show pm_R _ 189 141 [.ref 41, .long a0, pm_no, .int a1, pm_no] [] _ _
            refine pm_R_lo pm_M189 (pc_q := 142) (pm_q189_1 (Nat.le_of_ble_eq_true rfl)) rfl rfl ?_
            refine rf_R_get pm_M189 T3998 (pc_q := 145) (v := .ref 52) (pm_q189_1 (Nat.le_of_ble_eq_true rfl)) rfl rfl rfl ?_
            refine pm_R_op pm_M189 (pc_q := 146) (st_q := [.int 0, .ref 52]) (pm_q189_1 (Nat.le_of_ble_eq_true rfl)) rfl rfl ?_
            refine pm_R_lo pm_M189 (pc_q := 147) (pm_q189_1 (Nat.le_of_ble_eq_true rfl)) rfl rfl ?_
            refine pm_R_ldc2 pm_M189 (pc_q := 150) (pm_q189_1 (Nat.le_of_ble_eq_true rfl)) rfl rfl ?_
            refine pm_R_op pm_M189 (pc_q := 151) (st_q := [.int z342, .int 0, .ref 52]) (pm_q189_1 (Nat.le_of_ble_eq_true rfl)) (by show some (Value.int (lg_cmp a0 1819242347) :: _) = _; rw [← e343]) rfl ?_
            refine pm_R_ifc pm_M189 (t := 158) (pc_q := 154) (pm_q189_1 (Nat.le_of_ble_eq_true rfl)) rfl rfl (fun c4004 => ?_) (fun c4004 => absurd (Classical.not_not.mp c4004) c344)
            have k4005 := sf_lneC e343 c4004
            refine pm_R_lo pm_M189 (pc_q := 159) (pm_q189_1 (Nat.le_of_ble_eq_true rfl)) rfl rfl ?_
            refine pm_R_ldc2 pm_M189 (pc_q := 162) (pm_q189_1 (Nat.le_of_ble_eq_true rfl)) rfl rfl ?_
            refine pm_R_op pm_M189 (pc_q := 163) (st_q := [.int z3188, .int 0, .ref 52]) (pm_q189_1 (Nat.le_of_ble_eq_true rfl)) (by show some (Value.int (lg_cmp a0 1635213689) :: _) = _; rw [← e3189]) rfl ?_
            refine pm_R_ifc pm_M189 (t := 170) (pc_q := 166) (pm_q189_1 (Nat.le_of_ble_eq_true rfl)) rfl rfl (fun c4008 => ?_) (fun c4008 => absurd (Classical.not_not.mp c4008) c3190)
            have k4009 := sf_lneC e3189 c4008
            refine pm_R_op pm_M189 (pc_q := 171) (st_q := [.int 2, .int 0, .ref 52]) (pm_q189_1 (Nat.le_of_ble_eq_true rfl)) rfl rfl ?_
            refine rf_R_ist pm_M189 T3998 (pc_q := 172) (pm_q189_1 (Nat.le_of_ble_eq_true rfl)) e4000 (by decide) (by decide) rfl ⟨_, rfl, sf_upd (sf_upd (sf_upd (sf_upd (sf_upd b3981 (sf_weak sf_kn1 (by decide) (by decide)) _) (sf_weak sf_kn1 (by decide) (by decide)) _) (sf_weak sf_kn1 (by decide) (by decide)) _) (sf_weak sf_kn1 (by decide) (by decide)) _) (sf_weak sf_k2 (by decide) (by decide)) _⟩ rfl (fun h4010 T4011 F4012 e4013 => ?_)
            have F4014 := F4001.trans F4012 (by decide)
            refine pm_R_lo pm_M189 (pc_q := 173) (pm_q189_1 (Nat.le_of_ble_eq_true rfl)) rfl rfl ?_
            refine pm_R_op pm_M189 (pc_q := 174) (st_q := [.int 1, .ref 41]) (pm_q189_1 (Nat.le_of_ble_eq_true rfl)) rfl rfl ?_
            refine pm_R_op pm_M189 (pc_q := 175) (st_q := [.int (-1), .int 1, .ref 41]) (pm_q189_1 (Nat.le_of_ble_eq_true rfl)) rfl rfl ?_
            refine pm_R_cv pm_M189 (pc_q := 178) (a := 41) (ra := [.int (-1), .int 1]) (rest := []) (ls_q := [.ref 41, .int 1, .int (-1), pm_no]) (pm_q189_1 (Nat.le_of_ble_eq_true rfl)) rfl (Or.inl rfl) pm_M191 T4011.2.1 rfl (by decide) (Nat.lt_of_lt_of_le (by decide) T4011.1) rfl rfl (Nat.le_of_ble_eq_true rfl) rfl rfl ?_
            refine pm_R_lo pm_M191 (pc_q := 1) rfl rfl rfl ?_
            refine pm_R_lo pm_M191 (pc_q := 2) rfl rfl rfl ?_
            refine pm_R_op pm_M191 (pc_q := 3) (st_q := [.int 5, .int 1, .ref 41]) rfl rfl rfl ?_
            refine pm_R_lo pm_M191 (pc_q := 4) rfl rfl rfl ?_
            refine pm_R_cv pm_M191 (pc_q := 7) (a := 41) (ra := [.int (-1), .int 5, .int 1]) (rest := []) (ls_q := [.ref 41, .int 1, .int 5, .int (-1)]) rfl rfl (Or.inl rfl) pm_M183 T4011.2.1 rfl (by decide) (Nat.lt_of_lt_of_le (by decide) T4011.1) rfl rfl (Nat.le_of_ble_eq_true rfl) rfl rfl ?_
            refine rf_c183_1_5 (d := d + 0) T4011  (fun m4017 w4018 h4019 T4020 F4021 W4022 X4023 => ?_) (fun m4026 w4027 h4028 T4029 F4030 W4031 X4032 X4033 X4034 X4035 X4036 => ?_) (fun m4039 w4040 h4041 T4042 F4043 W4044 X4045 X4046 X4047 B4048 B4049 => ?_)
            · have F4050 := F4014.trans F4021 (by decide)
              have W4051 : rf_W [10, 12, 13, 14, 16, 17, 18, 21, 22] m m4017 := W3970.trans W4022 (by decide)
              have B4052 : sf_B 0 600 (m4017 10) := T4020.2.2.1 10
              have B4053 : sf_B 0 4 (m4017 13) := T4020.2.2.1 13
              have B4054 : sf_B 0 4 (m4017 17) := T4020.2.2.1 17
              have B4055 : sf_B 0 1 (m4017 22) := T4020.2.2.1 22
              show pm_R _ 191 7 [.ref 41, .int 1, .int (-1), pm_no] [.int 0] _ _
              have R4056 : (m 10).toInt ≤ (m4017 10).toInt := (sf_aux70 _ _ _ R3974 X4023)
              refine pm_R_lo pm_M191 (pc_q := 8) (ls_q := [.ref 41, .int 1, .int (-1), .int 0]) (st_q := []) rfl rfl rfl ?_
              refine pm_R_lo pm_M191 (pc_q := 9) rfl rfl rfl ?_
              refine pm_R_lo pm_M191 (pc_q := 10) rfl rfl rfl ?_
              refine pm_R_br pm_M191 (pc_q := 35) (st_q := [.ref 41]) rfl rfl ?_
              refine pm_R_lo pm_M191 (pc_q := 36) rfl rfl rfl ?_
              have B4057 : sf_B (-1) 99 (m4017 21) := T4020.2.2.1 21
              refine rf_R_get pm_M191 T4020 (pc_q := 39) (v := .int (m4017 21)) rfl rfl rfl rfl ?_
              refine rf_R_put pm_M191 T4020 (pc_q := 42) rfl rfl rfl (by decide) rfl rfl B4057 rfl rfl (fun h4058 m4061 em4062 T4059 F4060 => ?_)
              have F4063 := F4050.trans F4060 (by decide)
              have B4064 : sf_B 0 600 (m4061 10) := by rw [em4062]; exact B4052
              have ek4065 : (m4061 10).toInt = ((m4017 10)).toInt := by rw [em4062]; rfl
              have B4066 : sf_B 0 4 (m4061 13) := by rw [em4062]; exact B4053
              have ek4067 : (m4061 13).toInt = ((m4017 13)).toInt := by rw [em4062]; rfl
              have B4068 : sf_B 0 4 (m4061 17) := by rw [em4062]; exact B4054
              have ek4069 : (m4061 17).toInt = ((m4017 17)).toInt := by rw [em4062]; rfl
              have B4070 : sf_B 0 1 (m4061 22) := by rw [em4062]; exact B4055
              have ek4071 : (m4061 22).toInt = ((m4017 22)).toInt := by rw [em4062]; rfl
              have B4072 : sf_B (-1) 99 (m4061 21) := by rw [em4062]; exact B4057
              have ek4073 : (m4061 21).toInt = ((m4017 21)).toInt := by rw [em4062]; rfl
              have W4074 : rf_W [10, 12, 13, 14, 16, 17, 18, 21, 22] m m4061 := by rw [em4062]; exact W4051.put (by decide)
              refine pm_R_lo pm_M191 (pc_q := 43) rfl rfl rfl ?_
              refine pm_R_ret pm_M191 (r := some (.int 0)) rfl rfl ?_
              show pm_R _ 189 178 [.ref 41, .long a0, pm_no, .int a1, pm_no] [.int 0] _ _
              refine pm_R_br pm_M189 (pc_q := 181) (st_q := []) (pm_q189_1 (Nat.le_of_ble_eq_true rfl)) rfl ?_
              refine pm_R_op pm_M189 (pc_q := 182) (st_q := [.int 0]) (pm_q189_1 (Nat.le_of_ble_eq_true rfl)) rfl rfl ?_
              exact pm_R_ret pm_M189 (r := some (.int 0)) (pm_q189_1 (Nat.le_of_ble_eq_true rfl)) rfl (K0 m4061 w4018 h4058 T4059 F4063 W4074 (sf_aux39 _ _ _ ek4065 R4056))
            · have F4075 := F4014.trans F4030 (by decide)
              have W4076 : rf_W [10, 12, 13, 14, 16, 17, 18, 21, 22] m m4026 := W3970.trans W4031 (by decide)
              have B4077 : sf_B 0 600 (m4026 10) := T4029.2.2.1 10
              have B4078 : sf_B 0 4 (m4026 13) := T4029.2.2.1 13
              have B4079 : sf_B 0 4 (m4026 17) := T4029.2.2.1 17
              have B4080 : sf_B 0 1 (m4026 22) := T4029.2.2.1 22
              show pm_R _ 191 7 [.ref 41, .int 1, .int (-1), pm_no] [.int 1] _ _
              have R4081 : (m 10).toInt ≤ (m4026 10).toInt := (sf_aux70 _ _ _ R3974 X4036)
              obtain ⟨v4082, B4083, e4084⟩ := X4032 _ e4013
              refine pm_R_lo pm_M191 (pc_q := 8) (ls_q := [.ref 41, .int 1, .int (-1), .int 1]) (st_q := []) rfl rfl rfl ?_
              refine pm_R_lo pm_M191 (pc_q := 9) rfl rfl rfl ?_
              refine pm_R_lo pm_M191 (pc_q := 10) rfl rfl rfl ?_
              refine pm_R_br pm_M191 (pc_q := 13) (st_q := [.ref 41]) rfl rfl ?_
              refine pm_R_lo pm_M191 (pc_q := 14) rfl rfl rfl ?_
              refine rf_R_get pm_M191 T4029 (pc_q := 17) (v := .ref 52) rfl rfl rfl rfl ?_
              refine pm_R_lo pm_M191 (pc_q := 18) rfl rfl rfl ?_
              refine pm_R_iald pm_M191 (pc_q := 19) (v := v4082) rfl e4084 (Nat.lt_of_lt_of_le (by decide) T4029.1) rfl sf_upd_eq rfl ?_
              refine pm_R_lo pm_M191 (pc_q := 20) rfl rfl rfl ?_
              have B4087 : sf_B (-1) 99 (m4026 21) := T4029.2.2.1 21
              refine rf_R_get pm_M191 T4029 (pc_q := 23) (v := .int (m4026 21)) rfl rfl rfl rfl ?_
              refine pm_R_icmp pm_M191 (t := 35) (pc_q := 26) rfl rfl rfl (fun c4088 => ?_) (fun c4088 => ?_)
              · have B4089 : sf_B 0 99 (m4026 21) := sf_leR c4088 B4083 B4087
                refine pm_R_lo pm_M191 (pc_q := 36) rfl rfl rfl ?_
                refine rf_R_get pm_M191 T4029 (pc_q := 39) (v := .int (m4026 21)) rfl rfl rfl rfl ?_
                refine rf_R_put pm_M191 T4029 (pc_q := 42) rfl rfl rfl (by decide) rfl rfl (sf_weak B4089 (by decide) (by decide)) rfl rfl (fun h4090 m4093 em4094 T4091 F4092 => ?_)
                have F4095 := F4075.trans F4092 (by decide)
                have B4096 : sf_B 0 600 (m4093 10) := by rw [em4094]; exact B4077
                have ek4097 : (m4093 10).toInt = ((m4026 10)).toInt := by rw [em4094]; rfl
                have B4098 : sf_B 0 4 (m4093 13) := by rw [em4094]; exact B4078
                have ek4099 : (m4093 13).toInt = ((m4026 13)).toInt := by rw [em4094]; rfl
                have B4100 : sf_B 0 4 (m4093 17) := by rw [em4094]; exact (sf_eqT X4033 B3968)
                have ek4101 : (m4093 17).toInt = ((m3959 17)).toInt := by rw [em4094]; exact X4033
                have B4102 : sf_B 0 1 (m4093 22) := by rw [em4094]; exact (sf_eqT X4034 B3973)
                have ek4103 : (m4093 22).toInt = ((m3959 22)).toInt := by rw [em4094]; exact X4034
                have B4104 : sf_B 0 99 (m4093 21) := by rw [em4094]; exact B4089
                have ek4105 : (m4093 21).toInt = ((m4026 21)).toInt := by rw [em4094]; rfl
                have W4106 : rf_W [10, 12, 13, 14, 16, 17, 18, 21, 22] m m4093 := by rw [em4094]; exact W4076.put (by decide)
                refine pm_R_lo pm_M191 (pc_q := 43) rfl rfl rfl ?_
                refine pm_R_ret pm_M191 (r := some (.int 1)) rfl rfl ?_
                show pm_R _ 189 178 [.ref 41, .long a0, pm_no, .int a1, pm_no] [.int 1] _ _
                refine pm_R_br pm_M189 (pc_q := 183) (st_q := []) (pm_q189_1 (Nat.le_of_ble_eq_true rfl)) rfl ?_
                refine pm_R_lo pm_M189 (pc_q := 184) (pm_q189_1 (Nat.le_of_ble_eq_true rfl)) rfl rfl ?_
                refine pm_R_ldc2 pm_M189 (pc_q := 187) (pm_q189_1 (Nat.le_of_ble_eq_true rfl)) rfl rfl ?_
                refine pm_R_op pm_M189 (pc_q := 188) (st_q := [.int z342]) (pm_q189_1 (Nat.le_of_ble_eq_true rfl)) (by show some (Value.int (lg_cmp a0 1819242347) :: _) = _; rw [← e343]) rfl ?_
                refine pm_R_ifc pm_M189 (t := 205) (pc_q := 191) (pm_q189_1 (Nat.le_of_ble_eq_true rfl)) rfl rfl (fun c4109 => ?_) (fun c4109 => absurd (Classical.not_not.mp c4109) c344)
                have k4110 := sf_lneC e343 c4109
                refine pm_R_lo pm_M189 (pc_q := 206) (pm_q189_1 (Nat.le_of_ble_eq_true rfl)) rfl rfl ?_
                refine pm_R_ldc2 pm_M189 (pc_q := 209) (pm_q189_1 (Nat.le_of_ble_eq_true rfl)) rfl rfl ?_
                refine pm_R_op pm_M189 (pc_q := 210) (st_q := [.int z3944]) (pm_q189_1 (Nat.le_of_ble_eq_true rfl)) (by show some (Value.int (lg_cmp a0 1935767923) :: _) = _; rw [← e3945]) rfl ?_
                refine pm_R_ifc pm_M189 (t := 226) (pc_q := 213) (pm_q189_1 (Nat.le_of_ble_eq_true rfl)) rfl rfl (fun c4113 => absurd (sf_pt2 B3947 sf_k0) c4113) (fun c4113 => ?_)
                refine pm_R_lo pm_M189 (pc_q := 214) (pm_q189_1 (Nat.le_of_ble_eq_true rfl)) rfl rfl ?_
                refine pm_R_op pm_M189 (pc_q := 215) (st_q := [.int 2, .ref 41]) (pm_q189_1 (Nat.le_of_ble_eq_true rfl)) rfl rfl ?_
                refine pm_R_op pm_M189 (pc_q := 217) (st_q := [.int 9, .int 2, .ref 41]) (pm_q189_1 (Nat.le_of_ble_eq_true rfl)) rfl rfl ?_
                refine pm_R_op pm_M189 (pc_q := 218) (st_q := [.int (-1), .int 9, .int 2, .ref 41]) (pm_q189_1 (Nat.le_of_ble_eq_true rfl)) rfl rfl ?_
                refine pm_R_cv pm_M189 (pc_q := 221) (a := 41) (ra := [.int (-1), .int 9, .int 2]) (rest := []) (ls_q := [.ref 41, .int 2, .int 9, .int (-1)]) (pm_q189_2 (Nat.le_of_ble_eq_true rfl)) rfl (Or.inl rfl) pm_M183 T4091.2.1 rfl (by decide) (Nat.lt_of_lt_of_le (by decide) T4091.1) rfl rfl (Nat.le_of_ble_eq_true rfl) rfl rfl ?_
                have e4114 := (F4092.cell (by decide) e4084)
                refine rf_c183_2_9 (d := d + 1) T4091  (fun m4117 w4118 h4119 T4120 F4121 W4122 X4123 => ?_) (fun m4126 w4127 h4128 T4129 F4130 W4131 X4132 X4133 X4134 X4135 X4136 => ?_) (fun m4139 w4140 h4141 T4142 F4143 W4144 X4145 X4146 X4147 B4148 B4149 => ?_)
                · have F4150 := F4095.trans F4121 (by decide)
                  have B4151 : sf_B 0 99 (m4117 21) := by rw [W4122 21 (by decide)]; exact B4104
                  have ek4152 : (m4117 21).toInt = ((m4026 21)).toInt := by rw [W4122 21 (by decide)]; exact ek4105
                  have W4153 : rf_W [10, 12, 13, 14, 16, 17, 18, 21, 22] m m4117 := W4106.trans W4122 (by decide)
                  have B4154 : sf_B 0 600 (m4117 10) := T4120.2.2.1 10
                  have B4155 : sf_B 0 4 (m4117 13) := T4120.2.2.1 13
                  have B4156 : sf_B 0 4 (m4117 17) := T4120.2.2.1 17
                  have B4157 : sf_B 0 1 (m4117 22) := T4120.2.2.1 22
                  show pm_R _ 189 221 [.ref 41, .long a0, pm_no, .int a1, pm_no] [.int 0] _ _
                  have R4158 : (m 10).toInt ≤ (m4117 10).toInt := (sf_aux76 _ _ _ _ ek4097 R4081 X4123)
                  refine pm_R_br pm_M189 (pc_q := 224) (st_q := []) (pm_q189_2 (Nat.le_of_ble_eq_true rfl)) rfl ?_
                  refine pm_R_op pm_M189 (pc_q := 225) (st_q := [.int 0]) (pm_q189_2 (Nat.le_of_ble_eq_true rfl)) rfl rfl ?_
                  exact pm_R_ret pm_M189 (r := some (.int 0)) (pm_q189_2 (Nat.le_of_ble_eq_true rfl)) rfl (K0 m4117 w4118 h4119 T4120 F4150 W4153 (sf_aux51 _ _ R4158))
                · have F4159 := F4095.trans F4130 (by decide)
                  have B4160 : sf_B 0 99 (m4126 21) := by rw [W4131 21 (by decide)]; exact B4104
                  have ek4161 : (m4126 21).toInt = ((m4026 21)).toInt := by rw [W4131 21 (by decide)]; exact ek4105
                  have W4162 : rf_W [10, 12, 13, 14, 16, 17, 18, 21, 22] m m4126 := W4106.trans W4131 (by decide)
                  have B4163 : sf_B 0 600 (m4126 10) := T4129.2.2.1 10
                  have B4164 : sf_B 0 4 (m4126 13) := T4129.2.2.1 13
                  have B4165 : sf_B 0 4 (m4126 17) := T4129.2.2.1 17
                  have B4166 : sf_B 0 1 (m4126 22) := T4129.2.2.1 22
                  show pm_R _ 189 221 [.ref 41, .long a0, pm_no, .int a1, pm_no] [.int 1] _ _
                  have R4167 : (m 10).toInt ≤ (m4126 10).toInt := (sf_aux76 _ _ _ _ ek4097 R4081 X4136)
                  obtain ⟨v4168, B4169, e4170⟩ := X4132 _ e4114
                  refine pm_R_br pm_M189 (pc_q := 226) (st_q := []) (pm_q189_2 (Nat.le_of_ble_eq_true rfl)) rfl ?_
                  refine pm_R_lo pm_M189 (pc_q := 227) (pm_q189_2 (Nat.le_of_ble_eq_true rfl)) rfl rfl ?_
                  refine pm_R_op pm_M189 (pc_q := 228) (st_q := [.int 1, .ref 41]) (pm_q189_2 (Nat.le_of_ble_eq_true rfl)) rfl rfl ?_
                  refine pm_R_op pm_M189 (pc_q := 229) (st_q := [.int 2, .int 1, .ref 41]) (pm_q189_2 (Nat.le_of_ble_eq_true rfl)) rfl rfl ?_
                  refine pm_R_op pm_M189 (pc_q := 230) (st_q := [.int 3, .int 2, .int 1, .ref 41]) (pm_q189_2 (Nat.le_of_ble_eq_true rfl)) rfl rfl ?_
                  refine pm_R_op pm_M189 (pc_q := 232) (st_q := [.int 50, .int 3, .int 2, .int 1, .ref 41]) (pm_q189_2 (Nat.le_of_ble_eq_true rfl)) rfl rfl ?_
                  refine pm_R_op pm_M189 (pc_q := 233) (st_q := [.int 0, .int 50, .int 3, .int 2, .int 1, .ref 41]) (pm_q189_2 (Nat.le_of_ble_eq_true rfl)) rfl rfl ?_
                  refine pm_R_cv pm_M189 (pc_q := 236) (a := 41) (ra := [.int 0, .int 50, .int 3, .int 2, .int 1]) (rest := []) (ls_q := [.ref 41, .int 1, .int 2, .int 3, .int 50, .int 0, pm_no, pm_no]) (pm_q189_2 (Nat.le_of_ble_eq_true rfl)) rfl (Or.inl rfl) pm_M185 T4129.2.1 rfl (by decide) (Nat.lt_of_lt_of_le (by decide) T4129.1) rfl rfl (Nat.le_of_ble_eq_true rfl) rfl rfl ?_
                  have e4171 := (F4130.cell (by decide) (F4092.cell (by decide) (F4030.cell (by decide) (F4012.cell (by decide) (F3999.cell (by decide) (F3994.cell (by decide) (F3989.cell (by decide) (F3984.cell (by decide) (F3963.cell (by decide) e3)))))))))
                  refine rf_c185_d (d := d + 3) T4129 (⟨f2, e4171, ct4, fun z => (bd5 (sf_aux73 _ _ _ _ ek3969 ek4101 X4133 z))⟩) (fun _ g eg => by rw [e4170] at eg; cases eg; exact ⟨sf_eqL (Eq.trans (sf_upd_nec (k := Int32.toNatClampNeg 2) (j := Int32.toNatClampNeg 0) (by decide)) (Eq.trans (sf_upd_nec (k := Int32.toNatClampNeg 1) (j := Int32.toNatClampNeg 0) (by decide)) sf_upd_eq)) (sf_weak sf_k2 (by decide) (by decide)), sf_eqL (Eq.trans (sf_upd_nec (k := Int32.toNatClampNeg 2) (j := Int32.toNatClampNeg 1) (by decide)) sf_upd_eq) B4083, sf_eqL sf_upd_eq (sf_weak B4169 (by decide) (by decide))⟩) (fun m4174 w4175 h4176 T4177 F4178 W4179 X4180 => ?_)
                  have F4181 := F4159.trans F4178 (by decide)
                  have B4182 : sf_B 0 99 (m4174 21) := by rw [W4179 21 (by decide)]; exact B4160
                  have ek4183 : (m4174 21).toInt = ((m4026 21)).toInt := by rw [W4179 21 (by decide)]; exact ek4161
                  have B4184 : sf_B 0 600 (m4174 10) := by rw [W4179 10 (by decide)]; exact B4163
                  have ek4185 : (m4174 10).toInt = ((m4126 10)).toInt := by rw [W4179 10 (by decide)]
                  have B4186 : sf_B 0 4 (m4174 13) := by rw [W4179 13 (by decide)]; exact B4164
                  have ek4187 : (m4174 13).toInt = ((m4126 13)).toInt := by rw [W4179 13 (by decide)]
                  have B4188 : sf_B 0 4 (m4174 17) := by rw [W4179 17 (by decide)]; exact (sf_eqT X4133 B4100)
                  have ek4189 : (m4174 17).toInt = ((m4093 17)).toInt := by rw [W4179 17 (by decide)]; exact X4133
                  have B4190 : sf_B 0 1 (m4174 22) := by rw [W4179 22 (by decide)]; exact (sf_eqT X4134 B4102)
                  have ek4191 : (m4174 22).toInt = ((m4093 22)).toInt := by rw [W4179 22 (by decide)]; exact X4134
                  have W4192 : rf_W [10, 12, 13, 14, 16, 17, 18, 21, 22] m m4174 := W4162.trans W4179 (by decide)
                  show pm_R _ 189 236 [.ref 41, .long a0, pm_no, .int a1, pm_no] [] _ _
                  obtain ⟨f4193, e4194, ct4195, bd4196⟩ := X4180
                  refine pm_R_op pm_M189 (pc_q := 237) (st_q := [.int 1]) (pm_q189_2 (Nat.le_of_ble_eq_true rfl)) rfl rfl ?_
                  exact pm_R_ret pm_M189 (r := some (.int 1)) (pm_q189_2 (Nat.le_of_ble_eq_true rfl)) rfl (K1 m4174 w4175 h4176 T4177 F4181 W4192 (⟨f4193, e4194, ct4195, fun z => (bd4196 z)⟩) (sf_aux39 _ _ _ ek4185 R4167))
                · have F4197 := F4095.trans F4143 (by decide)
                  have B4198 : sf_B 0 99 (m4139 21) := by rw [W4144 21 (by decide)]; exact B4104
                  have ek4199 : (m4139 21).toInt = ((m4026 21)).toInt := by rw [W4144 21 (by decide)]; exact ek4105
                  have W4200 : rf_W [10, 12, 13, 14, 16, 17, 18, 21, 22] m m4139 := W4106.trans W4144 (by decide)
                  have B4201 : sf_B 0 600 (m4139 10) := T4142.2.2.1 10
                  have B4202 : sf_B 0 4 (m4139 13) := T4142.2.2.1 13
                  have B4203 : sf_B 0 4 (m4139 17) := T4142.2.2.1 17
                  have B4204 : sf_B 0 1 (m4139 22) := T4142.2.2.1 22
                  show pm_R _ 189 221 [.ref 41, .long a0, pm_no, .int a1, pm_no] [.int 1] _ _
                  have R4205 : (m 10).toInt ≤ (m4139 10).toInt := (sf_aux76 _ _ _ _ ek4097 R4081 X4147)
                  obtain ⟨v4206, B4207, e4208⟩ := X4145 _ e4114
                  refine pm_R_br pm_M189 (pc_q := 226) (st_q := []) (pm_q189_2 (Nat.le_of_ble_eq_true rfl)) rfl ?_
                  refine pm_R_lo pm_M189 (pc_q := 227) (pm_q189_2 (Nat.le_of_ble_eq_true rfl)) rfl rfl ?_
                  refine pm_R_op pm_M189 (pc_q := 228) (st_q := [.int 1, .ref 41]) (pm_q189_2 (Nat.le_of_ble_eq_true rfl)) rfl rfl ?_
                  refine pm_R_op pm_M189 (pc_q := 229) (st_q := [.int 2, .int 1, .ref 41]) (pm_q189_2 (Nat.le_of_ble_eq_true rfl)) rfl rfl ?_
                  refine pm_R_op pm_M189 (pc_q := 230) (st_q := [.int 3, .int 2, .int 1, .ref 41]) (pm_q189_2 (Nat.le_of_ble_eq_true rfl)) rfl rfl ?_
                  refine pm_R_op pm_M189 (pc_q := 232) (st_q := [.int 50, .int 3, .int 2, .int 1, .ref 41]) (pm_q189_2 (Nat.le_of_ble_eq_true rfl)) rfl rfl ?_
                  refine pm_R_op pm_M189 (pc_q := 233) (st_q := [.int 0, .int 50, .int 3, .int 2, .int 1, .ref 41]) (pm_q189_2 (Nat.le_of_ble_eq_true rfl)) rfl rfl ?_
                  refine pm_R_cv pm_M189 (pc_q := 236) (a := 41) (ra := [.int 0, .int 50, .int 3, .int 2, .int 1]) (rest := []) (ls_q := [.ref 41, .int 1, .int 2, .int 3, .int 50, .int 0, pm_no, pm_no]) (pm_q189_2 (Nat.le_of_ble_eq_true rfl)) rfl (Or.inl rfl) pm_M185 T4142.2.1 rfl (by decide) (Nat.lt_of_lt_of_le (by decide) T4142.1) rfl rfl (Nat.le_of_ble_eq_true rfl) rfl rfl ?_
                  have e4209 := (F4143.cell (by decide) (F4092.cell (by decide) (F4030.cell (by decide) (F4012.cell (by decide) (F3999.cell (by decide) (F3994.cell (by decide) (F3989.cell (by decide) (F3984.cell (by decide) (F3963.cell (by decide) e3)))))))))
                  refine rf_c185_d (d := d + 3) T4142 (⟨f2, e4209, ct4, fun z => (sf_pos B4148 (by decide) z)⟩) (fun z => sf_pos B4148 (by decide) z) (fun m4212 w4213 h4214 T4215 F4216 W4217 X4218 => ?_)
                  have F4219 := F4197.trans F4216 (by decide)
                  have B4220 : sf_B 0 99 (m4212 21) := by rw [W4217 21 (by decide)]; exact B4198
                  have ek4221 : (m4212 21).toInt = ((m4026 21)).toInt := by rw [W4217 21 (by decide)]; exact ek4199
                  have B4222 : sf_B 0 600 (m4212 10) := by rw [W4217 10 (by decide)]; exact B4201
                  have ek4223 : (m4212 10).toInt = ((m4139 10)).toInt := by rw [W4217 10 (by decide)]
                  have B4224 : sf_B 0 4 (m4212 13) := by rw [W4217 13 (by decide)]; exact B4202
                  have ek4225 : (m4212 13).toInt = ((m4139 13)).toInt := by rw [W4217 13 (by decide)]
                  have B4226 : sf_B 1 4 (m4212 17) := by rw [W4217 17 (by decide)]; exact B4148
                  have ek4227 : (m4212 17).toInt = ((m4139 17)).toInt := by rw [W4217 17 (by decide)]
                  have B4228 : sf_B 0 0 (m4212 22) := by rw [W4217 22 (by decide)]; exact B4149
                  have ek4229 : (m4212 22).toInt = ((m4139 22)).toInt := by rw [W4217 22 (by decide)]
                  have W4230 : rf_W [10, 12, 13, 14, 16, 17, 18, 21, 22] m m4212 := W4200.trans W4217 (by decide)
                  show pm_R _ 189 236 [.ref 41, .long a0, pm_no, .int a1, pm_no] [] _ _
                  obtain ⟨f4231, e4232, ct4233, bd4234⟩ := X4218
                  refine pm_R_op pm_M189 (pc_q := 237) (st_q := [.int 1]) (pm_q189_2 (Nat.le_of_ble_eq_true rfl)) rfl rfl ?_
                  exact pm_R_ret pm_M189 (r := some (.int 1)) (pm_q189_2 (Nat.le_of_ble_eq_true rfl)) rfl (K1 m4212 w4213 h4214 T4215 F4219 W4230 (⟨f4231, e4232, ct4233, fun z => (sf_pos B4226 (by decide) z)⟩) (sf_aux39 _ _ _ ek4223 R4205))
              · have B4235 : sf_B (-1) 4 (m4026 21) := sf_ltL (Int32.not_le.mp c4088) B4087 B4083
                refine pm_R_lo pm_M191 (pc_q := 27) rfl rfl rfl ?_
                refine rf_R_get pm_M191 T4029 (pc_q := 30) (v := .ref 52) rfl rfl rfl rfl ?_
                refine pm_R_lo pm_M191 (pc_q := 31) rfl rfl rfl ?_
                refine pm_R_iald pm_M191 (pc_q := 32) (v := v4082) rfl e4084 (Nat.lt_of_lt_of_le (by decide) T4029.1) rfl sf_upd_eq rfl ?_
                refine pm_R_br pm_M191 (pc_q := 39) rfl rfl ?_
                refine rf_R_put pm_M191 T4029 (pc_q := 42) rfl rfl rfl (by decide) rfl rfl (sf_weak B4083 (by decide) (by decide)) rfl rfl (fun h4238 m4241 em4242 T4239 F4240 => ?_)
                have F4243 := F4075.trans F4240 (by decide)
                have B4244 : sf_B 0 600 (m4241 10) := by rw [em4242]; exact B4077
                have ek4245 : (m4241 10).toInt = ((m4026 10)).toInt := by rw [em4242]; rfl
                have B4246 : sf_B 0 4 (m4241 13) := by rw [em4242]; exact B4078
                have ek4247 : (m4241 13).toInt = ((m4026 13)).toInt := by rw [em4242]; rfl
                have B4248 : sf_B 0 4 (m4241 17) := by rw [em4242]; exact (sf_eqT X4033 B3968)
                have ek4249 : (m4241 17).toInt = ((m3959 17)).toInt := by rw [em4242]; exact X4033
                have B4250 : sf_B 0 1 (m4241 22) := by rw [em4242]; exact (sf_eqT X4034 B3973)
                have ek4251 : (m4241 22).toInt = ((m3959 22)).toInt := by rw [em4242]; exact X4034
                have B4252 : sf_B 0 5 (m4241 21) := by rw [em4242]; exact B4083
                have ek4253 : (m4241 21).toInt = (v4082).toInt := by rw [em4242]; rfl
                have W4254 : rf_W [10, 12, 13, 14, 16, 17, 18, 21, 22] m m4241 := by rw [em4242]; exact W4076.put (by decide)
                refine pm_R_lo pm_M191 (pc_q := 43) rfl rfl rfl ?_
                refine pm_R_ret pm_M191 (r := some (.int 1)) rfl rfl ?_
                show pm_R _ 189 178 [.ref 41, .long a0, pm_no, .int a1, pm_no] [.int 1] _ _
                refine pm_R_br pm_M189 (pc_q := 183) (st_q := []) (pm_q189_1 (Nat.le_of_ble_eq_true rfl)) rfl ?_
                refine pm_R_lo pm_M189 (pc_q := 184) (pm_q189_1 (Nat.le_of_ble_eq_true rfl)) rfl rfl ?_
                refine pm_R_ldc2 pm_M189 (pc_q := 187) (pm_q189_1 (Nat.le_of_ble_eq_true rfl)) rfl rfl ?_
                refine pm_R_op pm_M189 (pc_q := 188) (st_q := [.int z342]) (pm_q189_1 (Nat.le_of_ble_eq_true rfl)) (by show some (Value.int (lg_cmp a0 1819242347) :: _) = _; rw [← e343]) rfl ?_
                refine pm_R_ifc pm_M189 (t := 205) (pc_q := 191) (pm_q189_1 (Nat.le_of_ble_eq_true rfl)) rfl rfl (fun c4257 => ?_) (fun c4257 => absurd (Classical.not_not.mp c4257) c344)
                have k4258 := sf_lneC e343 c4257
                refine pm_R_lo pm_M189 (pc_q := 206) (pm_q189_1 (Nat.le_of_ble_eq_true rfl)) rfl rfl ?_
                refine pm_R_ldc2 pm_M189 (pc_q := 209) (pm_q189_1 (Nat.le_of_ble_eq_true rfl)) rfl rfl ?_
                refine pm_R_op pm_M189 (pc_q := 210) (st_q := [.int z3944]) (pm_q189_1 (Nat.le_of_ble_eq_true rfl)) (by show some (Value.int (lg_cmp a0 1935767923) :: _) = _; rw [← e3945]) rfl ?_
                refine pm_R_ifc pm_M189 (t := 226) (pc_q := 213) (pm_q189_1 (Nat.le_of_ble_eq_true rfl)) rfl rfl (fun c4261 => absurd (sf_pt2 B3947 sf_k0) c4261) (fun c4261 => ?_)
                refine pm_R_lo pm_M189 (pc_q := 214) (pm_q189_1 (Nat.le_of_ble_eq_true rfl)) rfl rfl ?_
                refine pm_R_op pm_M189 (pc_q := 215) (st_q := [.int 2, .ref 41]) (pm_q189_1 (Nat.le_of_ble_eq_true rfl)) rfl rfl ?_
                refine pm_R_op pm_M189 (pc_q := 217) (st_q := [.int 9, .int 2, .ref 41]) (pm_q189_1 (Nat.le_of_ble_eq_true rfl)) rfl rfl ?_
                refine pm_R_op pm_M189 (pc_q := 218) (st_q := [.int (-1), .int 9, .int 2, .ref 41]) (pm_q189_1 (Nat.le_of_ble_eq_true rfl)) rfl rfl ?_
                refine pm_R_cv pm_M189 (pc_q := 221) (a := 41) (ra := [.int (-1), .int 9, .int 2]) (rest := []) (ls_q := [.ref 41, .int 2, .int 9, .int (-1)]) (pm_q189_2 (Nat.le_of_ble_eq_true rfl)) rfl (Or.inl rfl) pm_M183 T4239.2.1 rfl (by decide) (Nat.lt_of_lt_of_le (by decide) T4239.1) rfl rfl (Nat.le_of_ble_eq_true rfl) rfl rfl ?_
                have e4262 := (F4240.cell (by decide) e4084)
                refine rf_c183_2_9 (d := d + 1) T4239  (fun m4265 w4266 h4267 T4268 F4269 W4270 X4271 => ?_) (fun m4274 w4275 h4276 T4277 F4278 W4279 X4280 X4281 X4282 X4283 X4284 => ?_) (fun m4287 w4288 h4289 T4290 F4291 W4292 X4293 X4294 X4295 B4296 B4297 => ?_)
                · have F4298 := F4243.trans F4269 (by decide)
                  have B4299 : sf_B 0 5 (m4265 21) := by rw [W4270 21 (by decide)]; exact B4252
                  have ek4300 : (m4265 21).toInt = (v4082).toInt := by rw [W4270 21 (by decide)]; exact ek4253
                  have W4301 : rf_W [10, 12, 13, 14, 16, 17, 18, 21, 22] m m4265 := W4254.trans W4270 (by decide)
                  have B4302 : sf_B 0 600 (m4265 10) := T4268.2.2.1 10
                  have B4303 : sf_B 0 4 (m4265 13) := T4268.2.2.1 13
                  have B4304 : sf_B 0 4 (m4265 17) := T4268.2.2.1 17
                  have B4305 : sf_B 0 1 (m4265 22) := T4268.2.2.1 22
                  show pm_R _ 189 221 [.ref 41, .long a0, pm_no, .int a1, pm_no] [.int 0] _ _
                  have R4306 : (m 10).toInt ≤ (m4265 10).toInt := (sf_aux76 _ _ _ _ ek4245 R4081 X4271)
                  refine pm_R_br pm_M189 (pc_q := 224) (st_q := []) (pm_q189_2 (Nat.le_of_ble_eq_true rfl)) rfl ?_
                  refine pm_R_op pm_M189 (pc_q := 225) (st_q := [.int 0]) (pm_q189_2 (Nat.le_of_ble_eq_true rfl)) rfl rfl ?_
                  exact pm_R_ret pm_M189 (r := some (.int 0)) (pm_q189_2 (Nat.le_of_ble_eq_true rfl)) rfl (K0 m4265 w4266 h4267 T4268 F4298 W4301 (sf_aux51 _ _ R4306))
                · have F4307 := F4243.trans F4278 (by decide)
                  have B4308 : sf_B 0 5 (m4274 21) := by rw [W4279 21 (by decide)]; exact B4252
                  have ek4309 : (m4274 21).toInt = (v4082).toInt := by rw [W4279 21 (by decide)]; exact ek4253
                  have W4310 : rf_W [10, 12, 13, 14, 16, 17, 18, 21, 22] m m4274 := W4254.trans W4279 (by decide)
                  have B4311 : sf_B 0 600 (m4274 10) := T4277.2.2.1 10
                  have B4312 : sf_B 0 4 (m4274 13) := T4277.2.2.1 13
                  have B4313 : sf_B 0 4 (m4274 17) := T4277.2.2.1 17
                  have B4314 : sf_B 0 1 (m4274 22) := T4277.2.2.1 22
                  show pm_R _ 189 221 [.ref 41, .long a0, pm_no, .int a1, pm_no] [.int 1] _ _
                  have R4315 : (m 10).toInt ≤ (m4274 10).toInt := (sf_aux76 _ _ _ _ ek4245 R4081 X4284)
                  obtain ⟨v4316, B4317, e4318⟩ := X4280 _ e4262
                  refine pm_R_br pm_M189 (pc_q := 226) (st_q := []) (pm_q189_2 (Nat.le_of_ble_eq_true rfl)) rfl ?_
                  refine pm_R_lo pm_M189 (pc_q := 227) (pm_q189_2 (Nat.le_of_ble_eq_true rfl)) rfl rfl ?_
                  refine pm_R_op pm_M189 (pc_q := 228) (st_q := [.int 1, .ref 41]) (pm_q189_2 (Nat.le_of_ble_eq_true rfl)) rfl rfl ?_
                  refine pm_R_op pm_M189 (pc_q := 229) (st_q := [.int 2, .int 1, .ref 41]) (pm_q189_2 (Nat.le_of_ble_eq_true rfl)) rfl rfl ?_
                  refine pm_R_op pm_M189 (pc_q := 230) (st_q := [.int 3, .int 2, .int 1, .ref 41]) (pm_q189_2 (Nat.le_of_ble_eq_true rfl)) rfl rfl ?_
                  refine pm_R_op pm_M189 (pc_q := 232) (st_q := [.int 50, .int 3, .int 2, .int 1, .ref 41]) (pm_q189_2 (Nat.le_of_ble_eq_true rfl)) rfl rfl ?_
                  refine pm_R_op pm_M189 (pc_q := 233) (st_q := [.int 0, .int 50, .int 3, .int 2, .int 1, .ref 41]) (pm_q189_2 (Nat.le_of_ble_eq_true rfl)) rfl rfl ?_
                  refine pm_R_cv pm_M189 (pc_q := 236) (a := 41) (ra := [.int 0, .int 50, .int 3, .int 2, .int 1]) (rest := []) (ls_q := [.ref 41, .int 1, .int 2, .int 3, .int 50, .int 0, pm_no, pm_no]) (pm_q189_2 (Nat.le_of_ble_eq_true rfl)) rfl (Or.inl rfl) pm_M185 T4277.2.1 rfl (by decide) (Nat.lt_of_lt_of_le (by decide) T4277.1) rfl rfl (Nat.le_of_ble_eq_true rfl) rfl rfl ?_
                  have e4319 := (F4278.cell (by decide) (F4240.cell (by decide) (F4030.cell (by decide) (F4012.cell (by decide) (F3999.cell (by decide) (F3994.cell (by decide) (F3989.cell (by decide) (F3984.cell (by decide) (F3963.cell (by decide) e3)))))))))
                  refine rf_c185_d (d := d + 3) T4277 (⟨f2, e4319, ct4, fun z => (bd5 (sf_aux73 _ _ _ _ ek3969 ek4249 X4281 z))⟩) (fun _ g eg => by rw [e4318] at eg; cases eg; exact ⟨sf_eqL (Eq.trans (sf_upd_nec (k := Int32.toNatClampNeg 2) (j := Int32.toNatClampNeg 0) (by decide)) (Eq.trans (sf_upd_nec (k := Int32.toNatClampNeg 1) (j := Int32.toNatClampNeg 0) (by decide)) sf_upd_eq)) (sf_weak sf_k2 (by decide) (by decide)), sf_eqL (Eq.trans (sf_upd_nec (k := Int32.toNatClampNeg 2) (j := Int32.toNatClampNeg 1) (by decide)) sf_upd_eq) B4083, sf_eqL sf_upd_eq (sf_weak B4317 (by decide) (by decide))⟩) (fun m4322 w4323 h4324 T4325 F4326 W4327 X4328 => ?_)
                  have F4329 := F4307.trans F4326 (by decide)
                  have B4330 : sf_B 0 5 (m4322 21) := by rw [W4327 21 (by decide)]; exact B4308
                  have ek4331 : (m4322 21).toInt = (v4082).toInt := by rw [W4327 21 (by decide)]; exact ek4309
                  have B4332 : sf_B 0 600 (m4322 10) := by rw [W4327 10 (by decide)]; exact B4311
                  have ek4333 : (m4322 10).toInt = ((m4274 10)).toInt := by rw [W4327 10 (by decide)]
                  have B4334 : sf_B 0 4 (m4322 13) := by rw [W4327 13 (by decide)]; exact B4312
                  have ek4335 : (m4322 13).toInt = ((m4274 13)).toInt := by rw [W4327 13 (by decide)]
                  have B4336 : sf_B 0 4 (m4322 17) := by rw [W4327 17 (by decide)]; exact (sf_eqT X4281 B4248)
                  have ek4337 : (m4322 17).toInt = ((m4241 17)).toInt := by rw [W4327 17 (by decide)]; exact X4281
                  have B4338 : sf_B 0 1 (m4322 22) := by rw [W4327 22 (by decide)]; exact (sf_eqT X4282 B4250)
                  have ek4339 : (m4322 22).toInt = ((m4241 22)).toInt := by rw [W4327 22 (by decide)]; exact X4282
                  have W4340 : rf_W [10, 12, 13, 14, 16, 17, 18, 21, 22] m m4322 := W4310.trans W4327 (by decide)
                  show pm_R _ 189 236 [.ref 41, .long a0, pm_no, .int a1, pm_no] [] _ _
                  obtain ⟨f4341, e4342, ct4343, bd4344⟩ := X4328
                  refine pm_R_op pm_M189 (pc_q := 237) (st_q := [.int 1]) (pm_q189_2 (Nat.le_of_ble_eq_true rfl)) rfl rfl ?_
                  exact pm_R_ret pm_M189 (r := some (.int 1)) (pm_q189_2 (Nat.le_of_ble_eq_true rfl)) rfl (K1 m4322 w4323 h4324 T4325 F4329 W4340 (⟨f4341, e4342, ct4343, fun z => (bd4344 z)⟩) (sf_aux39 _ _ _ ek4333 R4315))
                · have F4345 := F4243.trans F4291 (by decide)
                  have B4346 : sf_B 0 5 (m4287 21) := by rw [W4292 21 (by decide)]; exact B4252
                  have ek4347 : (m4287 21).toInt = (v4082).toInt := by rw [W4292 21 (by decide)]; exact ek4253
                  have W4348 : rf_W [10, 12, 13, 14, 16, 17, 18, 21, 22] m m4287 := W4254.trans W4292 (by decide)
                  have B4349 : sf_B 0 600 (m4287 10) := T4290.2.2.1 10
                  have B4350 : sf_B 0 4 (m4287 13) := T4290.2.2.1 13
                  have B4351 : sf_B 0 4 (m4287 17) := T4290.2.2.1 17
                  have B4352 : sf_B 0 1 (m4287 22) := T4290.2.2.1 22
                  show pm_R _ 189 221 [.ref 41, .long a0, pm_no, .int a1, pm_no] [.int 1] _ _
                  have R4353 : (m 10).toInt ≤ (m4287 10).toInt := (sf_aux76 _ _ _ _ ek4245 R4081 X4295)
                  obtain ⟨v4354, B4355, e4356⟩ := X4293 _ e4262
                  refine pm_R_br pm_M189 (pc_q := 226) (st_q := []) (pm_q189_2 (Nat.le_of_ble_eq_true rfl)) rfl ?_
                  refine pm_R_lo pm_M189 (pc_q := 227) (pm_q189_2 (Nat.le_of_ble_eq_true rfl)) rfl rfl ?_
                  refine pm_R_op pm_M189 (pc_q := 228) (st_q := [.int 1, .ref 41]) (pm_q189_2 (Nat.le_of_ble_eq_true rfl)) rfl rfl ?_
                  refine pm_R_op pm_M189 (pc_q := 229) (st_q := [.int 2, .int 1, .ref 41]) (pm_q189_2 (Nat.le_of_ble_eq_true rfl)) rfl rfl ?_
                  refine pm_R_op pm_M189 (pc_q := 230) (st_q := [.int 3, .int 2, .int 1, .ref 41]) (pm_q189_2 (Nat.le_of_ble_eq_true rfl)) rfl rfl ?_
                  refine pm_R_op pm_M189 (pc_q := 232) (st_q := [.int 50, .int 3, .int 2, .int 1, .ref 41]) (pm_q189_2 (Nat.le_of_ble_eq_true rfl)) rfl rfl ?_
                  refine pm_R_op pm_M189 (pc_q := 233) (st_q := [.int 0, .int 50, .int 3, .int 2, .int 1, .ref 41]) (pm_q189_2 (Nat.le_of_ble_eq_true rfl)) rfl rfl ?_
                  refine pm_R_cv pm_M189 (pc_q := 236) (a := 41) (ra := [.int 0, .int 50, .int 3, .int 2, .int 1]) (rest := []) (ls_q := [.ref 41, .int 1, .int 2, .int 3, .int 50, .int 0, pm_no, pm_no]) (pm_q189_2 (Nat.le_of_ble_eq_true rfl)) rfl (Or.inl rfl) pm_M185 T4290.2.1 rfl (by decide) (Nat.lt_of_lt_of_le (by decide) T4290.1) rfl rfl (Nat.le_of_ble_eq_true rfl) rfl rfl ?_
                  have e4357 := (F4291.cell (by decide) (F4240.cell (by decide) (F4030.cell (by decide) (F4012.cell (by decide) (F3999.cell (by decide) (F3994.cell (by decide) (F3989.cell (by decide) (F3984.cell (by decide) (F3963.cell (by decide) e3)))))))))
                  refine rf_c185_d (d := d + 3) T4290 (⟨f2, e4357, ct4, fun z => (sf_pos B4296 (by decide) z)⟩) (fun z => sf_pos B4296 (by decide) z) (fun m4360 w4361 h4362 T4363 F4364 W4365 X4366 => ?_)
                  have F4367 := F4345.trans F4364 (by decide)
                  have B4368 : sf_B 0 5 (m4360 21) := by rw [W4365 21 (by decide)]; exact B4346
                  have ek4369 : (m4360 21).toInt = (v4082).toInt := by rw [W4365 21 (by decide)]; exact ek4347
                  have B4370 : sf_B 0 600 (m4360 10) := by rw [W4365 10 (by decide)]; exact B4349
                  have ek4371 : (m4360 10).toInt = ((m4287 10)).toInt := by rw [W4365 10 (by decide)]
                  have B4372 : sf_B 0 4 (m4360 13) := by rw [W4365 13 (by decide)]; exact B4350
                  have ek4373 : (m4360 13).toInt = ((m4287 13)).toInt := by rw [W4365 13 (by decide)]
                  have B4374 : sf_B 1 4 (m4360 17) := by rw [W4365 17 (by decide)]; exact B4296
                  have ek4375 : (m4360 17).toInt = ((m4287 17)).toInt := by rw [W4365 17 (by decide)]
                  have B4376 : sf_B 0 0 (m4360 22) := by rw [W4365 22 (by decide)]; exact B4297
                  have ek4377 : (m4360 22).toInt = ((m4287 22)).toInt := by rw [W4365 22 (by decide)]
                  have W4378 : rf_W [10, 12, 13, 14, 16, 17, 18, 21, 22] m m4360 := W4348.trans W4365 (by decide)
                  show pm_R _ 189 236 [.ref 41, .long a0, pm_no, .int a1, pm_no] [] _ _
                  obtain ⟨f4379, e4380, ct4381, bd4382⟩ := X4366
                  refine pm_R_op pm_M189 (pc_q := 237) (st_q := [.int 1]) (pm_q189_2 (Nat.le_of_ble_eq_true rfl)) rfl rfl ?_
                  exact pm_R_ret pm_M189 (r := some (.int 1)) (pm_q189_2 (Nat.le_of_ble_eq_true rfl)) rfl (K1 m4360 w4361 h4362 T4363 F4367 W4378 (⟨f4379, e4380, ct4381, fun z => (sf_pos B4374 (by decide) z)⟩) (sf_aux39 _ _ _ ek4371 R4353))
            · have F4383 := F4014.trans F4043 (by decide)
              have W4384 : rf_W [10, 12, 13, 14, 16, 17, 18, 21, 22] m m4039 := W3970.trans W4044 (by decide)
              have B4385 : sf_B 0 600 (m4039 10) := T4042.2.2.1 10
              have B4386 : sf_B 0 4 (m4039 13) := T4042.2.2.1 13
              have B4387 : sf_B 0 4 (m4039 17) := T4042.2.2.1 17
              have B4388 : sf_B 0 1 (m4039 22) := T4042.2.2.1 22
              show pm_R _ 191 7 [.ref 41, .int 1, .int (-1), pm_no] [.int 1] _ _
              have R4389 : (m 10).toInt ≤ (m4039 10).toInt := (sf_aux70 _ _ _ R3974 X4047)
              obtain ⟨v4390, B4391, e4392⟩ := X4045 _ e4013
              refine pm_R_lo pm_M191 (pc_q := 8) (ls_q := [.ref 41, .int 1, .int (-1), .int 1]) (st_q := []) rfl rfl rfl ?_
              refine pm_R_lo pm_M191 (pc_q := 9) rfl rfl rfl ?_
              refine pm_R_lo pm_M191 (pc_q := 10) rfl rfl rfl ?_
              refine pm_R_br pm_M191 (pc_q := 13) (st_q := [.ref 41]) rfl rfl ?_
              refine pm_R_lo pm_M191 (pc_q := 14) rfl rfl rfl ?_
              refine rf_R_get pm_M191 T4042 (pc_q := 17) (v := .ref 52) rfl rfl rfl rfl ?_
              refine pm_R_lo pm_M191 (pc_q := 18) rfl rfl rfl ?_
              refine pm_R_iald pm_M191 (pc_q := 19) (v := v4390) rfl e4392 (Nat.lt_of_lt_of_le (by decide) T4042.1) rfl sf_upd_eq rfl ?_
              refine pm_R_lo pm_M191 (pc_q := 20) rfl rfl rfl ?_
              have B4395 : sf_B (-1) 99 (m4039 21) := T4042.2.2.1 21
              refine rf_R_get pm_M191 T4042 (pc_q := 23) (v := .int (m4039 21)) rfl rfl rfl rfl ?_
              refine pm_R_icmp pm_M191 (t := 35) (pc_q := 26) rfl rfl rfl (fun c4396 => ?_) (fun c4396 => ?_)
              · have B4397 : sf_B 0 99 (m4039 21) := sf_leR c4396 B4391 B4395
                refine pm_R_lo pm_M191 (pc_q := 36) rfl rfl rfl ?_
                refine rf_R_get pm_M191 T4042 (pc_q := 39) (v := .int (m4039 21)) rfl rfl rfl rfl ?_
                refine rf_R_put pm_M191 T4042 (pc_q := 42) rfl rfl rfl (by decide) rfl rfl (sf_weak B4397 (by decide) (by decide)) rfl rfl (fun h4398 m4401 em4402 T4399 F4400 => ?_)
                have F4403 := F4383.trans F4400 (by decide)
                have B4404 : sf_B 0 600 (m4401 10) := by rw [em4402]; exact B4385
                have ek4405 : (m4401 10).toInt = ((m4039 10)).toInt := by rw [em4402]; rfl
                have B4406 : sf_B 0 4 (m4401 13) := by rw [em4402]; exact B4386
                have ek4407 : (m4401 13).toInt = ((m4039 13)).toInt := by rw [em4402]; rfl
                have B4408 : sf_B 1 4 (m4401 17) := by rw [em4402]; exact B4048
                have ek4409 : (m4401 17).toInt = ((m4039 17)).toInt := by rw [em4402]; rfl
                have B4410 : sf_B 0 0 (m4401 22) := by rw [em4402]; exact B4049
                have ek4411 : (m4401 22).toInt = ((m4039 22)).toInt := by rw [em4402]; rfl
                have B4412 : sf_B 0 99 (m4401 21) := by rw [em4402]; exact B4397
                have ek4413 : (m4401 21).toInt = ((m4039 21)).toInt := by rw [em4402]; rfl
                have W4414 : rf_W [10, 12, 13, 14, 16, 17, 18, 21, 22] m m4401 := by rw [em4402]; exact W4384.put (by decide)
                refine pm_R_lo pm_M191 (pc_q := 43) rfl rfl rfl ?_
                refine pm_R_ret pm_M191 (r := some (.int 1)) rfl rfl ?_
                show pm_R _ 189 178 [.ref 41, .long a0, pm_no, .int a1, pm_no] [.int 1] _ _
                refine pm_R_br pm_M189 (pc_q := 183) (st_q := []) (pm_q189_1 (Nat.le_of_ble_eq_true rfl)) rfl ?_
                refine pm_R_lo pm_M189 (pc_q := 184) (pm_q189_1 (Nat.le_of_ble_eq_true rfl)) rfl rfl ?_
                refine pm_R_ldc2 pm_M189 (pc_q := 187) (pm_q189_1 (Nat.le_of_ble_eq_true rfl)) rfl rfl ?_
                refine pm_R_op pm_M189 (pc_q := 188) (st_q := [.int z342]) (pm_q189_1 (Nat.le_of_ble_eq_true rfl)) (by show some (Value.int (lg_cmp a0 1819242347) :: _) = _; rw [← e343]) rfl ?_
                refine pm_R_ifc pm_M189 (t := 205) (pc_q := 191) (pm_q189_1 (Nat.le_of_ble_eq_true rfl)) rfl rfl (fun c4417 => ?_) (fun c4417 => absurd (Classical.not_not.mp c4417) c344)
                have k4418 := sf_lneC e343 c4417
                refine pm_R_lo pm_M189 (pc_q := 206) (pm_q189_1 (Nat.le_of_ble_eq_true rfl)) rfl rfl ?_
                refine pm_R_ldc2 pm_M189 (pc_q := 209) (pm_q189_1 (Nat.le_of_ble_eq_true rfl)) rfl rfl ?_
                refine pm_R_op pm_M189 (pc_q := 210) (st_q := [.int z3944]) (pm_q189_1 (Nat.le_of_ble_eq_true rfl)) (by show some (Value.int (lg_cmp a0 1935767923) :: _) = _; rw [← e3945]) rfl ?_
                refine pm_R_ifc pm_M189 (t := 226) (pc_q := 213) (pm_q189_1 (Nat.le_of_ble_eq_true rfl)) rfl rfl (fun c4421 => absurd (sf_pt2 B3947 sf_k0) c4421) (fun c4421 => ?_)
                refine pm_R_lo pm_M189 (pc_q := 214) (pm_q189_1 (Nat.le_of_ble_eq_true rfl)) rfl rfl ?_
                refine pm_R_op pm_M189 (pc_q := 215) (st_q := [.int 2, .ref 41]) (pm_q189_1 (Nat.le_of_ble_eq_true rfl)) rfl rfl ?_
                refine pm_R_op pm_M189 (pc_q := 217) (st_q := [.int 9, .int 2, .ref 41]) (pm_q189_1 (Nat.le_of_ble_eq_true rfl)) rfl rfl ?_
                refine pm_R_op pm_M189 (pc_q := 218) (st_q := [.int (-1), .int 9, .int 2, .ref 41]) (pm_q189_1 (Nat.le_of_ble_eq_true rfl)) rfl rfl ?_
                refine pm_R_cv pm_M189 (pc_q := 221) (a := 41) (ra := [.int (-1), .int 9, .int 2]) (rest := []) (ls_q := [.ref 41, .int 2, .int 9, .int (-1)]) (pm_q189_2 (Nat.le_of_ble_eq_true rfl)) rfl (Or.inl rfl) pm_M183 T4399.2.1 rfl (by decide) (Nat.lt_of_lt_of_le (by decide) T4399.1) rfl rfl (Nat.le_of_ble_eq_true rfl) rfl rfl ?_
                have e4422 := (F4400.cell (by decide) e4392)
                refine rf_c183_2_9 (d := d + 1) T4399  (fun m4425 w4426 h4427 T4428 F4429 W4430 X4431 => ?_) (fun m4434 w4435 h4436 T4437 F4438 W4439 X4440 X4441 X4442 X4443 X4444 => ?_) (fun m4447 w4448 h4449 T4450 F4451 W4452 X4453 X4454 X4455 B4456 B4457 => ?_)
                · have F4458 := F4403.trans F4429 (by decide)
                  have B4459 : sf_B 0 99 (m4425 21) := by rw [W4430 21 (by decide)]; exact B4412
                  have ek4460 : (m4425 21).toInt = ((m4039 21)).toInt := by rw [W4430 21 (by decide)]; exact ek4413
                  have W4461 : rf_W [10, 12, 13, 14, 16, 17, 18, 21, 22] m m4425 := W4414.trans W4430 (by decide)
                  have B4462 : sf_B 0 600 (m4425 10) := T4428.2.2.1 10
                  have B4463 : sf_B 0 4 (m4425 13) := T4428.2.2.1 13
                  have B4464 : sf_B 0 4 (m4425 17) := T4428.2.2.1 17
                  have B4465 : sf_B 0 1 (m4425 22) := T4428.2.2.1 22
                  show pm_R _ 189 221 [.ref 41, .long a0, pm_no, .int a1, pm_no] [.int 0] _ _
                  have R4466 : (m 10).toInt ≤ (m4425 10).toInt := (sf_aux76 _ _ _ _ ek4405 R4389 X4431)
                  refine pm_R_br pm_M189 (pc_q := 224) (st_q := []) (pm_q189_2 (Nat.le_of_ble_eq_true rfl)) rfl ?_
                  refine pm_R_op pm_M189 (pc_q := 225) (st_q := [.int 0]) (pm_q189_2 (Nat.le_of_ble_eq_true rfl)) rfl rfl ?_
                  exact pm_R_ret pm_M189 (r := some (.int 0)) (pm_q189_2 (Nat.le_of_ble_eq_true rfl)) rfl (K0 m4425 w4426 h4427 T4428 F4458 W4461 (sf_aux51 _ _ R4466))
                · have F4467 := F4403.trans F4438 (by decide)
                  have B4468 : sf_B 0 99 (m4434 21) := by rw [W4439 21 (by decide)]; exact B4412
                  have ek4469 : (m4434 21).toInt = ((m4039 21)).toInt := by rw [W4439 21 (by decide)]; exact ek4413
                  have W4470 : rf_W [10, 12, 13, 14, 16, 17, 18, 21, 22] m m4434 := W4414.trans W4439 (by decide)
                  have B4471 : sf_B 0 600 (m4434 10) := T4437.2.2.1 10
                  have B4472 : sf_B 0 4 (m4434 13) := T4437.2.2.1 13
                  have B4473 : sf_B 0 4 (m4434 17) := T4437.2.2.1 17
                  have B4474 : sf_B 0 1 (m4434 22) := T4437.2.2.1 22
                  show pm_R _ 189 221 [.ref 41, .long a0, pm_no, .int a1, pm_no] [.int 1] _ _
                  have R4475 : (m 10).toInt ≤ (m4434 10).toInt := (sf_aux76 _ _ _ _ ek4405 R4389 X4444)
                  obtain ⟨v4476, B4477, e4478⟩ := X4440 _ e4422
                  refine pm_R_br pm_M189 (pc_q := 226) (st_q := []) (pm_q189_2 (Nat.le_of_ble_eq_true rfl)) rfl ?_
                  refine pm_R_lo pm_M189 (pc_q := 227) (pm_q189_2 (Nat.le_of_ble_eq_true rfl)) rfl rfl ?_
                  refine pm_R_op pm_M189 (pc_q := 228) (st_q := [.int 1, .ref 41]) (pm_q189_2 (Nat.le_of_ble_eq_true rfl)) rfl rfl ?_
                  refine pm_R_op pm_M189 (pc_q := 229) (st_q := [.int 2, .int 1, .ref 41]) (pm_q189_2 (Nat.le_of_ble_eq_true rfl)) rfl rfl ?_
                  refine pm_R_op pm_M189 (pc_q := 230) (st_q := [.int 3, .int 2, .int 1, .ref 41]) (pm_q189_2 (Nat.le_of_ble_eq_true rfl)) rfl rfl ?_
                  refine pm_R_op pm_M189 (pc_q := 232) (st_q := [.int 50, .int 3, .int 2, .int 1, .ref 41]) (pm_q189_2 (Nat.le_of_ble_eq_true rfl)) rfl rfl ?_
                  refine pm_R_op pm_M189 (pc_q := 233) (st_q := [.int 0, .int 50, .int 3, .int 2, .int 1, .ref 41]) (pm_q189_2 (Nat.le_of_ble_eq_true rfl)) rfl rfl ?_
                  refine pm_R_cv pm_M189 (pc_q := 236) (a := 41) (ra := [.int 0, .int 50, .int 3, .int 2, .int 1]) (rest := []) (ls_q := [.ref 41, .int 1, .int 2, .int 3, .int 50, .int 0, pm_no, pm_no]) (pm_q189_2 (Nat.le_of_ble_eq_true rfl)) rfl (Or.inl rfl) pm_M185 T4437.2.1 rfl (by decide) (Nat.lt_of_lt_of_le (by decide) T4437.1) rfl rfl (Nat.le_of_ble_eq_true rfl) rfl rfl ?_
                  have e4479 := (F4438.cell (by decide) (F4400.cell (by decide) (F4043.cell (by decide) (F4012.cell (by decide) (F3999.cell (by decide) (F3994.cell (by decide) (F3989.cell (by decide) (F3984.cell (by decide) (F3963.cell (by decide) e3)))))))))
                  refine rf_c185_d (d := d + 3) T4437 (⟨f2, e4479, ct4, fun z => (sf_pos (sf_eqT X4441 B4408) (by decide) z)⟩) (fun z => sf_pos (sf_eqT X4441 B4408) (by decide) z) (fun m4482 w4483 h4484 T4485 F4486 W4487 X4488 => ?_)
                  have F4489 := F4467.trans F4486 (by decide)
                  have B4490 : sf_B 0 99 (m4482 21) := by rw [W4487 21 (by decide)]; exact B4468
                  have ek4491 : (m4482 21).toInt = ((m4039 21)).toInt := by rw [W4487 21 (by decide)]; exact ek4469
                  have B4492 : sf_B 0 600 (m4482 10) := by rw [W4487 10 (by decide)]; exact B4471
                  have ek4493 : (m4482 10).toInt = ((m4434 10)).toInt := by rw [W4487 10 (by decide)]
                  have B4494 : sf_B 0 4 (m4482 13) := by rw [W4487 13 (by decide)]; exact B4472
                  have ek4495 : (m4482 13).toInt = ((m4434 13)).toInt := by rw [W4487 13 (by decide)]
                  have B4496 : sf_B 1 4 (m4482 17) := by rw [W4487 17 (by decide)]; exact (sf_eqT X4441 B4408)
                  have ek4497 : (m4482 17).toInt = ((m4401 17)).toInt := by rw [W4487 17 (by decide)]; exact X4441
                  have B4498 : sf_B 0 0 (m4482 22) := by rw [W4487 22 (by decide)]; exact (sf_eqT X4442 B4410)
                  have ek4499 : (m4482 22).toInt = ((m4401 22)).toInt := by rw [W4487 22 (by decide)]; exact X4442
                  have W4500 : rf_W [10, 12, 13, 14, 16, 17, 18, 21, 22] m m4482 := W4470.trans W4487 (by decide)
                  show pm_R _ 189 236 [.ref 41, .long a0, pm_no, .int a1, pm_no] [] _ _
                  obtain ⟨f4501, e4502, ct4503, bd4504⟩ := X4488
                  refine pm_R_op pm_M189 (pc_q := 237) (st_q := [.int 1]) (pm_q189_2 (Nat.le_of_ble_eq_true rfl)) rfl rfl ?_
                  exact pm_R_ret pm_M189 (r := some (.int 1)) (pm_q189_2 (Nat.le_of_ble_eq_true rfl)) rfl (K1 m4482 w4483 h4484 T4485 F4489 W4500 (⟨f4501, e4502, ct4503, fun z => (sf_pos B4496 (by decide) z)⟩) (sf_aux39 _ _ _ ek4493 R4475))
                · have F4505 := F4403.trans F4451 (by decide)
                  have B4506 : sf_B 0 99 (m4447 21) := by rw [W4452 21 (by decide)]; exact B4412
                  have ek4507 : (m4447 21).toInt = ((m4039 21)).toInt := by rw [W4452 21 (by decide)]; exact ek4413
                  have W4508 : rf_W [10, 12, 13, 14, 16, 17, 18, 21, 22] m m4447 := W4414.trans W4452 (by decide)
                  have B4509 : sf_B 0 600 (m4447 10) := T4450.2.2.1 10
                  have B4510 : sf_B 0 4 (m4447 13) := T4450.2.2.1 13
                  have B4511 : sf_B 0 4 (m4447 17) := T4450.2.2.1 17
                  have B4512 : sf_B 0 1 (m4447 22) := T4450.2.2.1 22
                  show pm_R _ 189 221 [.ref 41, .long a0, pm_no, .int a1, pm_no] [.int 1] _ _
                  have R4513 : (m 10).toInt ≤ (m4447 10).toInt := (sf_aux76 _ _ _ _ ek4405 R4389 X4455)
                  obtain ⟨v4514, B4515, e4516⟩ := X4453 _ e4422
                  refine pm_R_br pm_M189 (pc_q := 226) (st_q := []) (pm_q189_2 (Nat.le_of_ble_eq_true rfl)) rfl ?_
                  refine pm_R_lo pm_M189 (pc_q := 227) (pm_q189_2 (Nat.le_of_ble_eq_true rfl)) rfl rfl ?_
                  refine pm_R_op pm_M189 (pc_q := 228) (st_q := [.int 1, .ref 41]) (pm_q189_2 (Nat.le_of_ble_eq_true rfl)) rfl rfl ?_
                  refine pm_R_op pm_M189 (pc_q := 229) (st_q := [.int 2, .int 1, .ref 41]) (pm_q189_2 (Nat.le_of_ble_eq_true rfl)) rfl rfl ?_
                  refine pm_R_op pm_M189 (pc_q := 230) (st_q := [.int 3, .int 2, .int 1, .ref 41]) (pm_q189_2 (Nat.le_of_ble_eq_true rfl)) rfl rfl ?_
                  refine pm_R_op pm_M189 (pc_q := 232) (st_q := [.int 50, .int 3, .int 2, .int 1, .ref 41]) (pm_q189_2 (Nat.le_of_ble_eq_true rfl)) rfl rfl ?_
                  refine pm_R_op pm_M189 (pc_q := 233) (st_q := [.int 0, .int 50, .int 3, .int 2, .int 1, .ref 41]) (pm_q189_2 (Nat.le_of_ble_eq_true rfl)) rfl rfl ?_
                  refine pm_R_cv pm_M189 (pc_q := 236) (a := 41) (ra := [.int 0, .int 50, .int 3, .int 2, .int 1]) (rest := []) (ls_q := [.ref 41, .int 1, .int 2, .int 3, .int 50, .int 0, pm_no, pm_no]) (pm_q189_2 (Nat.le_of_ble_eq_true rfl)) rfl (Or.inl rfl) pm_M185 T4450.2.1 rfl (by decide) (Nat.lt_of_lt_of_le (by decide) T4450.1) rfl rfl (Nat.le_of_ble_eq_true rfl) rfl rfl ?_
                  have e4517 := (F4451.cell (by decide) (F4400.cell (by decide) (F4043.cell (by decide) (F4012.cell (by decide) (F3999.cell (by decide) (F3994.cell (by decide) (F3989.cell (by decide) (F3984.cell (by decide) (F3963.cell (by decide) e3)))))))))
                  refine rf_c185_d (d := d + 3) T4450 (⟨f2, e4517, ct4, fun z => (sf_pos B4456 (by decide) z)⟩) (fun z => sf_pos B4456 (by decide) z) (fun m4520 w4521 h4522 T4523 F4524 W4525 X4526 => ?_)
                  have F4527 := F4505.trans F4524 (by decide)
                  have B4528 : sf_B 0 99 (m4520 21) := by rw [W4525 21 (by decide)]; exact B4506
                  have ek4529 : (m4520 21).toInt = ((m4039 21)).toInt := by rw [W4525 21 (by decide)]; exact ek4507
                  have B4530 : sf_B 0 600 (m4520 10) := by rw [W4525 10 (by decide)]; exact B4509
                  have ek4531 : (m4520 10).toInt = ((m4447 10)).toInt := by rw [W4525 10 (by decide)]
                  have B4532 : sf_B 0 4 (m4520 13) := by rw [W4525 13 (by decide)]; exact B4510
                  have ek4533 : (m4520 13).toInt = ((m4447 13)).toInt := by rw [W4525 13 (by decide)]
                  have B4534 : sf_B 1 4 (m4520 17) := by rw [W4525 17 (by decide)]; exact B4456
                  have ek4535 : (m4520 17).toInt = ((m4447 17)).toInt := by rw [W4525 17 (by decide)]
                  have B4536 : sf_B 0 0 (m4520 22) := by rw [W4525 22 (by decide)]; exact B4457
                  have ek4537 : (m4520 22).toInt = ((m4447 22)).toInt := by rw [W4525 22 (by decide)]
                  have W4538 : rf_W [10, 12, 13, 14, 16, 17, 18, 21, 22] m m4520 := W4508.trans W4525 (by decide)
                  show pm_R _ 189 236 [.ref 41, .long a0, pm_no, .int a1, pm_no] [] _ _
                  obtain ⟨f4539, e4540, ct4541, bd4542⟩ := X4526
                  refine pm_R_op pm_M189 (pc_q := 237) (st_q := [.int 1]) (pm_q189_2 (Nat.le_of_ble_eq_true rfl)) rfl rfl ?_
                  exact pm_R_ret pm_M189 (r := some (.int 1)) (pm_q189_2 (Nat.le_of_ble_eq_true rfl)) rfl (K1 m4520 w4521 h4522 T4523 F4527 W4538 (⟨f4539, e4540, ct4541, fun z => (sf_pos B4534 (by decide) z)⟩) (sf_aux39 _ _ _ ek4531 R4513))
              · have B4543 : sf_B (-1) 98 (m4039 21) := sf_ltL (Int32.not_le.mp c4396) B4395 B4391
                refine pm_R_lo pm_M191 (pc_q := 27) rfl rfl rfl ?_
                refine rf_R_get pm_M191 T4042 (pc_q := 30) (v := .ref 52) rfl rfl rfl rfl ?_
                refine pm_R_lo pm_M191 (pc_q := 31) rfl rfl rfl ?_
                refine pm_R_iald pm_M191 (pc_q := 32) (v := v4390) rfl e4392 (Nat.lt_of_lt_of_le (by decide) T4042.1) rfl sf_upd_eq rfl ?_
                refine pm_R_br pm_M191 (pc_q := 39) rfl rfl ?_
                refine rf_R_put pm_M191 T4042 (pc_q := 42) rfl rfl rfl (by decide) rfl rfl (sf_weak B4391 (by decide) (by decide)) rfl rfl (fun h4546 m4549 em4550 T4547 F4548 => ?_)
                have F4551 := F4383.trans F4548 (by decide)
                have B4552 : sf_B 0 600 (m4549 10) := by rw [em4550]; exact B4385
                have ek4553 : (m4549 10).toInt = ((m4039 10)).toInt := by rw [em4550]; rfl
                have B4554 : sf_B 0 4 (m4549 13) := by rw [em4550]; exact B4386
                have ek4555 : (m4549 13).toInt = ((m4039 13)).toInt := by rw [em4550]; rfl
                have B4556 : sf_B 1 4 (m4549 17) := by rw [em4550]; exact B4048
                have ek4557 : (m4549 17).toInt = ((m4039 17)).toInt := by rw [em4550]; rfl
                have B4558 : sf_B 0 0 (m4549 22) := by rw [em4550]; exact B4049
                have ek4559 : (m4549 22).toInt = ((m4039 22)).toInt := by rw [em4550]; rfl
                have B4560 : sf_B 0 99 (m4549 21) := by rw [em4550]; exact B4391
                have ek4561 : (m4549 21).toInt = (v4390).toInt := by rw [em4550]; rfl
                have W4562 : rf_W [10, 12, 13, 14, 16, 17, 18, 21, 22] m m4549 := by rw [em4550]; exact W4384.put (by decide)
                refine pm_R_lo pm_M191 (pc_q := 43) rfl rfl rfl ?_
                refine pm_R_ret pm_M191 (r := some (.int 1)) rfl rfl ?_
                show pm_R _ 189 178 [.ref 41, .long a0, pm_no, .int a1, pm_no] [.int 1] _ _
                refine pm_R_br pm_M189 (pc_q := 183) (st_q := []) (pm_q189_1 (Nat.le_of_ble_eq_true rfl)) rfl ?_
                refine pm_R_lo pm_M189 (pc_q := 184) (pm_q189_1 (Nat.le_of_ble_eq_true rfl)) rfl rfl ?_
                refine pm_R_ldc2 pm_M189 (pc_q := 187) (pm_q189_1 (Nat.le_of_ble_eq_true rfl)) rfl rfl ?_
                refine pm_R_op pm_M189 (pc_q := 188) (st_q := [.int z342]) (pm_q189_1 (Nat.le_of_ble_eq_true rfl)) (by show some (Value.int (lg_cmp a0 1819242347) :: _) = _; rw [← e343]) rfl ?_
                refine pm_R_ifc pm_M189 (t := 205) (pc_q := 191) (pm_q189_1 (Nat.le_of_ble_eq_true rfl)) rfl rfl (fun c4565 => ?_) (fun c4565 => absurd (Classical.not_not.mp c4565) c344)
                have k4566 := sf_lneC e343 c4565
                refine pm_R_lo pm_M189 (pc_q := 206) (pm_q189_1 (Nat.le_of_ble_eq_true rfl)) rfl rfl ?_
                refine pm_R_ldc2 pm_M189 (pc_q := 209) (pm_q189_1 (Nat.le_of_ble_eq_true rfl)) rfl rfl ?_
                refine pm_R_op pm_M189 (pc_q := 210) (st_q := [.int z3944]) (pm_q189_1 (Nat.le_of_ble_eq_true rfl)) (by show some (Value.int (lg_cmp a0 1935767923) :: _) = _; rw [← e3945]) rfl ?_
                refine pm_R_ifc pm_M189 (t := 226) (pc_q := 213) (pm_q189_1 (Nat.le_of_ble_eq_true rfl)) rfl rfl (fun c4569 => absurd (sf_pt2 B3947 sf_k0) c4569) (fun c4569 => ?_)
                refine pm_R_lo pm_M189 (pc_q := 214) (pm_q189_1 (Nat.le_of_ble_eq_true rfl)) rfl rfl ?_
                refine pm_R_op pm_M189 (pc_q := 215) (st_q := [.int 2, .ref 41]) (pm_q189_1 (Nat.le_of_ble_eq_true rfl)) rfl rfl ?_
                refine pm_R_op pm_M189 (pc_q := 217) (st_q := [.int 9, .int 2, .ref 41]) (pm_q189_1 (Nat.le_of_ble_eq_true rfl)) rfl rfl ?_
                refine pm_R_op pm_M189 (pc_q := 218) (st_q := [.int (-1), .int 9, .int 2, .ref 41]) (pm_q189_1 (Nat.le_of_ble_eq_true rfl)) rfl rfl ?_
                refine pm_R_cv pm_M189 (pc_q := 221) (a := 41) (ra := [.int (-1), .int 9, .int 2]) (rest := []) (ls_q := [.ref 41, .int 2, .int 9, .int (-1)]) (pm_q189_2 (Nat.le_of_ble_eq_true rfl)) rfl (Or.inl rfl) pm_M183 T4547.2.1 rfl (by decide) (Nat.lt_of_lt_of_le (by decide) T4547.1) rfl rfl (Nat.le_of_ble_eq_true rfl) rfl rfl ?_
                have e4570 := (F4548.cell (by decide) e4392)
                refine rf_c183_2_9 (d := d + 1) T4547  (fun m4573 w4574 h4575 T4576 F4577 W4578 X4579 => ?_) (fun m4582 w4583 h4584 T4585 F4586 W4587 X4588 X4589 X4590 X4591 X4592 => ?_) (fun m4595 w4596 h4597 T4598 F4599 W4600 X4601 X4602 X4603 B4604 B4605 => ?_)
                · have F4606 := F4551.trans F4577 (by decide)
                  have B4607 : sf_B 0 99 (m4573 21) := by rw [W4578 21 (by decide)]; exact B4560
                  have ek4608 : (m4573 21).toInt = (v4390).toInt := by rw [W4578 21 (by decide)]; exact ek4561
                  have W4609 : rf_W [10, 12, 13, 14, 16, 17, 18, 21, 22] m m4573 := W4562.trans W4578 (by decide)
                  have B4610 : sf_B 0 600 (m4573 10) := T4576.2.2.1 10
                  have B4611 : sf_B 0 4 (m4573 13) := T4576.2.2.1 13
                  have B4612 : sf_B 0 4 (m4573 17) := T4576.2.2.1 17
                  have B4613 : sf_B 0 1 (m4573 22) := T4576.2.2.1 22
                  show pm_R _ 189 221 [.ref 41, .long a0, pm_no, .int a1, pm_no] [.int 0] _ _
                  have R4614 : (m 10).toInt ≤ (m4573 10).toInt := (sf_aux76 _ _ _ _ ek4553 R4389 X4579)
                  refine pm_R_br pm_M189 (pc_q := 224) (st_q := []) (pm_q189_2 (Nat.le_of_ble_eq_true rfl)) rfl ?_
                  refine pm_R_op pm_M189 (pc_q := 225) (st_q := [.int 0]) (pm_q189_2 (Nat.le_of_ble_eq_true rfl)) rfl rfl ?_
                  exact pm_R_ret pm_M189 (r := some (.int 0)) (pm_q189_2 (Nat.le_of_ble_eq_true rfl)) rfl (K0 m4573 w4574 h4575 T4576 F4606 W4609 (sf_aux51 _ _ R4614))
                · have F4615 := F4551.trans F4586 (by decide)
                  have B4616 : sf_B 0 99 (m4582 21) := by rw [W4587 21 (by decide)]; exact B4560
                  have ek4617 : (m4582 21).toInt = (v4390).toInt := by rw [W4587 21 (by decide)]; exact ek4561
                  have W4618 : rf_W [10, 12, 13, 14, 16, 17, 18, 21, 22] m m4582 := W4562.trans W4587 (by decide)
                  have B4619 : sf_B 0 600 (m4582 10) := T4585.2.2.1 10
                  have B4620 : sf_B 0 4 (m4582 13) := T4585.2.2.1 13
                  have B4621 : sf_B 0 4 (m4582 17) := T4585.2.2.1 17
                  have B4622 : sf_B 0 1 (m4582 22) := T4585.2.2.1 22
                  show pm_R _ 189 221 [.ref 41, .long a0, pm_no, .int a1, pm_no] [.int 1] _ _
                  have R4623 : (m 10).toInt ≤ (m4582 10).toInt := (sf_aux76 _ _ _ _ ek4553 R4389 X4592)
                  obtain ⟨v4624, B4625, e4626⟩ := X4588 _ e4570
                  refine pm_R_br pm_M189 (pc_q := 226) (st_q := []) (pm_q189_2 (Nat.le_of_ble_eq_true rfl)) rfl ?_
                  refine pm_R_lo pm_M189 (pc_q := 227) (pm_q189_2 (Nat.le_of_ble_eq_true rfl)) rfl rfl ?_
                  refine pm_R_op pm_M189 (pc_q := 228) (st_q := [.int 1, .ref 41]) (pm_q189_2 (Nat.le_of_ble_eq_true rfl)) rfl rfl ?_
                  refine pm_R_op pm_M189 (pc_q := 229) (st_q := [.int 2, .int 1, .ref 41]) (pm_q189_2 (Nat.le_of_ble_eq_true rfl)) rfl rfl ?_
                  refine pm_R_op pm_M189 (pc_q := 230) (st_q := [.int 3, .int 2, .int 1, .ref 41]) (pm_q189_2 (Nat.le_of_ble_eq_true rfl)) rfl rfl ?_
                  refine pm_R_op pm_M189 (pc_q := 232) (st_q := [.int 50, .int 3, .int 2, .int 1, .ref 41]) (pm_q189_2 (Nat.le_of_ble_eq_true rfl)) rfl rfl ?_
                  refine pm_R_op pm_M189 (pc_q := 233) (st_q := [.int 0, .int 50, .int 3, .int 2, .int 1, .ref 41]) (pm_q189_2 (Nat.le_of_ble_eq_true rfl)) rfl rfl ?_
                  refine pm_R_cv pm_M189 (pc_q := 236) (a := 41) (ra := [.int 0, .int 50, .int 3, .int 2, .int 1]) (rest := []) (ls_q := [.ref 41, .int 1, .int 2, .int 3, .int 50, .int 0, pm_no, pm_no]) (pm_q189_2 (Nat.le_of_ble_eq_true rfl)) rfl (Or.inl rfl) pm_M185 T4585.2.1 rfl (by decide) (Nat.lt_of_lt_of_le (by decide) T4585.1) rfl rfl (Nat.le_of_ble_eq_true rfl) rfl rfl ?_
                  have e4627 := (F4586.cell (by decide) (F4548.cell (by decide) (F4043.cell (by decide) (F4012.cell (by decide) (F3999.cell (by decide) (F3994.cell (by decide) (F3989.cell (by decide) (F3984.cell (by decide) (F3963.cell (by decide) e3)))))))))
                  refine rf_c185_d (d := d + 3) T4585 (⟨f2, e4627, ct4, fun z => (sf_pos (sf_eqT X4589 B4556) (by decide) z)⟩) (fun z => sf_pos (sf_eqT X4589 B4556) (by decide) z) (fun m4630 w4631 h4632 T4633 F4634 W4635 X4636 => ?_)
                  have F4637 := F4615.trans F4634 (by decide)
                  have B4638 : sf_B 0 99 (m4630 21) := by rw [W4635 21 (by decide)]; exact B4616
                  have ek4639 : (m4630 21).toInt = (v4390).toInt := by rw [W4635 21 (by decide)]; exact ek4617
                  have B4640 : sf_B 0 600 (m4630 10) := by rw [W4635 10 (by decide)]; exact B4619
                  have ek4641 : (m4630 10).toInt = ((m4582 10)).toInt := by rw [W4635 10 (by decide)]
                  have B4642 : sf_B 0 4 (m4630 13) := by rw [W4635 13 (by decide)]; exact B4620
                  have ek4643 : (m4630 13).toInt = ((m4582 13)).toInt := by rw [W4635 13 (by decide)]
                  have B4644 : sf_B 1 4 (m4630 17) := by rw [W4635 17 (by decide)]; exact (sf_eqT X4589 B4556)
                  have ek4645 : (m4630 17).toInt = ((m4549 17)).toInt := by rw [W4635 17 (by decide)]; exact X4589
                  have B4646 : sf_B 0 0 (m4630 22) := by rw [W4635 22 (by decide)]; exact (sf_eqT X4590 B4558)
                  have ek4647 : (m4630 22).toInt = ((m4549 22)).toInt := by rw [W4635 22 (by decide)]; exact X4590
                  have W4648 : rf_W [10, 12, 13, 14, 16, 17, 18, 21, 22] m m4630 := W4618.trans W4635 (by decide)
                  show pm_R _ 189 236 [.ref 41, .long a0, pm_no, .int a1, pm_no] [] _ _
                  obtain ⟨f4649, e4650, ct4651, bd4652⟩ := X4636
                  refine pm_R_op pm_M189 (pc_q := 237) (st_q := [.int 1]) (pm_q189_2 (Nat.le_of_ble_eq_true rfl)) rfl rfl ?_
                  exact pm_R_ret pm_M189 (r := some (.int 1)) (pm_q189_2 (Nat.le_of_ble_eq_true rfl)) rfl (K1 m4630 w4631 h4632 T4633 F4637 W4648 (⟨f4649, e4650, ct4651, fun z => (sf_pos B4644 (by decide) z)⟩) (sf_aux39 _ _ _ ek4641 R4623))
                · have F4653 := F4551.trans F4599 (by decide)
                  have B4654 : sf_B 0 99 (m4595 21) := by rw [W4600 21 (by decide)]; exact B4560
                  have ek4655 : (m4595 21).toInt = (v4390).toInt := by rw [W4600 21 (by decide)]; exact ek4561
                  have W4656 : rf_W [10, 12, 13, 14, 16, 17, 18, 21, 22] m m4595 := W4562.trans W4600 (by decide)
                  have B4657 : sf_B 0 600 (m4595 10) := T4598.2.2.1 10
                  have B4658 : sf_B 0 4 (m4595 13) := T4598.2.2.1 13
                  have B4659 : sf_B 0 4 (m4595 17) := T4598.2.2.1 17
                  have B4660 : sf_B 0 1 (m4595 22) := T4598.2.2.1 22
                  show pm_R _ 189 221 [.ref 41, .long a0, pm_no, .int a1, pm_no] [.int 1] _ _
                  have R4661 : (m 10).toInt ≤ (m4595 10).toInt := (sf_aux76 _ _ _ _ ek4553 R4389 X4603)
                  obtain ⟨v4662, B4663, e4664⟩ := X4601 _ e4570
                  refine pm_R_br pm_M189 (pc_q := 226) (st_q := []) (pm_q189_2 (Nat.le_of_ble_eq_true rfl)) rfl ?_
                  refine pm_R_lo pm_M189 (pc_q := 227) (pm_q189_2 (Nat.le_of_ble_eq_true rfl)) rfl rfl ?_
                  refine pm_R_op pm_M189 (pc_q := 228) (st_q := [.int 1, .ref 41]) (pm_q189_2 (Nat.le_of_ble_eq_true rfl)) rfl rfl ?_
                  refine pm_R_op pm_M189 (pc_q := 229) (st_q := [.int 2, .int 1, .ref 41]) (pm_q189_2 (Nat.le_of_ble_eq_true rfl)) rfl rfl ?_
                  refine pm_R_op pm_M189 (pc_q := 230) (st_q := [.int 3, .int 2, .int 1, .ref 41]) (pm_q189_2 (Nat.le_of_ble_eq_true rfl)) rfl rfl ?_
                  refine pm_R_op pm_M189 (pc_q := 232) (st_q := [.int 50, .int 3, .int 2, .int 1, .ref 41]) (pm_q189_2 (Nat.le_of_ble_eq_true rfl)) rfl rfl ?_
                  refine pm_R_op pm_M189 (pc_q := 233) (st_q := [.int 0, .int 50, .int 3, .int 2, .int 1, .ref 41]) (pm_q189_2 (Nat.le_of_ble_eq_true rfl)) rfl rfl ?_
                  refine pm_R_cv pm_M189 (pc_q := 236) (a := 41) (ra := [.int 0, .int 50, .int 3, .int 2, .int 1]) (rest := []) (ls_q := [.ref 41, .int 1, .int 2, .int 3, .int 50, .int 0, pm_no, pm_no]) (pm_q189_2 (Nat.le_of_ble_eq_true rfl)) rfl (Or.inl rfl) pm_M185 T4598.2.1 rfl (by decide) (Nat.lt_of_lt_of_le (by decide) T4598.1) rfl rfl (Nat.le_of_ble_eq_true rfl) rfl rfl ?_
                  have e4665 := (F4599.cell (by decide) (F4548.cell (by decide) (F4043.cell (by decide) (F4012.cell (by decide) (F3999.cell (by decide) (F3994.cell (by decide) (F3989.cell (by decide) (F3984.cell (by decide) (F3963.cell (by decide) e3)))))))))
                  refine rf_c185_d (d := d + 3) T4598 (⟨f2, e4665, ct4, fun z => (sf_pos B4604 (by decide) z)⟩) (fun z => sf_pos B4604 (by decide) z) (fun m4668 w4669 h4670 T4671 F4672 W4673 X4674 => ?_)
                  have F4675 := F4653.trans F4672 (by decide)
                  have B4676 : sf_B 0 99 (m4668 21) := by rw [W4673 21 (by decide)]; exact B4654
                  have ek4677 : (m4668 21).toInt = (v4390).toInt := by rw [W4673 21 (by decide)]; exact ek4655
                  have B4678 : sf_B 0 600 (m4668 10) := by rw [W4673 10 (by decide)]; exact B4657
                  have ek4679 : (m4668 10).toInt = ((m4595 10)).toInt := by rw [W4673 10 (by decide)]
                  have B4680 : sf_B 0 4 (m4668 13) := by rw [W4673 13 (by decide)]; exact B4658
                  have ek4681 : (m4668 13).toInt = ((m4595 13)).toInt := by rw [W4673 13 (by decide)]
                  have B4682 : sf_B 1 4 (m4668 17) := by rw [W4673 17 (by decide)]; exact B4604
                  have ek4683 : (m4668 17).toInt = ((m4595 17)).toInt := by rw [W4673 17 (by decide)]
                  have B4684 : sf_B 0 0 (m4668 22) := by rw [W4673 22 (by decide)]; exact B4605
                  have ek4685 : (m4668 22).toInt = ((m4595 22)).toInt := by rw [W4673 22 (by decide)]
                  have W4686 : rf_W [10, 12, 13, 14, 16, 17, 18, 21, 22] m m4668 := W4656.trans W4673 (by decide)
                  show pm_R _ 189 236 [.ref 41, .long a0, pm_no, .int a1, pm_no] [] _ _
                  obtain ⟨f4687, e4688, ct4689, bd4690⟩ := X4674
                  refine pm_R_op pm_M189 (pc_q := 237) (st_q := [.int 1]) (pm_q189_2 (Nat.le_of_ble_eq_true rfl)) rfl rfl ?_
                  exact pm_R_ret pm_M189 (r := some (.int 1)) (pm_q189_2 (Nat.le_of_ble_eq_true rfl)) rfl (K1 m4668 w4669 h4670 T4671 F4675 W4686 (⟨f4687, e4688, ct4689, fun z => (sf_pos B4682 (by decide) z)⟩) (sf_aux39 _ _ _ ek4679 R4661))
          · have B4691 : sf_B 50 50 (f2 1) := sf_eqL (Classical.not_not.mp c3955) sf_k50
            refine pm_R_lo pm_M189 (pc_q := 57) rfl rfl rfl ?_
            refine pm_R_op pm_M189 (pc_q := 58) (st_q := [.int 3, .ref 41]) rfl rfl rfl ?_
            refine pm_R_lo pm_M189 (pc_q := 59) rfl rfl rfl ?_
            refine pm_R_cv pm_M189 (pc_q := 62) (a := 41) (ra := [.int a1, .int 3]) (rest := []) (ls_q := [.ref 41, .int 3, .int a1]) rfl rfl (Or.inl rfl) pm_M182 T.2.1 rfl (by decide) (Nat.lt_of_lt_of_le (by decide) T.1) rfl rfl (Nat.le_of_ble_eq_true rfl) rfl rfl ?_
            refine rf_c182 (d := d + 3) T (sf_weak sf_k3 (by decide) (by decide)) Ba1 (fun m4694 w4695 h4696 T4697 F4698 W4699 B4700 => ?_)
            have F4701 := (rf_G.refl [41, 51, 52] h).trans F4698 (by decide)
            have B4702 : sf_B 0 600 (m4694 10) := by rw [W4699 10 (by decide)]; exact B1
            have ek4703 : (m4694 10).toInt = ((m 10)).toInt := by rw [W4699 10 (by decide)]
            have W4704 : rf_W [10, 12, 13, 14, 16, 17, 18, 21, 22] m m4694 := (rf_W.refl [10, 12, 13, 14, 16, 17, 18, 21, 22] m).trans W4699 (by decide)
            have B4705 : sf_B 0 4 (m4694 13) := T4697.2.2.1 13
            have B4706 : sf_B 0 4 (m4694 17) := T4697.2.2.1 17
            have B4707 : sf_B 0 1 (m4694 22) := T4697.2.2.1 22
            show pm_R _ 189 62 [.ref 41, .long a0, pm_no, .int a1, pm_no] [] _ _
            refine pm_R_lo pm_M189 (pc_q := 63) rfl rfl rfl ?_
            refine pm_R_cv pm_M189 (pc_q := 66) (a := 41) (ra := []) (rest := []) (ls_q := [.ref 41, pm_no, pm_no]) rfl rfl (Or.inl rfl) pm_M179 T4697.2.1 rfl (by decide) (Nat.lt_of_lt_of_le (by decide) T4697.1) rfl rfl (Nat.le_of_ble_eq_true rfl) rfl rfl ?_
            refine rf_c179 (d := d + 2) T4697  (fun m4710 w4711 h4712 T4713 F4714 W4715 X4716 X4717 => ?_)
            have F4718 := F4701.trans F4714 (by decide)
            have B4719 : sf_B 1 4 (m4710 17) := by rw [W4715 17 (by decide)]; exact B4700
            have ek4720 : (m4710 17).toInt = ((m4694 17)).toInt := by rw [W4715 17 (by decide)]
            have B4721 : sf_B 0 1 (m4710 22) := by rw [W4715 22 (by decide)]; exact B4707
            have ek4722 : (m4710 22).toInt = ((m4694 22)).toInt := by rw [W4715 22 (by decide)]
            have W4723 : rf_W [10, 12, 13, 14, 16, 17, 18, 21, 22] m m4710 := W4704.trans W4715 (by decide)
            have B4724 : sf_B 0 600 (m4710 10) := T4713.2.2.1 10
            have B4725 : sf_B 0 4 (m4710 13) := T4713.2.2.1 13
            show pm_R _ 189 66 [.ref 41, .long a0, pm_no, .int a1, pm_no] [] _ _
            have R4726 : (m 10).toInt ≤ (m4710 10).toInt := (sf_aux53 _ _ _ ek4703 X4716)
            refine pm_R_lo pm_M189 (pc_q := 67) rfl rfl rfl ?_
            refine pm_R_ldc2 pm_M189 (pc_q := 70) rfl rfl rfl ?_
            refine pm_R_op pm_M189 (pc_q := 71) (st_q := [.int z7]) rfl (by show some (Value.int (lg_cmp a0 495622124659) :: _) = _; rw [← e8]) rfl ?_
            refine pm_R_ifc pm_M189 (t := 137) (pc_q := 74) rfl rfl rfl (fun c4729 => ?_) (fun c4729 => absurd (Classical.not_not.mp c4729) c9)
            have k4730 := sf_lneC e8 c4729
            refine pm_R_lo pm_M189 (pc_q := 138) (pm_q189_1 (Nat.le_of_ble_eq_true rfl)) rfl rfl ?_
            refine pm_R_cv pm_M189 (pc_q := 141) (a := 41) (ra := []) (rest := []) (ls_q := [.ref 41, pm_no]) (pm_q189_1 (Nat.le_of_ble_eq_true rfl)) rfl (Or.inl rfl) pm_M190 T4713.2.1 rfl (by decide) (Nat.lt_of_lt_of_le (by decide) T4713.1) rfl rfl (Nat.le_of_ble_eq_true rfl) rfl rfl ?_
            refine pm_R_op pm_M190 (pc_q := 1) (st_q := [.int 0]) rfl rfl rfl ?_
            refine pm_R_lo pm_M190 (pc_q := 2) (ls_q := [.ref 41, .int 0]) (st_q := []) rfl rfl rfl ?_
            refine pm_R_lo pm_M190 (pc_q := 3) rfl rfl rfl ?_
            refine pm_R_op pm_M190 (pc_q := 4) (st_q := [.int 4, .int 0]) rfl rfl rfl ?_
            refine pm_R_br pm_M190 (pc_q := 7) (st_q := []) rfl rfl ?_
            refine pm_R_lo pm_M190 (pc_q := 8) rfl rfl rfl ?_
            refine rf_R_get pm_M190 T4713 (pc_q := 11) (v := .ref 52) rfl rfl rfl rfl ?_
            refine pm_R_lo pm_M190 (pc_q := 12) rfl rfl rfl ?_
            refine pm_R_op pm_M190 (pc_q := 13) (st_q := [.int (-1), .int 0, .ref 52]) rfl rfl rfl ?_
            obtain ⟨f4731, e4732, b4733⟩ := T4713.2.2.2.1 52 (by decide) (by decide)
            refine rf_R_ist pm_M190 T4713 (pc_q := 14) rfl e4732 (by decide) (by decide) rfl ⟨_, rfl, sf_upd b4733 (sf_weak sf_kn1 (by decide) (by decide)) _⟩ rfl (fun h4734 T4735 F4736 e4737 => ?_)
            have F4738 := F4718.trans F4736 (by decide)
            refine pm_R_lo pm_M190 (pc_q := 17) (ls_q := [.ref 41, .int 1]) (st_q := []) rfl rfl rfl ?_
            refine pm_R_br pm_M190 (pc_q := 2) rfl rfl ?_
            refine pm_R_lo pm_M190 (pc_q := 3) rfl rfl rfl ?_
            refine pm_R_op pm_M190 (pc_q := 4) (st_q := [.int 4, .int 1]) rfl rfl rfl ?_
            refine pm_R_br pm_M190 (pc_q := 7) (st_q := []) rfl rfl ?_
            refine pm_R_lo pm_M190 (pc_q := 8) rfl rfl rfl ?_
            refine rf_R_get pm_M190 T4735 (pc_q := 11) (v := .ref 52) rfl rfl rfl rfl ?_
            refine pm_R_lo pm_M190 (pc_q := 12) rfl rfl rfl ?_
            refine pm_R_op pm_M190 (pc_q := 13) (st_q := [.int (-1), .int 1, .ref 52]) rfl rfl rfl ?_
            refine rf_R_ist pm_M190 T4735 (pc_q := 14) rfl e4737 (by decide) (by decide) rfl ⟨_, rfl, sf_upd (sf_upd b4733 (sf_weak sf_kn1 (by decide) (by decide)) _) (sf_weak sf_kn1 (by decide) (by decide)) _⟩ rfl (fun h4739 T4740 F4741 e4742 => ?_)
            have F4743 := F4738.trans F4741 (by decide)
            refine pm_R_lo pm_M190 (pc_q := 17) (ls_q := [.ref 41, .int 2]) (st_q := []) rfl rfl rfl ?_
            refine pm_R_br pm_M190 (pc_q := 2) rfl rfl ?_
            refine pm_R_lo pm_M190 (pc_q := 3) rfl rfl rfl ?_
            refine pm_R_op pm_M190 (pc_q := 4) (st_q := [.int 4, .int 2]) rfl rfl rfl ?_
            refine pm_R_br pm_M190 (pc_q := 7) (st_q := []) rfl rfl ?_
            refine pm_R_lo pm_M190 (pc_q := 8) rfl rfl rfl ?_
            refine rf_R_get pm_M190 T4740 (pc_q := 11) (v := .ref 52) rfl rfl rfl rfl ?_
            refine pm_R_lo pm_M190 (pc_q := 12) rfl rfl rfl ?_
            refine pm_R_op pm_M190 (pc_q := 13) (st_q := [.int (-1), .int 2, .ref 52]) rfl rfl rfl ?_
            refine rf_R_ist pm_M190 T4740 (pc_q := 14) rfl e4742 (by decide) (by decide) rfl ⟨_, rfl, sf_upd (sf_upd (sf_upd b4733 (sf_weak sf_kn1 (by decide) (by decide)) _) (sf_weak sf_kn1 (by decide) (by decide)) _) (sf_weak sf_kn1 (by decide) (by decide)) _⟩ rfl (fun h4744 T4745 F4746 e4747 => ?_)
            have F4748 := F4743.trans F4746 (by decide)
            refine pm_R_lo pm_M190 (pc_q := 17) (ls_q := [.ref 41, .int 3]) (st_q := []) rfl rfl rfl ?_
            refine pm_R_br pm_M190 (pc_q := 2) rfl rfl ?_
            refine pm_R_lo pm_M190 (pc_q := 3) rfl rfl rfl ?_
            refine pm_R_op pm_M190 (pc_q := 4) (st_q := [.int 4, .int 3]) rfl rfl rfl ?_
            refine pm_R_br pm_M190 (pc_q := 7) (st_q := []) rfl rfl ?_
            refine pm_R_lo pm_M190 (pc_q := 8) rfl rfl rfl ?_
            refine rf_R_get pm_M190 T4745 (pc_q := 11) (v := .ref 52) rfl rfl rfl rfl ?_
            refine pm_R_lo pm_M190 (pc_q := 12) rfl rfl rfl ?_
            refine pm_R_op pm_M190 (pc_q := 13) (st_q := [.int (-1), .int 3, .ref 52]) rfl rfl rfl ?_
            refine rf_R_ist pm_M190 T4745 (pc_q := 14) rfl e4747 (by decide) (by decide) rfl ⟨_, rfl, sf_upd (sf_upd (sf_upd (sf_upd b4733 (sf_weak sf_kn1 (by decide) (by decide)) _) (sf_weak sf_kn1 (by decide) (by decide)) _) (sf_weak sf_kn1 (by decide) (by decide)) _) (sf_weak sf_kn1 (by decide) (by decide)) _⟩ rfl (fun h4749 T4750 F4751 e4752 => ?_)
            have F4753 := F4748.trans F4751 (by decide)
            refine pm_R_lo pm_M190 (pc_q := 17) (ls_q := [.ref 41, .int 4]) (st_q := []) rfl rfl rfl ?_
            refine pm_R_br pm_M190 (pc_q := 2) rfl rfl ?_
            refine pm_R_lo pm_M190 (pc_q := 3) rfl rfl rfl ?_
            refine pm_R_op pm_M190 (pc_q := 4) (st_q := [.int 4, .int 4]) rfl rfl rfl ?_
            refine pm_R_br pm_M190 (pc_q := 20) (st_q := []) rfl rfl ?_
            refine pm_R_ret pm_M190 (r := none) rfl rfl ?_
            show pm_R _ 189 141 [.ref 41, .long a0, pm_no, .int a1, pm_no] [] _ _
            refine pm_R_lo pm_M189 (pc_q := 142) (pm_q189_1 (Nat.le_of_ble_eq_true rfl)) rfl rfl ?_
            refine rf_R_get pm_M189 T4750 (pc_q := 145) (v := .ref 52) (pm_q189_1 (Nat.le_of_ble_eq_true rfl)) rfl rfl rfl ?_
            refine pm_R_op pm_M189 (pc_q := 146) (st_q := [.int 0, .ref 52]) (pm_q189_1 (Nat.le_of_ble_eq_true rfl)) rfl rfl ?_
            refine pm_R_lo pm_M189 (pc_q := 147) (pm_q189_1 (Nat.le_of_ble_eq_true rfl)) rfl rfl ?_
            refine pm_R_ldc2 pm_M189 (pc_q := 150) (pm_q189_1 (Nat.le_of_ble_eq_true rfl)) rfl rfl ?_
            refine pm_R_op pm_M189 (pc_q := 151) (st_q := [.int z342, .int 0, .ref 52]) (pm_q189_1 (Nat.le_of_ble_eq_true rfl)) (by show some (Value.int (lg_cmp a0 1819242347) :: _) = _; rw [← e343]) rfl ?_
            refine pm_R_ifc pm_M189 (t := 158) (pc_q := 154) (pm_q189_1 (Nat.le_of_ble_eq_true rfl)) rfl rfl (fun c4756 => ?_) (fun c4756 => absurd (Classical.not_not.mp c4756) c344)
            have k4757 := sf_lneC e343 c4756
            refine pm_R_lo pm_M189 (pc_q := 159) (pm_q189_1 (Nat.le_of_ble_eq_true rfl)) rfl rfl ?_
            refine pm_R_ldc2 pm_M189 (pc_q := 162) (pm_q189_1 (Nat.le_of_ble_eq_true rfl)) rfl rfl ?_
            refine pm_R_op pm_M189 (pc_q := 163) (st_q := [.int z3188, .int 0, .ref 52]) (pm_q189_1 (Nat.le_of_ble_eq_true rfl)) (by show some (Value.int (lg_cmp a0 1635213689) :: _) = _; rw [← e3189]) rfl ?_
            refine pm_R_ifc pm_M189 (t := 170) (pc_q := 166) (pm_q189_1 (Nat.le_of_ble_eq_true rfl)) rfl rfl (fun c4760 => ?_) (fun c4760 => absurd (Classical.not_not.mp c4760) c3190)
            have k4761 := sf_lneC e3189 c4760
            refine pm_R_op pm_M189 (pc_q := 171) (st_q := [.int 2, .int 0, .ref 52]) (pm_q189_1 (Nat.le_of_ble_eq_true rfl)) rfl rfl ?_
            refine rf_R_ist pm_M189 T4750 (pc_q := 172) (pm_q189_1 (Nat.le_of_ble_eq_true rfl)) e4752 (by decide) (by decide) rfl ⟨_, rfl, sf_upd (sf_upd (sf_upd (sf_upd (sf_upd b4733 (sf_weak sf_kn1 (by decide) (by decide)) _) (sf_weak sf_kn1 (by decide) (by decide)) _) (sf_weak sf_kn1 (by decide) (by decide)) _) (sf_weak sf_kn1 (by decide) (by decide)) _) (sf_weak sf_k2 (by decide) (by decide)) _⟩ rfl (fun h4762 T4763 F4764 e4765 => ?_)
            have F4766 := F4753.trans F4764 (by decide)
            refine pm_R_lo pm_M189 (pc_q := 173) (pm_q189_1 (Nat.le_of_ble_eq_true rfl)) rfl rfl ?_
            refine pm_R_op pm_M189 (pc_q := 174) (st_q := [.int 1, .ref 41]) (pm_q189_1 (Nat.le_of_ble_eq_true rfl)) rfl rfl ?_
            refine pm_R_op pm_M189 (pc_q := 175) (st_q := [.int (-1), .int 1, .ref 41]) (pm_q189_1 (Nat.le_of_ble_eq_true rfl)) rfl rfl ?_
            refine pm_R_cv pm_M189 (pc_q := 178) (a := 41) (ra := [.int (-1), .int 1]) (rest := []) (ls_q := [.ref 41, .int 1, .int (-1), pm_no]) (pm_q189_1 (Nat.le_of_ble_eq_true rfl)) rfl (Or.inl rfl) pm_M191 T4763.2.1 rfl (by decide) (Nat.lt_of_lt_of_le (by decide) T4763.1) rfl rfl (Nat.le_of_ble_eq_true rfl) rfl rfl ?_
            refine pm_R_lo pm_M191 (pc_q := 1) rfl rfl rfl ?_
            refine pm_R_lo pm_M191 (pc_q := 2) rfl rfl rfl ?_
            refine pm_R_op pm_M191 (pc_q := 3) (st_q := [.int 5, .int 1, .ref 41]) rfl rfl rfl ?_
            refine pm_R_lo pm_M191 (pc_q := 4) rfl rfl rfl ?_
            refine pm_R_cv pm_M191 (pc_q := 7) (a := 41) (ra := [.int (-1), .int 5, .int 1]) (rest := []) (ls_q := [.ref 41, .int 1, .int 5, .int (-1)]) rfl rfl (Or.inl rfl) pm_M183 T4763.2.1 rfl (by decide) (Nat.lt_of_lt_of_le (by decide) T4763.1) rfl rfl (Nat.le_of_ble_eq_true rfl) rfl rfl ?_
            refine rf_c183_1_5 (d := d + 0) T4763  (fun m4769 w4770 h4771 T4772 F4773 W4774 X4775 => ?_) (fun m4778 w4779 h4780 T4781 F4782 W4783 X4784 X4785 X4786 X4787 X4788 => ?_) (fun m4791 w4792 h4793 T4794 F4795 W4796 X4797 X4798 X4799 B4800 B4801 => ?_)
            · have F4802 := F4766.trans F4773 (by decide)
              have W4803 : rf_W [10, 12, 13, 14, 16, 17, 18, 21, 22] m m4769 := W4723.trans W4774 (by decide)
              have B4804 : sf_B 0 600 (m4769 10) := T4772.2.2.1 10
              have B4805 : sf_B 0 4 (m4769 13) := T4772.2.2.1 13
              have B4806 : sf_B 0 4 (m4769 17) := T4772.2.2.1 17
              have B4807 : sf_B 0 1 (m4769 22) := T4772.2.2.1 22
              show pm_R _ 191 7 [.ref 41, .int 1, .int (-1), pm_no] [.int 0] _ _
              have R4808 : (m 10).toInt ≤ (m4769 10).toInt := (sf_aux70 _ _ _ R4726 X4775)
              refine pm_R_lo pm_M191 (pc_q := 8) (ls_q := [.ref 41, .int 1, .int (-1), .int 0]) (st_q := []) rfl rfl rfl ?_
              refine pm_R_lo pm_M191 (pc_q := 9) rfl rfl rfl ?_
              refine pm_R_lo pm_M191 (pc_q := 10) rfl rfl rfl ?_
              refine pm_R_br pm_M191 (pc_q := 35) (st_q := [.ref 41]) rfl rfl ?_
              refine pm_R_lo pm_M191 (pc_q := 36) rfl rfl rfl ?_
              have B4809 : sf_B (-1) 99 (m4769 21) := T4772.2.2.1 21
              refine rf_R_get pm_M191 T4772 (pc_q := 39) (v := .int (m4769 21)) rfl rfl rfl rfl ?_
              refine rf_R_put pm_M191 T4772 (pc_q := 42) rfl rfl rfl (by decide) rfl rfl B4809 rfl rfl (fun h4810 m4813 em4814 T4811 F4812 => ?_)
              have F4815 := F4802.trans F4812 (by decide)
              have B4816 : sf_B 0 600 (m4813 10) := by rw [em4814]; exact B4804
              have ek4817 : (m4813 10).toInt = ((m4769 10)).toInt := by rw [em4814]; rfl
              have B4818 : sf_B 0 4 (m4813 13) := by rw [em4814]; exact B4805
              have ek4819 : (m4813 13).toInt = ((m4769 13)).toInt := by rw [em4814]; rfl
              have B4820 : sf_B 0 4 (m4813 17) := by rw [em4814]; exact B4806
              have ek4821 : (m4813 17).toInt = ((m4769 17)).toInt := by rw [em4814]; rfl
              have B4822 : sf_B 0 1 (m4813 22) := by rw [em4814]; exact B4807
              have ek4823 : (m4813 22).toInt = ((m4769 22)).toInt := by rw [em4814]; rfl
              have B4824 : sf_B (-1) 99 (m4813 21) := by rw [em4814]; exact B4809
              have ek4825 : (m4813 21).toInt = ((m4769 21)).toInt := by rw [em4814]; rfl
              have W4826 : rf_W [10, 12, 13, 14, 16, 17, 18, 21, 22] m m4813 := by rw [em4814]; exact W4803.put (by decide)
              refine pm_R_lo pm_M191 (pc_q := 43) rfl rfl rfl ?_
              refine pm_R_ret pm_M191 (r := some (.int 0)) rfl rfl ?_
              show pm_R _ 189 178 [.ref 41, .long a0, pm_no, .int a1, pm_no] [.int 0] _ _
              refine pm_R_br pm_M189 (pc_q := 181) (st_q := []) (pm_q189_1 (Nat.le_of_ble_eq_true rfl)) rfl ?_
              refine pm_R_op pm_M189 (pc_q := 182) (st_q := [.int 0]) (pm_q189_1 (Nat.le_of_ble_eq_true rfl)) rfl rfl ?_
              exact pm_R_ret pm_M189 (r := some (.int 0)) (pm_q189_1 (Nat.le_of_ble_eq_true rfl)) rfl (K0 m4813 w4770 h4810 T4811 F4815 W4826 (sf_aux39 _ _ _ ek4817 R4808))
            · have F4827 := F4766.trans F4782 (by decide)
              have W4828 : rf_W [10, 12, 13, 14, 16, 17, 18, 21, 22] m m4778 := W4723.trans W4783 (by decide)
              have B4829 : sf_B 0 600 (m4778 10) := T4781.2.2.1 10
              have B4830 : sf_B 0 4 (m4778 13) := T4781.2.2.1 13
              have B4831 : sf_B 0 4 (m4778 17) := T4781.2.2.1 17
              have B4832 : sf_B 0 1 (m4778 22) := T4781.2.2.1 22
              show pm_R _ 191 7 [.ref 41, .int 1, .int (-1), pm_no] [.int 1] _ _
              have R4833 : (m 10).toInt ≤ (m4778 10).toInt := (sf_aux70 _ _ _ R4726 X4788)
              obtain ⟨v4834, B4835, e4836⟩ := X4784 _ e4765
              refine pm_R_lo pm_M191 (pc_q := 8) (ls_q := [.ref 41, .int 1, .int (-1), .int 1]) (st_q := []) rfl rfl rfl ?_
              refine pm_R_lo pm_M191 (pc_q := 9) rfl rfl rfl ?_
              refine pm_R_lo pm_M191 (pc_q := 10) rfl rfl rfl ?_
              refine pm_R_br pm_M191 (pc_q := 13) (st_q := [.ref 41]) rfl rfl ?_
              refine pm_R_lo pm_M191 (pc_q := 14) rfl rfl rfl ?_
              refine rf_R_get pm_M191 T4781 (pc_q := 17) (v := .ref 52) rfl rfl rfl rfl ?_
              refine pm_R_lo pm_M191 (pc_q := 18) rfl rfl rfl ?_
              refine pm_R_iald pm_M191 (pc_q := 19) (v := v4834) rfl e4836 (Nat.lt_of_lt_of_le (by decide) T4781.1) rfl sf_upd_eq rfl ?_
              refine pm_R_lo pm_M191 (pc_q := 20) rfl rfl rfl ?_
              have B4839 : sf_B (-1) 99 (m4778 21) := T4781.2.2.1 21
              refine rf_R_get pm_M191 T4781 (pc_q := 23) (v := .int (m4778 21)) rfl rfl rfl rfl ?_
              refine pm_R_icmp pm_M191 (t := 35) (pc_q := 26) rfl rfl rfl (fun c4840 => ?_) (fun c4840 => ?_)
              · have B4841 : sf_B 0 99 (m4778 21) := sf_leR c4840 B4835 B4839
                refine pm_R_lo pm_M191 (pc_q := 36) rfl rfl rfl ?_
                refine rf_R_get pm_M191 T4781 (pc_q := 39) (v := .int (m4778 21)) rfl rfl rfl rfl ?_
                refine rf_R_put pm_M191 T4781 (pc_q := 42) rfl rfl rfl (by decide) rfl rfl (sf_weak B4841 (by decide) (by decide)) rfl rfl (fun h4842 m4845 em4846 T4843 F4844 => ?_)
                have F4847 := F4827.trans F4844 (by decide)
                have B4848 : sf_B 0 600 (m4845 10) := by rw [em4846]; exact B4829
                have ek4849 : (m4845 10).toInt = ((m4778 10)).toInt := by rw [em4846]; rfl
                have B4850 : sf_B 0 4 (m4845 13) := by rw [em4846]; exact B4830
                have ek4851 : (m4845 13).toInt = ((m4778 13)).toInt := by rw [em4846]; rfl
                have B4852 : sf_B 1 4 (m4845 17) := by rw [em4846]; exact (sf_eqT X4785 B4719)
                have ek4853 : (m4845 17).toInt = ((m4710 17)).toInt := by rw [em4846]; exact X4785
                have B4854 : sf_B 0 1 (m4845 22) := by rw [em4846]; exact (sf_eqT X4786 B4721)
                have ek4855 : (m4845 22).toInt = ((m4710 22)).toInt := by rw [em4846]; exact X4786
                have B4856 : sf_B 0 99 (m4845 21) := by rw [em4846]; exact B4841
                have ek4857 : (m4845 21).toInt = ((m4778 21)).toInt := by rw [em4846]; rfl
                have W4858 : rf_W [10, 12, 13, 14, 16, 17, 18, 21, 22] m m4845 := by rw [em4846]; exact W4828.put (by decide)
                refine pm_R_lo pm_M191 (pc_q := 43) rfl rfl rfl ?_
                refine pm_R_ret pm_M191 (r := some (.int 1)) rfl rfl ?_
                show pm_R _ 189 178 [.ref 41, .long a0, pm_no, .int a1, pm_no] [.int 1] _ _
                refine pm_R_br pm_M189 (pc_q := 183) (st_q := []) (pm_q189_1 (Nat.le_of_ble_eq_true rfl)) rfl ?_
                refine pm_R_lo pm_M189 (pc_q := 184) (pm_q189_1 (Nat.le_of_ble_eq_true rfl)) rfl rfl ?_
                refine pm_R_ldc2 pm_M189 (pc_q := 187) (pm_q189_1 (Nat.le_of_ble_eq_true rfl)) rfl rfl ?_
                refine pm_R_op pm_M189 (pc_q := 188) (st_q := [.int z342]) (pm_q189_1 (Nat.le_of_ble_eq_true rfl)) (by show some (Value.int (lg_cmp a0 1819242347) :: _) = _; rw [← e343]) rfl ?_
                refine pm_R_ifc pm_M189 (t := 205) (pc_q := 191) (pm_q189_1 (Nat.le_of_ble_eq_true rfl)) rfl rfl (fun c4861 => ?_) (fun c4861 => absurd (Classical.not_not.mp c4861) c344)
                have k4862 := sf_lneC e343 c4861
                refine pm_R_lo pm_M189 (pc_q := 206) (pm_q189_1 (Nat.le_of_ble_eq_true rfl)) rfl rfl ?_
                refine pm_R_ldc2 pm_M189 (pc_q := 209) (pm_q189_1 (Nat.le_of_ble_eq_true rfl)) rfl rfl ?_
                refine pm_R_op pm_M189 (pc_q := 210) (st_q := [.int z3944]) (pm_q189_1 (Nat.le_of_ble_eq_true rfl)) (by show some (Value.int (lg_cmp a0 1935767923) :: _) = _; rw [← e3945]) rfl ?_
                refine pm_R_ifc pm_M189 (t := 226) (pc_q := 213) (pm_q189_1 (Nat.le_of_ble_eq_true rfl)) rfl rfl (fun c4865 => absurd (sf_pt2 B3947 sf_k0) c4865) (fun c4865 => ?_)
                refine pm_R_lo pm_M189 (pc_q := 214) (pm_q189_1 (Nat.le_of_ble_eq_true rfl)) rfl rfl ?_
                refine pm_R_op pm_M189 (pc_q := 215) (st_q := [.int 2, .ref 41]) (pm_q189_1 (Nat.le_of_ble_eq_true rfl)) rfl rfl ?_
                refine pm_R_op pm_M189 (pc_q := 217) (st_q := [.int 9, .int 2, .ref 41]) (pm_q189_1 (Nat.le_of_ble_eq_true rfl)) rfl rfl ?_
                refine pm_R_op pm_M189 (pc_q := 218) (st_q := [.int (-1), .int 9, .int 2, .ref 41]) (pm_q189_1 (Nat.le_of_ble_eq_true rfl)) rfl rfl ?_
                refine pm_R_cv pm_M189 (pc_q := 221) (a := 41) (ra := [.int (-1), .int 9, .int 2]) (rest := []) (ls_q := [.ref 41, .int 2, .int 9, .int (-1)]) (pm_q189_2 (Nat.le_of_ble_eq_true rfl)) rfl (Or.inl rfl) pm_M183 T4843.2.1 rfl (by decide) (Nat.lt_of_lt_of_le (by decide) T4843.1) rfl rfl (Nat.le_of_ble_eq_true rfl) rfl rfl ?_
                have e4866 := (F4844.cell (by decide) e4836)
                refine rf_c183_2_9 (d := d + 1) T4843  (fun m4869 w4870 h4871 T4872 F4873 W4874 X4875 => ?_) (fun m4878 w4879 h4880 T4881 F4882 W4883 X4884 X4885 X4886 X4887 X4888 => ?_) (fun m4891 w4892 h4893 T4894 F4895 W4896 X4897 X4898 X4899 B4900 B4901 => ?_)
                · have F4902 := F4847.trans F4873 (by decide)
                  have B4903 : sf_B 0 99 (m4869 21) := by rw [W4874 21 (by decide)]; exact B4856
                  have ek4904 : (m4869 21).toInt = ((m4778 21)).toInt := by rw [W4874 21 (by decide)]; exact ek4857
                  have W4905 : rf_W [10, 12, 13, 14, 16, 17, 18, 21, 22] m m4869 := W4858.trans W4874 (by decide)
                  have B4906 : sf_B 0 600 (m4869 10) := T4872.2.2.1 10
                  have B4907 : sf_B 0 4 (m4869 13) := T4872.2.2.1 13
                  have B4908 : sf_B 0 4 (m4869 17) := T4872.2.2.1 17
                  have B4909 : sf_B 0 1 (m4869 22) := T4872.2.2.1 22
                  show pm_R _ 189 221 [.ref 41, .long a0, pm_no, .int a1, pm_no] [.int 0] _ _
                  have R4910 : (m 10).toInt ≤ (m4869 10).toInt := (sf_aux76 _ _ _ _ ek4849 R4833 X4875)
                  refine pm_R_br pm_M189 (pc_q := 224) (st_q := []) (pm_q189_2 (Nat.le_of_ble_eq_true rfl)) rfl ?_
                  refine pm_R_op pm_M189 (pc_q := 225) (st_q := [.int 0]) (pm_q189_2 (Nat.le_of_ble_eq_true rfl)) rfl rfl ?_
                  exact pm_R_ret pm_M189 (r := some (.int 0)) (pm_q189_2 (Nat.le_of_ble_eq_true rfl)) rfl (K0 m4869 w4870 h4871 T4872 F4902 W4905 (sf_aux51 _ _ R4910))
                · have F4911 := F4847.trans F4882 (by decide)
                  have B4912 : sf_B 0 99 (m4878 21) := by rw [W4883 21 (by decide)]; exact B4856
                  have ek4913 : (m4878 21).toInt = ((m4778 21)).toInt := by rw [W4883 21 (by decide)]; exact ek4857
                  have W4914 : rf_W [10, 12, 13, 14, 16, 17, 18, 21, 22] m m4878 := W4858.trans W4883 (by decide)
                  have B4915 : sf_B 0 600 (m4878 10) := T4881.2.2.1 10
                  have B4916 : sf_B 0 4 (m4878 13) := T4881.2.2.1 13
                  have B4917 : sf_B 0 4 (m4878 17) := T4881.2.2.1 17
                  have B4918 : sf_B 0 1 (m4878 22) := T4881.2.2.1 22
                  show pm_R _ 189 221 [.ref 41, .long a0, pm_no, .int a1, pm_no] [.int 1] _ _
                  have R4919 : (m 10).toInt ≤ (m4878 10).toInt := (sf_aux76 _ _ _ _ ek4849 R4833 X4888)
                  obtain ⟨v4920, B4921, e4922⟩ := X4884 _ e4866
                  refine pm_R_br pm_M189 (pc_q := 226) (st_q := []) (pm_q189_2 (Nat.le_of_ble_eq_true rfl)) rfl ?_
                  refine pm_R_lo pm_M189 (pc_q := 227) (pm_q189_2 (Nat.le_of_ble_eq_true rfl)) rfl rfl ?_
                  refine pm_R_op pm_M189 (pc_q := 228) (st_q := [.int 1, .ref 41]) (pm_q189_2 (Nat.le_of_ble_eq_true rfl)) rfl rfl ?_
                  refine pm_R_op pm_M189 (pc_q := 229) (st_q := [.int 2, .int 1, .ref 41]) (pm_q189_2 (Nat.le_of_ble_eq_true rfl)) rfl rfl ?_
                  refine pm_R_op pm_M189 (pc_q := 230) (st_q := [.int 3, .int 2, .int 1, .ref 41]) (pm_q189_2 (Nat.le_of_ble_eq_true rfl)) rfl rfl ?_
                  refine pm_R_op pm_M189 (pc_q := 232) (st_q := [.int 50, .int 3, .int 2, .int 1, .ref 41]) (pm_q189_2 (Nat.le_of_ble_eq_true rfl)) rfl rfl ?_
                  refine pm_R_op pm_M189 (pc_q := 233) (st_q := [.int 0, .int 50, .int 3, .int 2, .int 1, .ref 41]) (pm_q189_2 (Nat.le_of_ble_eq_true rfl)) rfl rfl ?_
                  refine pm_R_cv pm_M189 (pc_q := 236) (a := 41) (ra := [.int 0, .int 50, .int 3, .int 2, .int 1]) (rest := []) (ls_q := [.ref 41, .int 1, .int 2, .int 3, .int 50, .int 0, pm_no, pm_no]) (pm_q189_2 (Nat.le_of_ble_eq_true rfl)) rfl (Or.inl rfl) pm_M185 T4881.2.1 rfl (by decide) (Nat.lt_of_lt_of_le (by decide) T4881.1) rfl rfl (Nat.le_of_ble_eq_true rfl) rfl rfl ?_
                  have e4923 := (F4882.cell (by decide) (F4844.cell (by decide) (F4782.cell (by decide) (F4764.cell (by decide) (F4751.cell (by decide) (F4746.cell (by decide) (F4741.cell (by decide) (F4736.cell (by decide) (F4714.cell (by decide) (F4698.cell (by decide) e3))))))))))
                  refine rf_c185_d (d := d + 3) T4881 (⟨f2, e4923, ct4, fun z => (sf_pos (sf_eqT X4885 B4852) (by decide) z)⟩) (fun z => sf_pos (sf_eqT X4885 B4852) (by decide) z) (fun m4926 w4927 h4928 T4929 F4930 W4931 X4932 => ?_)
                  have F4933 := F4911.trans F4930 (by decide)
                  have B4934 : sf_B 0 99 (m4926 21) := by rw [W4931 21 (by decide)]; exact B4912
                  have ek4935 : (m4926 21).toInt = ((m4778 21)).toInt := by rw [W4931 21 (by decide)]; exact ek4913
                  have B4936 : sf_B 0 600 (m4926 10) := by rw [W4931 10 (by decide)]; exact B4915
                  have ek4937 : (m4926 10).toInt = ((m4878 10)).toInt := by rw [W4931 10 (by decide)]
                  have B4938 : sf_B 0 4 (m4926 13) := by rw [W4931 13 (by decide)]; exact B4916
                  have ek4939 : (m4926 13).toInt = ((m4878 13)).toInt := by rw [W4931 13 (by decide)]
                  have B4940 : sf_B 1 4 (m4926 17) := by rw [W4931 17 (by decide)]; exact (sf_eqT X4885 B4852)
                  have ek4941 : (m4926 17).toInt = ((m4845 17)).toInt := by rw [W4931 17 (by decide)]; exact X4885
                  have B4942 : sf_B 0 1 (m4926 22) := by rw [W4931 22 (by decide)]; exact (sf_eqT X4886 B4854)
                  have ek4943 : (m4926 22).toInt = ((m4845 22)).toInt := by rw [W4931 22 (by decide)]; exact X4886
                  have W4944 : rf_W [10, 12, 13, 14, 16, 17, 18, 21, 22] m m4926 := W4914.trans W4931 (by decide)
                  show pm_R _ 189 236 [.ref 41, .long a0, pm_no, .int a1, pm_no] [] _ _
                  obtain ⟨f4945, e4946, ct4947, bd4948⟩ := X4932
                  refine pm_R_op pm_M189 (pc_q := 237) (st_q := [.int 1]) (pm_q189_2 (Nat.le_of_ble_eq_true rfl)) rfl rfl ?_
                  exact pm_R_ret pm_M189 (r := some (.int 1)) (pm_q189_2 (Nat.le_of_ble_eq_true rfl)) rfl (K1 m4926 w4927 h4928 T4929 F4933 W4944 (⟨f4945, e4946, ct4947, fun z => (sf_pos B4940 (by decide) z)⟩) (sf_aux39 _ _ _ ek4937 R4919))
                · have F4949 := F4847.trans F4895 (by decide)
                  have B4950 : sf_B 0 99 (m4891 21) := by rw [W4896 21 (by decide)]; exact B4856
                  have ek4951 : (m4891 21).toInt = ((m4778 21)).toInt := by rw [W4896 21 (by decide)]; exact ek4857
                  have W4952 : rf_W [10, 12, 13, 14, 16, 17, 18, 21, 22] m m4891 := W4858.trans W4896 (by decide)
                  have B4953 : sf_B 0 600 (m4891 10) := T4894.2.2.1 10
                  have B4954 : sf_B 0 4 (m4891 13) := T4894.2.2.1 13
                  have B4955 : sf_B 0 4 (m4891 17) := T4894.2.2.1 17
                  have B4956 : sf_B 0 1 (m4891 22) := T4894.2.2.1 22
                  show pm_R _ 189 221 [.ref 41, .long a0, pm_no, .int a1, pm_no] [.int 1] _ _
                  have R4957 : (m 10).toInt ≤ (m4891 10).toInt := (sf_aux76 _ _ _ _ ek4849 R4833 X4899)
                  obtain ⟨v4958, B4959, e4960⟩ := X4897 _ e4866
                  refine pm_R_br pm_M189 (pc_q := 226) (st_q := []) (pm_q189_2 (Nat.le_of_ble_eq_true rfl)) rfl ?_
                  refine pm_R_lo pm_M189 (pc_q := 227) (pm_q189_2 (Nat.le_of_ble_eq_true rfl)) rfl rfl ?_
                  refine pm_R_op pm_M189 (pc_q := 228) (st_q := [.int 1, .ref 41]) (pm_q189_2 (Nat.le_of_ble_eq_true rfl)) rfl rfl ?_
                  refine pm_R_op pm_M189 (pc_q := 229) (st_q := [.int 2, .int 1, .ref 41]) (pm_q189_2 (Nat.le_of_ble_eq_true rfl)) rfl rfl ?_
                  refine pm_R_op pm_M189 (pc_q := 230) (st_q := [.int 3, .int 2, .int 1, .ref 41]) (pm_q189_2 (Nat.le_of_ble_eq_true rfl)) rfl rfl ?_
                  refine pm_R_op pm_M189 (pc_q := 232) (st_q := [.int 50, .int 3, .int 2, .int 1, .ref 41]) (pm_q189_2 (Nat.le_of_ble_eq_true rfl)) rfl rfl ?_
                  refine pm_R_op pm_M189 (pc_q := 233) (st_q := [.int 0, .int 50, .int 3, .int 2, .int 1, .ref 41]) (pm_q189_2 (Nat.le_of_ble_eq_true rfl)) rfl rfl ?_
                  refine pm_R_cv pm_M189 (pc_q := 236) (a := 41) (ra := [.int 0, .int 50, .int 3, .int 2, .int 1]) (rest := []) (ls_q := [.ref 41, .int 1, .int 2, .int 3, .int 50, .int 0, pm_no, pm_no]) (pm_q189_2 (Nat.le_of_ble_eq_true rfl)) rfl (Or.inl rfl) pm_M185 T4894.2.1 rfl (by decide) (Nat.lt_of_lt_of_le (by decide) T4894.1) rfl rfl (Nat.le_of_ble_eq_true rfl) rfl rfl ?_
                  have e4961 := (F4895.cell (by decide) (F4844.cell (by decide) (F4782.cell (by decide) (F4764.cell (by decide) (F4751.cell (by decide) (F4746.cell (by decide) (F4741.cell (by decide) (F4736.cell (by decide) (F4714.cell (by decide) (F4698.cell (by decide) e3))))))))))
                  refine rf_c185_d (d := d + 3) T4894 (⟨f2, e4961, ct4, fun z => (sf_pos B4900 (by decide) z)⟩) (fun z => sf_pos B4900 (by decide) z) (fun m4964 w4965 h4966 T4967 F4968 W4969 X4970 => ?_)
                  have F4971 := F4949.trans F4968 (by decide)
                  have B4972 : sf_B 0 99 (m4964 21) := by rw [W4969 21 (by decide)]; exact B4950
                  have ek4973 : (m4964 21).toInt = ((m4778 21)).toInt := by rw [W4969 21 (by decide)]; exact ek4951
                  have B4974 : sf_B 0 600 (m4964 10) := by rw [W4969 10 (by decide)]; exact B4953
                  have ek4975 : (m4964 10).toInt = ((m4891 10)).toInt := by rw [W4969 10 (by decide)]
                  have B4976 : sf_B 0 4 (m4964 13) := by rw [W4969 13 (by decide)]; exact B4954
                  have ek4977 : (m4964 13).toInt = ((m4891 13)).toInt := by rw [W4969 13 (by decide)]
                  have B4978 : sf_B 1 4 (m4964 17) := by rw [W4969 17 (by decide)]; exact B4900
                  have ek4979 : (m4964 17).toInt = ((m4891 17)).toInt := by rw [W4969 17 (by decide)]
                  have B4980 : sf_B 0 0 (m4964 22) := by rw [W4969 22 (by decide)]; exact B4901
                  have ek4981 : (m4964 22).toInt = ((m4891 22)).toInt := by rw [W4969 22 (by decide)]
                  have W4982 : rf_W [10, 12, 13, 14, 16, 17, 18, 21, 22] m m4964 := W4952.trans W4969 (by decide)
                  show pm_R _ 189 236 [.ref 41, .long a0, pm_no, .int a1, pm_no] [] _ _
                  obtain ⟨f4983, e4984, ct4985, bd4986⟩ := X4970
                  refine pm_R_op pm_M189 (pc_q := 237) (st_q := [.int 1]) (pm_q189_2 (Nat.le_of_ble_eq_true rfl)) rfl rfl ?_
                  exact pm_R_ret pm_M189 (r := some (.int 1)) (pm_q189_2 (Nat.le_of_ble_eq_true rfl)) rfl (K1 m4964 w4965 h4966 T4967 F4971 W4982 (⟨f4983, e4984, ct4985, fun z => (sf_pos B4978 (by decide) z)⟩) (sf_aux39 _ _ _ ek4975 R4957))
              · have B4987 : sf_B (-1) 4 (m4778 21) := sf_ltL (Int32.not_le.mp c4840) B4839 B4835
                refine pm_R_lo pm_M191 (pc_q := 27) rfl rfl rfl ?_
                refine rf_R_get pm_M191 T4781 (pc_q := 30) (v := .ref 52) rfl rfl rfl rfl ?_
                refine pm_R_lo pm_M191 (pc_q := 31) rfl rfl rfl ?_
                refine pm_R_iald pm_M191 (pc_q := 32) (v := v4834) rfl e4836 (Nat.lt_of_lt_of_le (by decide) T4781.1) rfl sf_upd_eq rfl ?_
                refine pm_R_br pm_M191 (pc_q := 39) rfl rfl ?_
                refine rf_R_put pm_M191 T4781 (pc_q := 42) rfl rfl rfl (by decide) rfl rfl (sf_weak B4835 (by decide) (by decide)) rfl rfl (fun h4990 m4993 em4994 T4991 F4992 => ?_)
                have F4995 := F4827.trans F4992 (by decide)
                have B4996 : sf_B 0 600 (m4993 10) := by rw [em4994]; exact B4829
                have ek4997 : (m4993 10).toInt = ((m4778 10)).toInt := by rw [em4994]; rfl
                have B4998 : sf_B 0 4 (m4993 13) := by rw [em4994]; exact B4830
                have ek4999 : (m4993 13).toInt = ((m4778 13)).toInt := by rw [em4994]; rfl
                have B5000 : sf_B 1 4 (m4993 17) := by rw [em4994]; exact (sf_eqT X4785 B4719)
                have ek5001 : (m4993 17).toInt = ((m4710 17)).toInt := by rw [em4994]; exact X4785
                have B5002 : sf_B 0 1 (m4993 22) := by rw [em4994]; exact (sf_eqT X4786 B4721)
                have ek5003 : (m4993 22).toInt = ((m4710 22)).toInt := by rw [em4994]; exact X4786
                have B5004 : sf_B 0 5 (m4993 21) := by rw [em4994]; exact B4835
                have ek5005 : (m4993 21).toInt = (v4834).toInt := by rw [em4994]; rfl
                have W5006 : rf_W [10, 12, 13, 14, 16, 17, 18, 21, 22] m m4993 := by rw [em4994]; exact W4828.put (by decide)
                refine pm_R_lo pm_M191 (pc_q := 43) rfl rfl rfl ?_
                refine pm_R_ret pm_M191 (r := some (.int 1)) rfl rfl ?_
                show pm_R _ 189 178 [.ref 41, .long a0, pm_no, .int a1, pm_no] [.int 1] _ _
                refine pm_R_br pm_M189 (pc_q := 183) (st_q := []) (pm_q189_1 (Nat.le_of_ble_eq_true rfl)) rfl ?_
                refine pm_R_lo pm_M189 (pc_q := 184) (pm_q189_1 (Nat.le_of_ble_eq_true rfl)) rfl rfl ?_
                refine pm_R_ldc2 pm_M189 (pc_q := 187) (pm_q189_1 (Nat.le_of_ble_eq_true rfl)) rfl rfl ?_
                refine pm_R_op pm_M189 (pc_q := 188) (st_q := [.int z342]) (pm_q189_1 (Nat.le_of_ble_eq_true rfl)) (by show some (Value.int (lg_cmp a0 1819242347) :: _) = _; rw [← e343]) rfl ?_
                refine pm_R_ifc pm_M189 (t := 205) (pc_q := 191) (pm_q189_1 (Nat.le_of_ble_eq_true rfl)) rfl rfl (fun c5009 => ?_) (fun c5009 => absurd (Classical.not_not.mp c5009) c344)
                have k5010 := sf_lneC e343 c5009
                refine pm_R_lo pm_M189 (pc_q := 206) (pm_q189_1 (Nat.le_of_ble_eq_true rfl)) rfl rfl ?_
                refine pm_R_ldc2 pm_M189 (pc_q := 209) (pm_q189_1 (Nat.le_of_ble_eq_true rfl)) rfl rfl ?_
                refine pm_R_op pm_M189 (pc_q := 210) (st_q := [.int z3944]) (pm_q189_1 (Nat.le_of_ble_eq_true rfl)) (by show some (Value.int (lg_cmp a0 1935767923) :: _) = _; rw [← e3945]) rfl ?_
                refine pm_R_ifc pm_M189 (t := 226) (pc_q := 213) (pm_q189_1 (Nat.le_of_ble_eq_true rfl)) rfl rfl (fun c5013 => absurd (sf_pt2 B3947 sf_k0) c5013) (fun c5013 => ?_)
                refine pm_R_lo pm_M189 (pc_q := 214) (pm_q189_1 (Nat.le_of_ble_eq_true rfl)) rfl rfl ?_
                refine pm_R_op pm_M189 (pc_q := 215) (st_q := [.int 2, .ref 41]) (pm_q189_1 (Nat.le_of_ble_eq_true rfl)) rfl rfl ?_
                refine pm_R_op pm_M189 (pc_q := 217) (st_q := [.int 9, .int 2, .ref 41]) (pm_q189_1 (Nat.le_of_ble_eq_true rfl)) rfl rfl ?_
                refine pm_R_op pm_M189 (pc_q := 218) (st_q := [.int (-1), .int 9, .int 2, .ref 41]) (pm_q189_1 (Nat.le_of_ble_eq_true rfl)) rfl rfl ?_
                refine pm_R_cv pm_M189 (pc_q := 221) (a := 41) (ra := [.int (-1), .int 9, .int 2]) (rest := []) (ls_q := [.ref 41, .int 2, .int 9, .int (-1)]) (pm_q189_2 (Nat.le_of_ble_eq_true rfl)) rfl (Or.inl rfl) pm_M183 T4991.2.1 rfl (by decide) (Nat.lt_of_lt_of_le (by decide) T4991.1) rfl rfl (Nat.le_of_ble_eq_true rfl) rfl rfl ?_
                have e5014 := (F4992.cell (by decide) e4836)
                refine rf_c183_2_9 (d := d + 1) T4991  (fun m5017 w5018 h5019 T5020 F5021 W5022 X5023 => ?_) (fun m5026 w5027 h5028 T5029 F5030 W5031 X5032 X5033 X5034 X5035 X5036 => ?_) (fun m5039 w5040 h5041 T5042 F5043 W5044 X5045 X5046 X5047 B5048 B5049 => ?_)
                · have F5050 := F4995.trans F5021 (by decide)
                  have B5051 : sf_B 0 5 (m5017 21) := by rw [W5022 21 (by decide)]; exact B5004
                  have ek5052 : (m5017 21).toInt = (v4834).toInt := by rw [W5022 21 (by decide)]; exact ek5005
                  have W5053 : rf_W [10, 12, 13, 14, 16, 17, 18, 21, 22] m m5017 := W5006.trans W5022 (by decide)
                  have B5054 : sf_B 0 600 (m5017 10) := T5020.2.2.1 10
                  have B5055 : sf_B 0 4 (m5017 13) := T5020.2.2.1 13
                  have B5056 : sf_B 0 4 (m5017 17) := T5020.2.2.1 17
                  have B5057 : sf_B 0 1 (m5017 22) := T5020.2.2.1 22
                  show pm_R _ 189 221 [.ref 41, .long a0, pm_no, .int a1, pm_no] [.int 0] _ _
                  have R5058 : (m 10).toInt ≤ (m5017 10).toInt := (sf_aux76 _ _ _ _ ek4997 R4833 X5023)
                  refine pm_R_br pm_M189 (pc_q := 224) (st_q := []) (pm_q189_2 (Nat.le_of_ble_eq_true rfl)) rfl ?_
                  refine pm_R_op pm_M189 (pc_q := 225) (st_q := [.int 0]) (pm_q189_2 (Nat.le_of_ble_eq_true rfl)) rfl rfl ?_
                  exact pm_R_ret pm_M189 (r := some (.int 0)) (pm_q189_2 (Nat.le_of_ble_eq_true rfl)) rfl (K0 m5017 w5018 h5019 T5020 F5050 W5053 (sf_aux51 _ _ R5058))
                · have F5059 := F4995.trans F5030 (by decide)
                  have B5060 : sf_B 0 5 (m5026 21) := by rw [W5031 21 (by decide)]; exact B5004
                  have ek5061 : (m5026 21).toInt = (v4834).toInt := by rw [W5031 21 (by decide)]; exact ek5005
                  have W5062 : rf_W [10, 12, 13, 14, 16, 17, 18, 21, 22] m m5026 := W5006.trans W5031 (by decide)
                  have B5063 : sf_B 0 600 (m5026 10) := T5029.2.2.1 10
                  have B5064 : sf_B 0 4 (m5026 13) := T5029.2.2.1 13
                  have B5065 : sf_B 0 4 (m5026 17) := T5029.2.2.1 17
                  have B5066 : sf_B 0 1 (m5026 22) := T5029.2.2.1 22
                  show pm_R _ 189 221 [.ref 41, .long a0, pm_no, .int a1, pm_no] [.int 1] _ _
                  have R5067 : (m 10).toInt ≤ (m5026 10).toInt := (sf_aux76 _ _ _ _ ek4997 R4833 X5036)
                  obtain ⟨v5068, B5069, e5070⟩ := X5032 _ e5014
                  refine pm_R_br pm_M189 (pc_q := 226) (st_q := []) (pm_q189_2 (Nat.le_of_ble_eq_true rfl)) rfl ?_
                  refine pm_R_lo pm_M189 (pc_q := 227) (pm_q189_2 (Nat.le_of_ble_eq_true rfl)) rfl rfl ?_
                  refine pm_R_op pm_M189 (pc_q := 228) (st_q := [.int 1, .ref 41]) (pm_q189_2 (Nat.le_of_ble_eq_true rfl)) rfl rfl ?_
                  refine pm_R_op pm_M189 (pc_q := 229) (st_q := [.int 2, .int 1, .ref 41]) (pm_q189_2 (Nat.le_of_ble_eq_true rfl)) rfl rfl ?_
                  refine pm_R_op pm_M189 (pc_q := 230) (st_q := [.int 3, .int 2, .int 1, .ref 41]) (pm_q189_2 (Nat.le_of_ble_eq_true rfl)) rfl rfl ?_
                  refine pm_R_op pm_M189 (pc_q := 232) (st_q := [.int 50, .int 3, .int 2, .int 1, .ref 41]) (pm_q189_2 (Nat.le_of_ble_eq_true rfl)) rfl rfl ?_
                  refine pm_R_op pm_M189 (pc_q := 233) (st_q := [.int 0, .int 50, .int 3, .int 2, .int 1, .ref 41]) (pm_q189_2 (Nat.le_of_ble_eq_true rfl)) rfl rfl ?_
                  refine pm_R_cv pm_M189 (pc_q := 236) (a := 41) (ra := [.int 0, .int 50, .int 3, .int 2, .int 1]) (rest := []) (ls_q := [.ref 41, .int 1, .int 2, .int 3, .int 50, .int 0, pm_no, pm_no]) (pm_q189_2 (Nat.le_of_ble_eq_true rfl)) rfl (Or.inl rfl) pm_M185 T5029.2.1 rfl (by decide) (Nat.lt_of_lt_of_le (by decide) T5029.1) rfl rfl (Nat.le_of_ble_eq_true rfl) rfl rfl ?_
                  have e5071 := (F5030.cell (by decide) (F4992.cell (by decide) (F4782.cell (by decide) (F4764.cell (by decide) (F4751.cell (by decide) (F4746.cell (by decide) (F4741.cell (by decide) (F4736.cell (by decide) (F4714.cell (by decide) (F4698.cell (by decide) e3))))))))))
                  refine rf_c185_d (d := d + 3) T5029 (⟨f2, e5071, ct4, fun z => (sf_pos (sf_eqT X5033 B5000) (by decide) z)⟩) (fun z => sf_pos (sf_eqT X5033 B5000) (by decide) z) (fun m5074 w5075 h5076 T5077 F5078 W5079 X5080 => ?_)
                  have F5081 := F5059.trans F5078 (by decide)
                  have B5082 : sf_B 0 5 (m5074 21) := by rw [W5079 21 (by decide)]; exact B5060
                  have ek5083 : (m5074 21).toInt = (v4834).toInt := by rw [W5079 21 (by decide)]; exact ek5061
                  have B5084 : sf_B 0 600 (m5074 10) := by rw [W5079 10 (by decide)]; exact B5063
                  have ek5085 : (m5074 10).toInt = ((m5026 10)).toInt := by rw [W5079 10 (by decide)]
                  have B5086 : sf_B 0 4 (m5074 13) := by rw [W5079 13 (by decide)]; exact B5064
                  have ek5087 : (m5074 13).toInt = ((m5026 13)).toInt := by rw [W5079 13 (by decide)]
                  have B5088 : sf_B 1 4 (m5074 17) := by rw [W5079 17 (by decide)]; exact (sf_eqT X5033 B5000)
                  have ek5089 : (m5074 17).toInt = ((m4993 17)).toInt := by rw [W5079 17 (by decide)]; exact X5033
                  have B5090 : sf_B 0 1 (m5074 22) := by rw [W5079 22 (by decide)]; exact (sf_eqT X5034 B5002)
                  have ek5091 : (m5074 22).toInt = ((m4993 22)).toInt := by rw [W5079 22 (by decide)]; exact X5034
                  have W5092 : rf_W [10, 12, 13, 14, 16, 17, 18, 21, 22] m m5074 := W5062.trans W5079 (by decide)
                  show pm_R _ 189 236 [.ref 41, .long a0, pm_no, .int a1, pm_no] [] _ _
                  obtain ⟨f5093, e5094, ct5095, bd5096⟩ := X5080
                  refine pm_R_op pm_M189 (pc_q := 237) (st_q := [.int 1]) (pm_q189_2 (Nat.le_of_ble_eq_true rfl)) rfl rfl ?_
                  exact pm_R_ret pm_M189 (r := some (.int 1)) (pm_q189_2 (Nat.le_of_ble_eq_true rfl)) rfl (K1 m5074 w5075 h5076 T5077 F5081 W5092 (⟨f5093, e5094, ct5095, fun z => (sf_pos B5088 (by decide) z)⟩) (sf_aux39 _ _ _ ek5085 R5067))
                · have F5097 := F4995.trans F5043 (by decide)
                  have B5098 : sf_B 0 5 (m5039 21) := by rw [W5044 21 (by decide)]; exact B5004
                  have ek5099 : (m5039 21).toInt = (v4834).toInt := by rw [W5044 21 (by decide)]; exact ek5005
                  have W5100 : rf_W [10, 12, 13, 14, 16, 17, 18, 21, 22] m m5039 := W5006.trans W5044 (by decide)
                  have B5101 : sf_B 0 600 (m5039 10) := T5042.2.2.1 10
                  have B5102 : sf_B 0 4 (m5039 13) := T5042.2.2.1 13
                  have B5103 : sf_B 0 4 (m5039 17) := T5042.2.2.1 17
                  have B5104 : sf_B 0 1 (m5039 22) := T5042.2.2.1 22
                  show pm_R _ 189 221 [.ref 41, .long a0, pm_no, .int a1, pm_no] [.int 1] _ _
                  have R5105 : (m 10).toInt ≤ (m5039 10).toInt := (sf_aux76 _ _ _ _ ek4997 R4833 X5047)
                  obtain ⟨v5106, B5107, e5108⟩ := X5045 _ e5014
                  refine pm_R_br pm_M189 (pc_q := 226) (st_q := []) (pm_q189_2 (Nat.le_of_ble_eq_true rfl)) rfl ?_
                  refine pm_R_lo pm_M189 (pc_q := 227) (pm_q189_2 (Nat.le_of_ble_eq_true rfl)) rfl rfl ?_
                  refine pm_R_op pm_M189 (pc_q := 228) (st_q := [.int 1, .ref 41]) (pm_q189_2 (Nat.le_of_ble_eq_true rfl)) rfl rfl ?_
                  refine pm_R_op pm_M189 (pc_q := 229) (st_q := [.int 2, .int 1, .ref 41]) (pm_q189_2 (Nat.le_of_ble_eq_true rfl)) rfl rfl ?_
                  refine pm_R_op pm_M189 (pc_q := 230) (st_q := [.int 3, .int 2, .int 1, .ref 41]) (pm_q189_2 (Nat.le_of_ble_eq_true rfl)) rfl rfl ?_
                  refine pm_R_op pm_M189 (pc_q := 232) (st_q := [.int 50, .int 3, .int 2, .int 1, .ref 41]) (pm_q189_2 (Nat.le_of_ble_eq_true rfl)) rfl rfl ?_
                  refine pm_R_op pm_M189 (pc_q := 233) (st_q := [.int 0, .int 50, .int 3, .int 2, .int 1, .ref 41]) (pm_q189_2 (Nat.le_of_ble_eq_true rfl)) rfl rfl ?_
                  refine pm_R_cv pm_M189 (pc_q := 236) (a := 41) (ra := [.int 0, .int 50, .int 3, .int 2, .int 1]) (rest := []) (ls_q := [.ref 41, .int 1, .int 2, .int 3, .int 50, .int 0, pm_no, pm_no]) (pm_q189_2 (Nat.le_of_ble_eq_true rfl)) rfl (Or.inl rfl) pm_M185 T5042.2.1 rfl (by decide) (Nat.lt_of_lt_of_le (by decide) T5042.1) rfl rfl (Nat.le_of_ble_eq_true rfl) rfl rfl ?_
                  have e5109 := (F5043.cell (by decide) (F4992.cell (by decide) (F4782.cell (by decide) (F4764.cell (by decide) (F4751.cell (by decide) (F4746.cell (by decide) (F4741.cell (by decide) (F4736.cell (by decide) (F4714.cell (by decide) (F4698.cell (by decide) e3))))))))))
                  refine rf_c185_d (d := d + 3) T5042 (⟨f2, e5109, ct4, fun z => (sf_pos B5048 (by decide) z)⟩) (fun z => sf_pos B5048 (by decide) z) (fun m5112 w5113 h5114 T5115 F5116 W5117 X5118 => ?_)
                  have F5119 := F5097.trans F5116 (by decide)
                  have B5120 : sf_B 0 5 (m5112 21) := by rw [W5117 21 (by decide)]; exact B5098
                  have ek5121 : (m5112 21).toInt = (v4834).toInt := by rw [W5117 21 (by decide)]; exact ek5099
                  have B5122 : sf_B 0 600 (m5112 10) := by rw [W5117 10 (by decide)]; exact B5101
                  have ek5123 : (m5112 10).toInt = ((m5039 10)).toInt := by rw [W5117 10 (by decide)]
                  have B5124 : sf_B 0 4 (m5112 13) := by rw [W5117 13 (by decide)]; exact B5102
                  have ek5125 : (m5112 13).toInt = ((m5039 13)).toInt := by rw [W5117 13 (by decide)]
                  have B5126 : sf_B 1 4 (m5112 17) := by rw [W5117 17 (by decide)]; exact B5048
                  have ek5127 : (m5112 17).toInt = ((m5039 17)).toInt := by rw [W5117 17 (by decide)]
                  have B5128 : sf_B 0 0 (m5112 22) := by rw [W5117 22 (by decide)]; exact B5049
                  have ek5129 : (m5112 22).toInt = ((m5039 22)).toInt := by rw [W5117 22 (by decide)]
                  have W5130 : rf_W [10, 12, 13, 14, 16, 17, 18, 21, 22] m m5112 := W5100.trans W5117 (by decide)
                  show pm_R _ 189 236 [.ref 41, .long a0, pm_no, .int a1, pm_no] [] _ _
                  obtain ⟨f5131, e5132, ct5133, bd5134⟩ := X5118
                  refine pm_R_op pm_M189 (pc_q := 237) (st_q := [.int 1]) (pm_q189_2 (Nat.le_of_ble_eq_true rfl)) rfl rfl ?_
                  exact pm_R_ret pm_M189 (r := some (.int 1)) (pm_q189_2 (Nat.le_of_ble_eq_true rfl)) rfl (K1 m5112 w5113 h5114 T5115 F5119 W5130 (⟨f5131, e5132, ct5133, fun z => (sf_pos B5126 (by decide) z)⟩) (sf_aux39 _ _ _ ek5123 R5105))
            · have F5135 := F4766.trans F4795 (by decide)
              have W5136 : rf_W [10, 12, 13, 14, 16, 17, 18, 21, 22] m m4791 := W4723.trans W4796 (by decide)
              have B5137 : sf_B 0 600 (m4791 10) := T4794.2.2.1 10
              have B5138 : sf_B 0 4 (m4791 13) := T4794.2.2.1 13
              have B5139 : sf_B 0 4 (m4791 17) := T4794.2.2.1 17
              have B5140 : sf_B 0 1 (m4791 22) := T4794.2.2.1 22
              show pm_R _ 191 7 [.ref 41, .int 1, .int (-1), pm_no] [.int 1] _ _
              have R5141 : (m 10).toInt ≤ (m4791 10).toInt := (sf_aux70 _ _ _ R4726 X4799)
              obtain ⟨v5142, B5143, e5144⟩ := X4797 _ e4765
              refine pm_R_lo pm_M191 (pc_q := 8) (ls_q := [.ref 41, .int 1, .int (-1), .int 1]) (st_q := []) rfl rfl rfl ?_
              refine pm_R_lo pm_M191 (pc_q := 9) rfl rfl rfl ?_
              refine pm_R_lo pm_M191 (pc_q := 10) rfl rfl rfl ?_
              refine pm_R_br pm_M191 (pc_q := 13) (st_q := [.ref 41]) rfl rfl ?_
              refine pm_R_lo pm_M191 (pc_q := 14) rfl rfl rfl ?_
              refine rf_R_get pm_M191 T4794 (pc_q := 17) (v := .ref 52) rfl rfl rfl rfl ?_
              refine pm_R_lo pm_M191 (pc_q := 18) rfl rfl rfl ?_
              refine pm_R_iald pm_M191 (pc_q := 19) (v := v5142) rfl e5144 (Nat.lt_of_lt_of_le (by decide) T4794.1) rfl sf_upd_eq rfl ?_
              refine pm_R_lo pm_M191 (pc_q := 20) rfl rfl rfl ?_
              have B5147 : sf_B (-1) 99 (m4791 21) := T4794.2.2.1 21
              refine rf_R_get pm_M191 T4794 (pc_q := 23) (v := .int (m4791 21)) rfl rfl rfl rfl ?_
              refine pm_R_icmp pm_M191 (t := 35) (pc_q := 26) rfl rfl rfl (fun c5148 => ?_) (fun c5148 => ?_)
              · have B5149 : sf_B 0 99 (m4791 21) := sf_leR c5148 B5143 B5147
                refine pm_R_lo pm_M191 (pc_q := 36) rfl rfl rfl ?_
                refine rf_R_get pm_M191 T4794 (pc_q := 39) (v := .int (m4791 21)) rfl rfl rfl rfl ?_
                refine rf_R_put pm_M191 T4794 (pc_q := 42) rfl rfl rfl (by decide) rfl rfl (sf_weak B5149 (by decide) (by decide)) rfl rfl (fun h5150 m5153 em5154 T5151 F5152 => ?_)
                have F5155 := F5135.trans F5152 (by decide)
                have B5156 : sf_B 0 600 (m5153 10) := by rw [em5154]; exact B5137
                have ek5157 : (m5153 10).toInt = ((m4791 10)).toInt := by rw [em5154]; rfl
                have B5158 : sf_B 0 4 (m5153 13) := by rw [em5154]; exact B5138
                have ek5159 : (m5153 13).toInt = ((m4791 13)).toInt := by rw [em5154]; rfl
                have B5160 : sf_B 1 4 (m5153 17) := by rw [em5154]; exact B4800
                have ek5161 : (m5153 17).toInt = ((m4791 17)).toInt := by rw [em5154]; rfl
                have B5162 : sf_B 0 0 (m5153 22) := by rw [em5154]; exact B4801
                have ek5163 : (m5153 22).toInt = ((m4791 22)).toInt := by rw [em5154]; rfl
                have B5164 : sf_B 0 99 (m5153 21) := by rw [em5154]; exact B5149
                have ek5165 : (m5153 21).toInt = ((m4791 21)).toInt := by rw [em5154]; rfl
                have W5166 : rf_W [10, 12, 13, 14, 16, 17, 18, 21, 22] m m5153 := by rw [em5154]; exact W5136.put (by decide)
                refine pm_R_lo pm_M191 (pc_q := 43) rfl rfl rfl ?_
                refine pm_R_ret pm_M191 (r := some (.int 1)) rfl rfl ?_
                show pm_R _ 189 178 [.ref 41, .long a0, pm_no, .int a1, pm_no] [.int 1] _ _
                refine pm_R_br pm_M189 (pc_q := 183) (st_q := []) (pm_q189_1 (Nat.le_of_ble_eq_true rfl)) rfl ?_
                refine pm_R_lo pm_M189 (pc_q := 184) (pm_q189_1 (Nat.le_of_ble_eq_true rfl)) rfl rfl ?_
                refine pm_R_ldc2 pm_M189 (pc_q := 187) (pm_q189_1 (Nat.le_of_ble_eq_true rfl)) rfl rfl ?_
                refine pm_R_op pm_M189 (pc_q := 188) (st_q := [.int z342]) (pm_q189_1 (Nat.le_of_ble_eq_true rfl)) (by show some (Value.int (lg_cmp a0 1819242347) :: _) = _; rw [← e343]) rfl ?_
                refine pm_R_ifc pm_M189 (t := 205) (pc_q := 191) (pm_q189_1 (Nat.le_of_ble_eq_true rfl)) rfl rfl (fun c5169 => ?_) (fun c5169 => absurd (Classical.not_not.mp c5169) c344)
                have k5170 := sf_lneC e343 c5169
                refine pm_R_lo pm_M189 (pc_q := 206) (pm_q189_1 (Nat.le_of_ble_eq_true rfl)) rfl rfl ?_
                refine pm_R_ldc2 pm_M189 (pc_q := 209) (pm_q189_1 (Nat.le_of_ble_eq_true rfl)) rfl rfl ?_
                refine pm_R_op pm_M189 (pc_q := 210) (st_q := [.int z3944]) (pm_q189_1 (Nat.le_of_ble_eq_true rfl)) (by show some (Value.int (lg_cmp a0 1935767923) :: _) = _; rw [← e3945]) rfl ?_
                refine pm_R_ifc pm_M189 (t := 226) (pc_q := 213) (pm_q189_1 (Nat.le_of_ble_eq_true rfl)) rfl rfl (fun c5173 => absurd (sf_pt2 B3947 sf_k0) c5173) (fun c5173 => ?_)
                refine pm_R_lo pm_M189 (pc_q := 214) (pm_q189_1 (Nat.le_of_ble_eq_true rfl)) rfl rfl ?_
                refine pm_R_op pm_M189 (pc_q := 215) (st_q := [.int 2, .ref 41]) (pm_q189_1 (Nat.le_of_ble_eq_true rfl)) rfl rfl ?_
                refine pm_R_op pm_M189 (pc_q := 217) (st_q := [.int 9, .int 2, .ref 41]) (pm_q189_1 (Nat.le_of_ble_eq_true rfl)) rfl rfl ?_
                refine pm_R_op pm_M189 (pc_q := 218) (st_q := [.int (-1), .int 9, .int 2, .ref 41]) (pm_q189_1 (Nat.le_of_ble_eq_true rfl)) rfl rfl ?_
                refine pm_R_cv pm_M189 (pc_q := 221) (a := 41) (ra := [.int (-1), .int 9, .int 2]) (rest := []) (ls_q := [.ref 41, .int 2, .int 9, .int (-1)]) (pm_q189_2 (Nat.le_of_ble_eq_true rfl)) rfl (Or.inl rfl) pm_M183 T5151.2.1 rfl (by decide) (Nat.lt_of_lt_of_le (by decide) T5151.1) rfl rfl (Nat.le_of_ble_eq_true rfl) rfl rfl ?_
                have e5174 := (F5152.cell (by decide) e5144)
                refine rf_c183_2_9 (d := d + 1) T5151  (fun m5177 w5178 h5179 T5180 F5181 W5182 X5183 => ?_) (fun m5186 w5187 h5188 T5189 F5190 W5191 X5192 X5193 X5194 X5195 X5196 => ?_) (fun m5199 w5200 h5201 T5202 F5203 W5204 X5205 X5206 X5207 B5208 B5209 => ?_)
                · have F5210 := F5155.trans F5181 (by decide)
                  have B5211 : sf_B 0 99 (m5177 21) := by rw [W5182 21 (by decide)]; exact B5164
                  have ek5212 : (m5177 21).toInt = ((m4791 21)).toInt := by rw [W5182 21 (by decide)]; exact ek5165
                  have W5213 : rf_W [10, 12, 13, 14, 16, 17, 18, 21, 22] m m5177 := W5166.trans W5182 (by decide)
                  have B5214 : sf_B 0 600 (m5177 10) := T5180.2.2.1 10
                  have B5215 : sf_B 0 4 (m5177 13) := T5180.2.2.1 13
                  have B5216 : sf_B 0 4 (m5177 17) := T5180.2.2.1 17
                  have B5217 : sf_B 0 1 (m5177 22) := T5180.2.2.1 22
                  show pm_R _ 189 221 [.ref 41, .long a0, pm_no, .int a1, pm_no] [.int 0] _ _
                  have R5218 : (m 10).toInt ≤ (m5177 10).toInt := (sf_aux76 _ _ _ _ ek5157 R5141 X5183)
                  refine pm_R_br pm_M189 (pc_q := 224) (st_q := []) (pm_q189_2 (Nat.le_of_ble_eq_true rfl)) rfl ?_
                  refine pm_R_op pm_M189 (pc_q := 225) (st_q := [.int 0]) (pm_q189_2 (Nat.le_of_ble_eq_true rfl)) rfl rfl ?_
                  exact pm_R_ret pm_M189 (r := some (.int 0)) (pm_q189_2 (Nat.le_of_ble_eq_true rfl)) rfl (K0 m5177 w5178 h5179 T5180 F5210 W5213 (sf_aux51 _ _ R5218))
                · have F5219 := F5155.trans F5190 (by decide)
                  have B5220 : sf_B 0 99 (m5186 21) := by rw [W5191 21 (by decide)]; exact B5164
                  have ek5221 : (m5186 21).toInt = ((m4791 21)).toInt := by rw [W5191 21 (by decide)]; exact ek5165
                  have W5222 : rf_W [10, 12, 13, 14, 16, 17, 18, 21, 22] m m5186 := W5166.trans W5191 (by decide)
                  have B5223 : sf_B 0 600 (m5186 10) := T5189.2.2.1 10
                  have B5224 : sf_B 0 4 (m5186 13) := T5189.2.2.1 13
                  have B5225 : sf_B 0 4 (m5186 17) := T5189.2.2.1 17
                  have B5226 : sf_B 0 1 (m5186 22) := T5189.2.2.1 22
                  show pm_R _ 189 221 [.ref 41, .long a0, pm_no, .int a1, pm_no] [.int 1] _ _
                  have R5227 : (m 10).toInt ≤ (m5186 10).toInt := (sf_aux76 _ _ _ _ ek5157 R5141 X5196)
                  obtain ⟨v5228, B5229, e5230⟩ := X5192 _ e5174
                  refine pm_R_br pm_M189 (pc_q := 226) (st_q := []) (pm_q189_2 (Nat.le_of_ble_eq_true rfl)) rfl ?_
                  refine pm_R_lo pm_M189 (pc_q := 227) (pm_q189_2 (Nat.le_of_ble_eq_true rfl)) rfl rfl ?_
                  refine pm_R_op pm_M189 (pc_q := 228) (st_q := [.int 1, .ref 41]) (pm_q189_2 (Nat.le_of_ble_eq_true rfl)) rfl rfl ?_
                  refine pm_R_op pm_M189 (pc_q := 229) (st_q := [.int 2, .int 1, .ref 41]) (pm_q189_2 (Nat.le_of_ble_eq_true rfl)) rfl rfl ?_
                  refine pm_R_op pm_M189 (pc_q := 230) (st_q := [.int 3, .int 2, .int 1, .ref 41]) (pm_q189_2 (Nat.le_of_ble_eq_true rfl)) rfl rfl ?_
                  refine pm_R_op pm_M189 (pc_q := 232) (st_q := [.int 50, .int 3, .int 2, .int 1, .ref 41]) (pm_q189_2 (Nat.le_of_ble_eq_true rfl)) rfl rfl ?_
                  refine pm_R_op pm_M189 (pc_q := 233) (st_q := [.int 0, .int 50, .int 3, .int 2, .int 1, .ref 41]) (pm_q189_2 (Nat.le_of_ble_eq_true rfl)) rfl rfl ?_
                  refine pm_R_cv pm_M189 (pc_q := 236) (a := 41) (ra := [.int 0, .int 50, .int 3, .int 2, .int 1]) (rest := []) (ls_q := [.ref 41, .int 1, .int 2, .int 3, .int 50, .int 0, pm_no, pm_no]) (pm_q189_2 (Nat.le_of_ble_eq_true rfl)) rfl (Or.inl rfl) pm_M185 T5189.2.1 rfl (by decide) (Nat.lt_of_lt_of_le (by decide) T5189.1) rfl rfl (Nat.le_of_ble_eq_true rfl) rfl rfl ?_
                  have e5231 := (F5190.cell (by decide) (F5152.cell (by decide) (F4795.cell (by decide) (F4764.cell (by decide) (F4751.cell (by decide) (F4746.cell (by decide) (F4741.cell (by decide) (F4736.cell (by decide) (F4714.cell (by decide) (F4698.cell (by decide) e3))))))))))
                  refine rf_c185_d (d := d + 3) T5189 (⟨f2, e5231, ct4, fun z => (sf_pos (sf_eqT X5193 B5160) (by decide) z)⟩) (fun z => sf_pos (sf_eqT X5193 B5160) (by decide) z) (fun m5234 w5235 h5236 T5237 F5238 W5239 X5240 => ?_)
                  have F5241 := F5219.trans F5238 (by decide)
                  have B5242 : sf_B 0 99 (m5234 21) := by rw [W5239 21 (by decide)]; exact B5220
                  have ek5243 : (m5234 21).toInt = ((m4791 21)).toInt := by rw [W5239 21 (by decide)]; exact ek5221
                  have B5244 : sf_B 0 600 (m5234 10) := by rw [W5239 10 (by decide)]; exact B5223
                  have ek5245 : (m5234 10).toInt = ((m5186 10)).toInt := by rw [W5239 10 (by decide)]
                  have B5246 : sf_B 0 4 (m5234 13) := by rw [W5239 13 (by decide)]; exact B5224
                  have ek5247 : (m5234 13).toInt = ((m5186 13)).toInt := by rw [W5239 13 (by decide)]
                  have B5248 : sf_B 1 4 (m5234 17) := by rw [W5239 17 (by decide)]; exact (sf_eqT X5193 B5160)
                  have ek5249 : (m5234 17).toInt = ((m5153 17)).toInt := by rw [W5239 17 (by decide)]; exact X5193
                  have B5250 : sf_B 0 0 (m5234 22) := by rw [W5239 22 (by decide)]; exact (sf_eqT X5194 B5162)
                  have ek5251 : (m5234 22).toInt = ((m5153 22)).toInt := by rw [W5239 22 (by decide)]; exact X5194
                  have W5252 : rf_W [10, 12, 13, 14, 16, 17, 18, 21, 22] m m5234 := W5222.trans W5239 (by decide)
                  show pm_R _ 189 236 [.ref 41, .long a0, pm_no, .int a1, pm_no] [] _ _
                  obtain ⟨f5253, e5254, ct5255, bd5256⟩ := X5240
                  refine pm_R_op pm_M189 (pc_q := 237) (st_q := [.int 1]) (pm_q189_2 (Nat.le_of_ble_eq_true rfl)) rfl rfl ?_
                  exact pm_R_ret pm_M189 (r := some (.int 1)) (pm_q189_2 (Nat.le_of_ble_eq_true rfl)) rfl (K1 m5234 w5235 h5236 T5237 F5241 W5252 (⟨f5253, e5254, ct5255, fun z => (sf_pos B5248 (by decide) z)⟩) (sf_aux39 _ _ _ ek5245 R5227))
                · have F5257 := F5155.trans F5203 (by decide)
                  have B5258 : sf_B 0 99 (m5199 21) := by rw [W5204 21 (by decide)]; exact B5164
                  have ek5259 : (m5199 21).toInt = ((m4791 21)).toInt := by rw [W5204 21 (by decide)]; exact ek5165
                  have W5260 : rf_W [10, 12, 13, 14, 16, 17, 18, 21, 22] m m5199 := W5166.trans W5204 (by decide)
                  have B5261 : sf_B 0 600 (m5199 10) := T5202.2.2.1 10
                  have B5262 : sf_B 0 4 (m5199 13) := T5202.2.2.1 13
                  have B5263 : sf_B 0 4 (m5199 17) := T5202.2.2.1 17
                  have B5264 : sf_B 0 1 (m5199 22) := T5202.2.2.1 22
                  show pm_R _ 189 221 [.ref 41, .long a0, pm_no, .int a1, pm_no] [.int 1] _ _
                  have R5265 : (m 10).toInt ≤ (m5199 10).toInt := (sf_aux76 _ _ _ _ ek5157 R5141 X5207)
                  obtain ⟨v5266, B5267, e5268⟩ := X5205 _ e5174
                  refine pm_R_br pm_M189 (pc_q := 226) (st_q := []) (pm_q189_2 (Nat.le_of_ble_eq_true rfl)) rfl ?_
                  refine pm_R_lo pm_M189 (pc_q := 227) (pm_q189_2 (Nat.le_of_ble_eq_true rfl)) rfl rfl ?_
                  refine pm_R_op pm_M189 (pc_q := 228) (st_q := [.int 1, .ref 41]) (pm_q189_2 (Nat.le_of_ble_eq_true rfl)) rfl rfl ?_
                  refine pm_R_op pm_M189 (pc_q := 229) (st_q := [.int 2, .int 1, .ref 41]) (pm_q189_2 (Nat.le_of_ble_eq_true rfl)) rfl rfl ?_
                  refine pm_R_op pm_M189 (pc_q := 230) (st_q := [.int 3, .int 2, .int 1, .ref 41]) (pm_q189_2 (Nat.le_of_ble_eq_true rfl)) rfl rfl ?_
                  refine pm_R_op pm_M189 (pc_q := 232) (st_q := [.int 50, .int 3, .int 2, .int 1, .ref 41]) (pm_q189_2 (Nat.le_of_ble_eq_true rfl)) rfl rfl ?_
                  refine pm_R_op pm_M189 (pc_q := 233) (st_q := [.int 0, .int 50, .int 3, .int 2, .int 1, .ref 41]) (pm_q189_2 (Nat.le_of_ble_eq_true rfl)) rfl rfl ?_
                  refine pm_R_cv pm_M189 (pc_q := 236) (a := 41) (ra := [.int 0, .int 50, .int 3, .int 2, .int 1]) (rest := []) (ls_q := [.ref 41, .int 1, .int 2, .int 3, .int 50, .int 0, pm_no, pm_no]) (pm_q189_2 (Nat.le_of_ble_eq_true rfl)) rfl (Or.inl rfl) pm_M185 T5202.2.1 rfl (by decide) (Nat.lt_of_lt_of_le (by decide) T5202.1) rfl rfl (Nat.le_of_ble_eq_true rfl) rfl rfl ?_
                  have e5269 := (F5203.cell (by decide) (F5152.cell (by decide) (F4795.cell (by decide) (F4764.cell (by decide) (F4751.cell (by decide) (F4746.cell (by decide) (F4741.cell (by decide) (F4736.cell (by decide) (F4714.cell (by decide) (F4698.cell (by decide) e3))))))))))
                  refine rf_c185_d (d := d + 3) T5202 (⟨f2, e5269, ct4, fun z => (sf_pos B5208 (by decide) z)⟩) (fun z => sf_pos B5208 (by decide) z) (fun m5272 w5273 h5274 T5275 F5276 W5277 X5278 => ?_)
                  have F5279 := F5257.trans F5276 (by decide)
                  have B5280 : sf_B 0 99 (m5272 21) := by rw [W5277 21 (by decide)]; exact B5258
                  have ek5281 : (m5272 21).toInt = ((m4791 21)).toInt := by rw [W5277 21 (by decide)]; exact ek5259
                  have B5282 : sf_B 0 600 (m5272 10) := by rw [W5277 10 (by decide)]; exact B5261
                  have ek5283 : (m5272 10).toInt = ((m5199 10)).toInt := by rw [W5277 10 (by decide)]
                  have B5284 : sf_B 0 4 (m5272 13) := by rw [W5277 13 (by decide)]; exact B5262
                  have ek5285 : (m5272 13).toInt = ((m5199 13)).toInt := by rw [W5277 13 (by decide)]
                  have B5286 : sf_B 1 4 (m5272 17) := by rw [W5277 17 (by decide)]; exact B5208
                  have ek5287 : (m5272 17).toInt = ((m5199 17)).toInt := by rw [W5277 17 (by decide)]
                  have B5288 : sf_B 0 0 (m5272 22) := by rw [W5277 22 (by decide)]; exact B5209
                  have ek5289 : (m5272 22).toInt = ((m5199 22)).toInt := by rw [W5277 22 (by decide)]
                  have W5290 : rf_W [10, 12, 13, 14, 16, 17, 18, 21, 22] m m5272 := W5260.trans W5277 (by decide)
                  show pm_R _ 189 236 [.ref 41, .long a0, pm_no, .int a1, pm_no] [] _ _
                  obtain ⟨f5291, e5292, ct5293, bd5294⟩ := X5278
                  refine pm_R_op pm_M189 (pc_q := 237) (st_q := [.int 1]) (pm_q189_2 (Nat.le_of_ble_eq_true rfl)) rfl rfl ?_
                  exact pm_R_ret pm_M189 (r := some (.int 1)) (pm_q189_2 (Nat.le_of_ble_eq_true rfl)) rfl (K1 m5272 w5273 h5274 T5275 F5279 W5290 (⟨f5291, e5292, ct5293, fun z => (sf_pos B5286 (by decide) z)⟩) (sf_aux39 _ _ _ ek5283 R5265))
              · have B5295 : sf_B (-1) 98 (m4791 21) := sf_ltL (Int32.not_le.mp c5148) B5147 B5143
                refine pm_R_lo pm_M191 (pc_q := 27) rfl rfl rfl ?_
                refine rf_R_get pm_M191 T4794 (pc_q := 30) (v := .ref 52) rfl rfl rfl rfl ?_
                refine pm_R_lo pm_M191 (pc_q := 31) rfl rfl rfl ?_
                refine pm_R_iald pm_M191 (pc_q := 32) (v := v5142) rfl e5144 (Nat.lt_of_lt_of_le (by decide) T4794.1) rfl sf_upd_eq rfl ?_
                refine pm_R_br pm_M191 (pc_q := 39) rfl rfl ?_
                refine rf_R_put pm_M191 T4794 (pc_q := 42) rfl rfl rfl (by decide) rfl rfl (sf_weak B5143 (by decide) (by decide)) rfl rfl (fun h5298 m5301 em5302 T5299 F5300 => ?_)
                have F5303 := F5135.trans F5300 (by decide)
                have B5304 : sf_B 0 600 (m5301 10) := by rw [em5302]; exact B5137
                have ek5305 : (m5301 10).toInt = ((m4791 10)).toInt := by rw [em5302]; rfl
                have B5306 : sf_B 0 4 (m5301 13) := by rw [em5302]; exact B5138
                have ek5307 : (m5301 13).toInt = ((m4791 13)).toInt := by rw [em5302]; rfl
                have B5308 : sf_B 1 4 (m5301 17) := by rw [em5302]; exact B4800
                have ek5309 : (m5301 17).toInt = ((m4791 17)).toInt := by rw [em5302]; rfl
                have B5310 : sf_B 0 0 (m5301 22) := by rw [em5302]; exact B4801
                have ek5311 : (m5301 22).toInt = ((m4791 22)).toInt := by rw [em5302]; rfl
                have B5312 : sf_B 0 99 (m5301 21) := by rw [em5302]; exact B5143
                have ek5313 : (m5301 21).toInt = (v5142).toInt := by rw [em5302]; rfl
                have W5314 : rf_W [10, 12, 13, 14, 16, 17, 18, 21, 22] m m5301 := by rw [em5302]; exact W5136.put (by decide)
                refine pm_R_lo pm_M191 (pc_q := 43) rfl rfl rfl ?_
                refine pm_R_ret pm_M191 (r := some (.int 1)) rfl rfl ?_
                show pm_R _ 189 178 [.ref 41, .long a0, pm_no, .int a1, pm_no] [.int 1] _ _
                refine pm_R_br pm_M189 (pc_q := 183) (st_q := []) (pm_q189_1 (Nat.le_of_ble_eq_true rfl)) rfl ?_
                refine pm_R_lo pm_M189 (pc_q := 184) (pm_q189_1 (Nat.le_of_ble_eq_true rfl)) rfl rfl ?_
                refine pm_R_ldc2 pm_M189 (pc_q := 187) (pm_q189_1 (Nat.le_of_ble_eq_true rfl)) rfl rfl ?_
                refine pm_R_op pm_M189 (pc_q := 188) (st_q := [.int z342]) (pm_q189_1 (Nat.le_of_ble_eq_true rfl)) (by show some (Value.int (lg_cmp a0 1819242347) :: _) = _; rw [← e343]) rfl ?_
                refine pm_R_ifc pm_M189 (t := 205) (pc_q := 191) (pm_q189_1 (Nat.le_of_ble_eq_true rfl)) rfl rfl (fun c5317 => ?_) (fun c5317 => absurd (Classical.not_not.mp c5317) c344)
                have k5318 := sf_lneC e343 c5317
                refine pm_R_lo pm_M189 (pc_q := 206) (pm_q189_1 (Nat.le_of_ble_eq_true rfl)) rfl rfl ?_
                refine pm_R_ldc2 pm_M189 (pc_q := 209) (pm_q189_1 (Nat.le_of_ble_eq_true rfl)) rfl rfl ?_
                refine pm_R_op pm_M189 (pc_q := 210) (st_q := [.int z3944]) (pm_q189_1 (Nat.le_of_ble_eq_true rfl)) (by show some (Value.int (lg_cmp a0 1935767923) :: _) = _; rw [← e3945]) rfl ?_
                refine pm_R_ifc pm_M189 (t := 226) (pc_q := 213) (pm_q189_1 (Nat.le_of_ble_eq_true rfl)) rfl rfl (fun c5321 => absurd (sf_pt2 B3947 sf_k0) c5321) (fun c5321 => ?_)
                refine pm_R_lo pm_M189 (pc_q := 214) (pm_q189_1 (Nat.le_of_ble_eq_true rfl)) rfl rfl ?_
                refine pm_R_op pm_M189 (pc_q := 215) (st_q := [.int 2, .ref 41]) (pm_q189_1 (Nat.le_of_ble_eq_true rfl)) rfl rfl ?_
                refine pm_R_op pm_M189 (pc_q := 217) (st_q := [.int 9, .int 2, .ref 41]) (pm_q189_1 (Nat.le_of_ble_eq_true rfl)) rfl rfl ?_
                refine pm_R_op pm_M189 (pc_q := 218) (st_q := [.int (-1), .int 9, .int 2, .ref 41]) (pm_q189_1 (Nat.le_of_ble_eq_true rfl)) rfl rfl ?_
                refine pm_R_cv pm_M189 (pc_q := 221) (a := 41) (ra := [.int (-1), .int 9, .int 2]) (rest := []) (ls_q := [.ref 41, .int 2, .int 9, .int (-1)]) (pm_q189_2 (Nat.le_of_ble_eq_true rfl)) rfl (Or.inl rfl) pm_M183 T5299.2.1 rfl (by decide) (Nat.lt_of_lt_of_le (by decide) T5299.1) rfl rfl (Nat.le_of_ble_eq_true rfl) rfl rfl ?_
                have e5322 := (F5300.cell (by decide) e5144)
                refine rf_c183_2_9 (d := d + 1) T5299  (fun m5325 w5326 h5327 T5328 F5329 W5330 X5331 => ?_) (fun m5334 w5335 h5336 T5337 F5338 W5339 X5340 X5341 X5342 X5343 X5344 => ?_) (fun m5347 w5348 h5349 T5350 F5351 W5352 X5353 X5354 X5355 B5356 B5357 => ?_)
                · have F5358 := F5303.trans F5329 (by decide)
                  have B5359 : sf_B 0 99 (m5325 21) := by rw [W5330 21 (by decide)]; exact B5312
                  have ek5360 : (m5325 21).toInt = (v5142).toInt := by rw [W5330 21 (by decide)]; exact ek5313
                  have W5361 : rf_W [10, 12, 13, 14, 16, 17, 18, 21, 22] m m5325 := W5314.trans W5330 (by decide)
                  have B5362 : sf_B 0 600 (m5325 10) := T5328.2.2.1 10
                  have B5363 : sf_B 0 4 (m5325 13) := T5328.2.2.1 13
                  have B5364 : sf_B 0 4 (m5325 17) := T5328.2.2.1 17
                  have B5365 : sf_B 0 1 (m5325 22) := T5328.2.2.1 22
                  show pm_R _ 189 221 [.ref 41, .long a0, pm_no, .int a1, pm_no] [.int 0] _ _
                  have R5366 : (m 10).toInt ≤ (m5325 10).toInt := (sf_aux76 _ _ _ _ ek5305 R5141 X5331)
                  refine pm_R_br pm_M189 (pc_q := 224) (st_q := []) (pm_q189_2 (Nat.le_of_ble_eq_true rfl)) rfl ?_
                  refine pm_R_op pm_M189 (pc_q := 225) (st_q := [.int 0]) (pm_q189_2 (Nat.le_of_ble_eq_true rfl)) rfl rfl ?_
                  exact pm_R_ret pm_M189 (r := some (.int 0)) (pm_q189_2 (Nat.le_of_ble_eq_true rfl)) rfl (K0 m5325 w5326 h5327 T5328 F5358 W5361 (sf_aux51 _ _ R5366))
                · have F5367 := F5303.trans F5338 (by decide)
                  have B5368 : sf_B 0 99 (m5334 21) := by rw [W5339 21 (by decide)]; exact B5312
                  have ek5369 : (m5334 21).toInt = (v5142).toInt := by rw [W5339 21 (by decide)]; exact ek5313
                  have W5370 : rf_W [10, 12, 13, 14, 16, 17, 18, 21, 22] m m5334 := W5314.trans W5339 (by decide)
                  have B5371 : sf_B 0 600 (m5334 10) := T5337.2.2.1 10
                  have B5372 : sf_B 0 4 (m5334 13) := T5337.2.2.1 13
                  have B5373 : sf_B 0 4 (m5334 17) := T5337.2.2.1 17
                  have B5374 : sf_B 0 1 (m5334 22) := T5337.2.2.1 22
                  show pm_R _ 189 221 [.ref 41, .long a0, pm_no, .int a1, pm_no] [.int 1] _ _
                  have R5375 : (m 10).toInt ≤ (m5334 10).toInt := (sf_aux76 _ _ _ _ ek5305 R5141 X5344)
                  obtain ⟨v5376, B5377, e5378⟩ := X5340 _ e5322
                  refine pm_R_br pm_M189 (pc_q := 226) (st_q := []) (pm_q189_2 (Nat.le_of_ble_eq_true rfl)) rfl ?_
                  refine pm_R_lo pm_M189 (pc_q := 227) (pm_q189_2 (Nat.le_of_ble_eq_true rfl)) rfl rfl ?_
                  refine pm_R_op pm_M189 (pc_q := 228) (st_q := [.int 1, .ref 41]) (pm_q189_2 (Nat.le_of_ble_eq_true rfl)) rfl rfl ?_
                  refine pm_R_op pm_M189 (pc_q := 229) (st_q := [.int 2, .int 1, .ref 41]) (pm_q189_2 (Nat.le_of_ble_eq_true rfl)) rfl rfl ?_
                  refine pm_R_op pm_M189 (pc_q := 230) (st_q := [.int 3, .int 2, .int 1, .ref 41]) (pm_q189_2 (Nat.le_of_ble_eq_true rfl)) rfl rfl ?_
                  refine pm_R_op pm_M189 (pc_q := 232) (st_q := [.int 50, .int 3, .int 2, .int 1, .ref 41]) (pm_q189_2 (Nat.le_of_ble_eq_true rfl)) rfl rfl ?_
                  refine pm_R_op pm_M189 (pc_q := 233) (st_q := [.int 0, .int 50, .int 3, .int 2, .int 1, .ref 41]) (pm_q189_2 (Nat.le_of_ble_eq_true rfl)) rfl rfl ?_
                  refine pm_R_cv pm_M189 (pc_q := 236) (a := 41) (ra := [.int 0, .int 50, .int 3, .int 2, .int 1]) (rest := []) (ls_q := [.ref 41, .int 1, .int 2, .int 3, .int 50, .int 0, pm_no, pm_no]) (pm_q189_2 (Nat.le_of_ble_eq_true rfl)) rfl (Or.inl rfl) pm_M185 T5337.2.1 rfl (by decide) (Nat.lt_of_lt_of_le (by decide) T5337.1) rfl rfl (Nat.le_of_ble_eq_true rfl) rfl rfl ?_
                  have e5379 := (F5338.cell (by decide) (F5300.cell (by decide) (F4795.cell (by decide) (F4764.cell (by decide) (F4751.cell (by decide) (F4746.cell (by decide) (F4741.cell (by decide) (F4736.cell (by decide) (F4714.cell (by decide) (F4698.cell (by decide) e3))))))))))
                  refine rf_c185_d (d := d + 3) T5337 (⟨f2, e5379, ct4, fun z => (sf_pos (sf_eqT X5341 B5308) (by decide) z)⟩) (fun z => sf_pos (sf_eqT X5341 B5308) (by decide) z) (fun m5382 w5383 h5384 T5385 F5386 W5387 X5388 => ?_)
                  have F5389 := F5367.trans F5386 (by decide)
                  have B5390 : sf_B 0 99 (m5382 21) := by rw [W5387 21 (by decide)]; exact B5368
                  have ek5391 : (m5382 21).toInt = (v5142).toInt := by rw [W5387 21 (by decide)]; exact ek5369
                  have B5392 : sf_B 0 600 (m5382 10) := by rw [W5387 10 (by decide)]; exact B5371
                  have ek5393 : (m5382 10).toInt = ((m5334 10)).toInt := by rw [W5387 10 (by decide)]
                  have B5394 : sf_B 0 4 (m5382 13) := by rw [W5387 13 (by decide)]; exact B5372
                  have ek5395 : (m5382 13).toInt = ((m5334 13)).toInt := by rw [W5387 13 (by decide)]
                  have B5396 : sf_B 1 4 (m5382 17) := by rw [W5387 17 (by decide)]; exact (sf_eqT X5341 B5308)
                  have ek5397 : (m5382 17).toInt = ((m5301 17)).toInt := by rw [W5387 17 (by decide)]; exact X5341
                  have B5398 : sf_B 0 0 (m5382 22) := by rw [W5387 22 (by decide)]; exact (sf_eqT X5342 B5310)
                  have ek5399 : (m5382 22).toInt = ((m5301 22)).toInt := by rw [W5387 22 (by decide)]; exact X5342
                  have W5400 : rf_W [10, 12, 13, 14, 16, 17, 18, 21, 22] m m5382 := W5370.trans W5387 (by decide)
                  show pm_R _ 189 236 [.ref 41, .long a0, pm_no, .int a1, pm_no] [] _ _
                  obtain ⟨f5401, e5402, ct5403, bd5404⟩ := X5388
                  refine pm_R_op pm_M189 (pc_q := 237) (st_q := [.int 1]) (pm_q189_2 (Nat.le_of_ble_eq_true rfl)) rfl rfl ?_
                  exact pm_R_ret pm_M189 (r := some (.int 1)) (pm_q189_2 (Nat.le_of_ble_eq_true rfl)) rfl (K1 m5382 w5383 h5384 T5385 F5389 W5400 (⟨f5401, e5402, ct5403, fun z => (sf_pos B5396 (by decide) z)⟩) (sf_aux39 _ _ _ ek5393 R5375))
                · have F5405 := F5303.trans F5351 (by decide)
                  have B5406 : sf_B 0 99 (m5347 21) := by rw [W5352 21 (by decide)]; exact B5312
                  have ek5407 : (m5347 21).toInt = (v5142).toInt := by rw [W5352 21 (by decide)]; exact ek5313
                  have W5408 : rf_W [10, 12, 13, 14, 16, 17, 18, 21, 22] m m5347 := W5314.trans W5352 (by decide)
                  have B5409 : sf_B 0 600 (m5347 10) := T5350.2.2.1 10
                  have B5410 : sf_B 0 4 (m5347 13) := T5350.2.2.1 13
                  have B5411 : sf_B 0 4 (m5347 17) := T5350.2.2.1 17
                  have B5412 : sf_B 0 1 (m5347 22) := T5350.2.2.1 22
                  show pm_R _ 189 221 [.ref 41, .long a0, pm_no, .int a1, pm_no] [.int 1] _ _
                  have R5413 : (m 10).toInt ≤ (m5347 10).toInt := (sf_aux76 _ _ _ _ ek5305 R5141 X5355)
                  obtain ⟨v5414, B5415, e5416⟩ := X5353 _ e5322
                  refine pm_R_br pm_M189 (pc_q := 226) (st_q := []) (pm_q189_2 (Nat.le_of_ble_eq_true rfl)) rfl ?_
                  refine pm_R_lo pm_M189 (pc_q := 227) (pm_q189_2 (Nat.le_of_ble_eq_true rfl)) rfl rfl ?_
                  refine pm_R_op pm_M189 (pc_q := 228) (st_q := [.int 1, .ref 41]) (pm_q189_2 (Nat.le_of_ble_eq_true rfl)) rfl rfl ?_
                  refine pm_R_op pm_M189 (pc_q := 229) (st_q := [.int 2, .int 1, .ref 41]) (pm_q189_2 (Nat.le_of_ble_eq_true rfl)) rfl rfl ?_
                  refine pm_R_op pm_M189 (pc_q := 230) (st_q := [.int 3, .int 2, .int 1, .ref 41]) (pm_q189_2 (Nat.le_of_ble_eq_true rfl)) rfl rfl ?_
                  refine pm_R_op pm_M189 (pc_q := 232) (st_q := [.int 50, .int 3, .int 2, .int 1, .ref 41]) (pm_q189_2 (Nat.le_of_ble_eq_true rfl)) rfl rfl ?_
                  refine pm_R_op pm_M189 (pc_q := 233) (st_q := [.int 0, .int 50, .int 3, .int 2, .int 1, .ref 41]) (pm_q189_2 (Nat.le_of_ble_eq_true rfl)) rfl rfl ?_
                  refine pm_R_cv pm_M189 (pc_q := 236) (a := 41) (ra := [.int 0, .int 50, .int 3, .int 2, .int 1]) (rest := []) (ls_q := [.ref 41, .int 1, .int 2, .int 3, .int 50, .int 0, pm_no, pm_no]) (pm_q189_2 (Nat.le_of_ble_eq_true rfl)) rfl (Or.inl rfl) pm_M185 T5350.2.1 rfl (by decide) (Nat.lt_of_lt_of_le (by decide) T5350.1) rfl rfl (Nat.le_of_ble_eq_true rfl) rfl rfl ?_
                  have e5417 := (F5351.cell (by decide) (F5300.cell (by decide) (F4795.cell (by decide) (F4764.cell (by decide) (F4751.cell (by decide) (F4746.cell (by decide) (F4741.cell (by decide) (F4736.cell (by decide) (F4714.cell (by decide) (F4698.cell (by decide) e3))))))))))
                  refine rf_c185_d (d := d + 3) T5350 (⟨f2, e5417, ct4, fun z => (sf_pos B5356 (by decide) z)⟩) (fun z => sf_pos B5356 (by decide) z) (fun m5420 w5421 h5422 T5423 F5424 W5425 X5426 => ?_)
                  have F5427 := F5405.trans F5424 (by decide)
                  have B5428 : sf_B 0 99 (m5420 21) := by rw [W5425 21 (by decide)]; exact B5406
                  have ek5429 : (m5420 21).toInt = (v5142).toInt := by rw [W5425 21 (by decide)]; exact ek5407
                  have B5430 : sf_B 0 600 (m5420 10) := by rw [W5425 10 (by decide)]; exact B5409
                  have ek5431 : (m5420 10).toInt = ((m5347 10)).toInt := by rw [W5425 10 (by decide)]
                  have B5432 : sf_B 0 4 (m5420 13) := by rw [W5425 13 (by decide)]; exact B5410
                  have ek5433 : (m5420 13).toInt = ((m5347 13)).toInt := by rw [W5425 13 (by decide)]
                  have B5434 : sf_B 1 4 (m5420 17) := by rw [W5425 17 (by decide)]; exact B5356
                  have ek5435 : (m5420 17).toInt = ((m5347 17)).toInt := by rw [W5425 17 (by decide)]
                  have B5436 : sf_B 0 0 (m5420 22) := by rw [W5425 22 (by decide)]; exact B5357
                  have ek5437 : (m5420 22).toInt = ((m5347 22)).toInt := by rw [W5425 22 (by decide)]
                  have W5438 : rf_W [10, 12, 13, 14, 16, 17, 18, 21, 22] m m5420 := W5408.trans W5425 (by decide)
                  show pm_R _ 189 236 [.ref 41, .long a0, pm_no, .int a1, pm_no] [] _ _
                  obtain ⟨f5439, e5440, ct5441, bd5442⟩ := X5426
                  refine pm_R_op pm_M189 (pc_q := 237) (st_q := [.int 1]) (pm_q189_2 (Nat.le_of_ble_eq_true rfl)) rfl rfl ?_
                  exact pm_R_ret pm_M189 (r := some (.int 1)) (pm_q189_2 (Nat.le_of_ble_eq_true rfl)) rfl (K1 m5420 w5421 h5422 T5423 F5427 W5438 (⟨f5439, e5440, ct5441, fun z => (sf_pos B5434 (by decide) z)⟩) (sf_aux39 _ _ _ ek5431 R5413))
        · have k5443 := sf_lneC e3945 c3946
          refine pm_R_lo pm_M189 (pc_q := 33) rfl rfl rfl ?_
          refine pm_R_cv pm_M189 (pc_q := 36) (a := 41) (ra := []) (rest := []) (ls_q := [.ref 41]) rfl rfl (Or.inl rfl) pm_M184 T.2.1 rfl (by decide) (Nat.lt_of_lt_of_le (by decide) T.1) rfl rfl (Nat.le_of_ble_eq_true rfl) rfl rfl ?_
          refine pm_R_lo pm_M184 (pc_q := 1) rfl rfl rfl ?_
          refine pm_R_lo pm_M184 (pc_q := 2) rfl rfl rfl ?_
          have B5444 : sf_B 0 600 (m 12) := T.2.2.1 12
          refine rf_R_get pm_M184 T (pc_q := 5) (v := .int (m 12)) rfl rfl rfl rfl ?_
          refine rf_R_put pm_M184 T (pc_q := 8) rfl rfl rfl (by decide) rfl rfl B5444 rfl rfl (fun h5445 m5448 em5449 T5446 F5447 => ?_)
          have F5450 := (rf_G.refl [41, 51, 52] h).trans F5447 (by decide)
          have B5451 : sf_B 0 600 (m5448 10) := by rw [em5449]; exact B1
          have ek5452 : (m5448 10).toInt = ((m 10)).toInt := by rw [em5449]; rfl
          have B5453 : sf_B 0 4 (m5448 17) := by rw [em5449]; exact B6
          have ek5454 : (m5448 17).toInt = ((m 17)).toInt := by rw [em5449]; rfl
          have B5455 : sf_B 0 600 (m5448 16) := by rw [em5449]; exact B5444
          have ek5456 : (m5448 16).toInt = ((m 12)).toInt := by rw [em5449]; rfl
          have W5457 : rf_W [10, 12, 13, 14, 16, 17, 18, 21, 22] m m5448 := by rw [em5449]; exact (rf_W.refl [10, 12, 13, 14, 16, 17, 18, 21, 22] m).put (by decide)
          have B5458 : sf_B 0 4 (m5448 13) := T5446.2.2.1 13
          have B5459 : sf_B 0 1 (m5448 22) := T5446.2.2.1 22
          refine pm_R_op pm_M184 (pc_q := 9) (st_q := [.int 0]) rfl rfl rfl ?_
          refine pm_R_ret pm_M184 (r := some (.int 0)) rfl rfl ?_
          show pm_R _ 189 36 [.ref 41, .long a0, pm_no, .int a1, pm_no] [.int 0] _ _
          exact pm_R_ret pm_M189 (r := some (.int 0)) rfl rfl (K0 m5448 w h5445 T5446 F5450 W5457 (sf_aux52 _ _ ek5452))
