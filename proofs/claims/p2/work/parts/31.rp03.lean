theorem sf_aux70 (v0 v1 v2 : Int) (q0 : v0 ≤ v1) (q1 : v1 ≤ v2) : v0 ≤ v2 := by omega
theorem sf_aux71 (v0 v1 v2 v3 v4 : Int) (q0 : v0 = v1) (q1 : v2 = v0) (q2 : v3 = v2) (q3 : v4 = v3) (q4 : v4 = 0) : v1 = 0 := by omega
theorem sf_aux72 (v0 v1 v2 : Int) (q0 : v0 = v1) (q1 : v2 = v0) : v2 = v1 := by omega
theorem sf_aux73 (v0 v1 v2 v3 : Int) (q0 : v0 = v1) (q1 : v2 = v0) (q2 : v3 = v2) (q3 : v3 = 0) : v1 = 0 := by omega
theorem sf_aux74 (v0 v1 : Int) (q0 : v0 = 90 + v1) : v0 = 90 + v1 := by omega
set_option maxRecDepth 100000 in
set_option maxHeartbeats 4000000 in
/-- SilentTableModel.listLine -/
theorem rf_c187 {d : Nat} {m : Nat → Int32} {w : Int64} {h : pm_H} {Q : Option Value → pm_H → Prop} {a0 : Int64} {a1 : Int32} (T : rf_T m w h) (Ba1 : sf_B 0 600 a1) (X : rf_I 0 (m 17) h) (K0 : ∀ (m' : Nat → Int32) (w' : Int64) (h' : pm_H), rf_T m' w' h' → rf_G [41, 51, 52] h h' → rf_W [10, 12, 13, 14, 16, 17, 18, 22] m m' → (m 10).toInt ≤ (m' 10).toInt → Q (some (.int 0)) h') (K1 : ∀ (m' : Nat → Int32) (w' : Int64) (h' : pm_H), rf_T m' w' h' → rf_G [41, 51, 52] h h' → rf_W [10, 12, 13, 14, 16, 17, 18, 22] m m' → rf_I 0 (m' 17) h' → (m 10).toInt ≤ (m' 10).toInt → Q (some (.int 1)) h') : pm_R (d + 3) 187 0 [.ref 41, .long a0, pm_no, .int a1] [] h Q := by
  have B1 : sf_B 0 600 (m 10) := T.2.2.1 10
  obtain ⟨f2, e3, ct4, bd5⟩ := X
  have B6 : sf_B 0 4 (m 17) := T.2.2.1 17
  refine pm_R_lo pm_M187 (pc' := 1) rfl rfl rfl ?_
  refine pm_R_ldc2 pm_M187 (pc' := 4) rfl rfl rfl ?_
  refine sf_R_lcmp pm_M187 (pc' := 5) rfl rfl (fun z7 e8 => ?_)
  refine pm_R_ifc pm_M187 (t := 29) (pc' := 8) rfl rfl rfl (fun c9 => ?_) (fun c9 => ?_)
  · have B10 : sf_B 0 0 z7 := sf_eqL c9 sf_k0
    have B11 : lf_B 1920298085 1920298085 a0 := lf_eqB e8 B10 (⟨by decide, by decide⟩ : lf_B 1920298085 1920298085 1920298085)
    refine pm_R_lo pm_M187 (pc' := 30) rfl rfl rfl ?_
    refine pm_R_ldc2 pm_M187 (pc' := 33) rfl rfl rfl ?_
    refine pm_R_op pm_M187 (pc' := 34) (st' := [.int z7]) rfl (by show some (Value.int (lg_cmp a0 1920298085) :: _) = _; rw [← e8]) rfl ?_
    refine pm_R_ifc pm_M187 (t := 48) (pc' := 37) rfl rfl rfl (fun c14 => absurd (sf_pt2 B10 sf_k0) c14) (fun c14 => ?_)
    refine pm_R_lo pm_M187 (pc' := 38) rfl rfl rfl ?_
    refine rf_R_get pm_M187 T (pc' := 41) (v := .ref 51) rfl rfl rfl rfl ?_
    refine pm_R_op pm_M187 (pc' := 42) (st' := [.int 0, .ref 51]) rfl rfl rfl ?_
    refine pm_R_iald pm_M187 (pc' := 43) (v := (f2 0)) rfl e3 (Nat.lt_of_lt_of_le (by decide) T.1) rfl rfl rfl ?_
    refine pm_R_op pm_M187 (pc' := 45) (st' := [.int 10, .int (f2 0)]) rfl rfl rfl ?_
    refine pm_R_icmp pm_M187 (t := 67) (pc' := 48) rfl rfl rfl (fun c17 => ?_) (fun c17 => ?_)
    · have B18 : sf_B 10 10 (f2 0) := sf_eqL c17 sf_k10
      refine pm_R_lo pm_M187 (pc' := 68) rfl rfl rfl ?_
      refine pm_R_op pm_M187 (pc' := 69) (st' := [.int 3, .ref 41]) rfl rfl rfl ?_
      refine pm_R_lo pm_M187 (pc' := 70) rfl rfl rfl ?_
      refine pm_R_cv pm_M187 (pc' := 73) (a := 41) (ra := [.int a1, .int 3]) (rest := []) (ls' := [.ref 41, .int 3, .int a1]) rfl rfl (Or.inl rfl) pm_M182 T.2.1 rfl (by decide) (Nat.lt_of_lt_of_le (by decide) T.1) rfl rfl (Nat.le_of_ble_eq_true rfl) rfl rfl ?_
      refine rf_c182 (d := d + 2) T (sf_weak sf_k3 (by decide) (by decide)) Ba1 (fun m21 w22 h23 T24 F25 W26 B27 => ?_)
      have F28 := (rf_G.refl [41, 51, 52] h).trans F25 (by decide)
      have B29 : sf_B 0 600 (m21 10) := by rw [W26 10 (by decide)]; exact B1
      have ek30 : (m21 10).toInt = ((m 10)).toInt := by rw [W26 10 (by decide)]
      have W31 : rf_W [10, 12, 13, 14, 16, 17, 18, 22] m m21 := (rf_W.refl [10, 12, 13, 14, 16, 17, 18, 22] m).trans W26 (by decide)
      have B32 : sf_B 0 4 (m21 17) := T24.2.2.1 17
      have B33 : sf_B 0 1 (m21 22) := T24.2.2.1 22
      show pm_R _ 187 73 [.ref 41, .long a0, pm_no, .int a1] [] _ _
      refine pm_R_lo pm_M187 (pc' := 74) rfl rfl rfl ?_
      refine pm_R_cv pm_M187 (pc' := 77) (a := 41) (ra := []) (rest := []) (ls' := [.ref 41, pm_no, pm_no]) rfl rfl (Or.inl rfl) pm_M179 T24.2.1 rfl (by decide) (Nat.lt_of_lt_of_le (by decide) T24.1) rfl rfl (Nat.le_of_ble_eq_true rfl) rfl rfl ?_
      refine rf_c179 (d := d + 1) T24  (fun m36 w37 h38 T39 F40 W41 X42 X43 => ?_)
      have F44 := F28.trans F40 (by decide)
      have B45 : sf_B 1 4 (m36 17) := by rw [W41 17 (by decide)]; exact B27
      have ek46 : (m36 17).toInt = ((m21 17)).toInt := by rw [W41 17 (by decide)]
      have B47 : sf_B 0 1 (m36 22) := by rw [W41 22 (by decide)]; exact B33
      have ek48 : (m36 22).toInt = ((m21 22)).toInt := by rw [W41 22 (by decide)]
      have W49 : rf_W [10, 12, 13, 14, 16, 17, 18, 22] m m36 := W31.trans W41 (by decide)
      have B50 : sf_B 0 600 (m36 10) := T39.2.2.1 10
      show pm_R _ 187 77 [.ref 41, .long a0, pm_no, .int a1] [] _ _
      have R51 : (m 10).toInt ≤ (m36 10).toInt := (sf_aux53 _ _ _ ek30 X42)
      refine pm_R_lo pm_M187 (pc' := 78) rfl rfl rfl ?_
      refine pm_R_ldc2 pm_M187 (pc' := 81) rfl rfl rfl ?_
      refine pm_R_op pm_M187 (pc' := 82) (st' := [.int z7]) rfl (by show some (Value.int (lg_cmp a0 1920298085) :: _) = _; rw [← e8]) rfl ?_
      refine pm_R_ifc pm_M187 (t := 136) (pc' := 85) rfl rfl rfl (fun c54 => absurd (sf_pt2 B10 sf_k0) c54) (fun c54 => ?_)
      refine pm_R_lo pm_M187 (pc' := 86) rfl rfl rfl ?_
      refine pm_R_op pm_M187 (pc' := 87) (st' := [.int 0, .ref 41]) rfl rfl rfl ?_
      refine pm_R_op pm_M187 (pc' := 88) (st' := [.int 5, .int 0, .ref 41]) rfl rfl rfl ?_
      refine pm_R_op pm_M187 (pc' := 89) (st' := [.int (-1), .int 5, .int 0, .ref 41]) rfl rfl rfl ?_
      refine pm_R_cv pm_M187 (pc' := 92) (a := 41) (ra := [.int (-1), .int 5, .int 0]) (rest := []) (ls' := [.ref 41, .int 0, .int 5, .int (-1)]) rfl rfl (Or.inl rfl) pm_M183 T39.2.1 rfl (by decide) (Nat.lt_of_lt_of_le (by decide) T39.1) rfl rfl (Nat.le_of_ble_eq_true rfl) rfl rfl ?_
      obtain ⟨f55, e56, b57⟩ := T39.2.2.2.1 52 (by decide) (by decide)
      refine rf_c183_0_5 (d := d + 0) T39  (fun m60 w61 h62 T63 F64 W65 X66 => ?_) (fun m69 w70 h71 T72 F73 W74 X75 X76 X77 X78 X79 => ?_) (fun m82 w83 h84 T85 F86 W87 X88 X89 X90 B91 B92 => ?_)
      · have F93 := F44.trans F64 (by decide)
        have W94 : rf_W [10, 12, 13, 14, 16, 17, 18, 22] m m60 := W49.trans W65 (by decide)
        have B95 : sf_B 0 600 (m60 10) := T63.2.2.1 10
        have B96 : sf_B 0 4 (m60 17) := T63.2.2.1 17
        have B97 : sf_B 0 1 (m60 22) := T63.2.2.1 22
        show pm_R _ 187 92 [.ref 41, .long a0, pm_no, .int a1] [.int 0] _ _
        have R98 : (m 10).toInt ≤ (m60 10).toInt := (sf_aux70 _ _ _ R51 X66)
        refine pm_R_br pm_M187 (pc' := 122) (st' := []) rfl rfl ?_
        refine pm_R_op pm_M187 (pc' := 123) (st' := [.int 0]) (pm_q187_1 (Nat.le_of_ble_eq_true rfl)) rfl rfl ?_
        exact pm_R_ret pm_M187 (r := some (.int 0)) (pm_q187_1 (Nat.le_of_ble_eq_true rfl)) rfl (K0 m60 w61 h62 T63 F93 W94 (sf_aux51 _ _ R98))
      · have F99 := F44.trans F73 (by decide)
        have W100 : rf_W [10, 12, 13, 14, 16, 17, 18, 22] m m69 := W49.trans W74 (by decide)
        have B101 : sf_B 0 600 (m69 10) := T72.2.2.1 10
        have B102 : sf_B 0 4 (m69 17) := T72.2.2.1 17
        have B103 : sf_B 0 1 (m69 22) := T72.2.2.1 22
        show pm_R _ 187 92 [.ref 41, .long a0, pm_no, .int a1] [.int 1] _ _
        have R104 : (m 10).toInt ≤ (m69 10).toInt := (sf_aux70 _ _ _ R51 X79)
        obtain ⟨v105, B106, e107⟩ := X75 _ e56
        refine pm_R_br pm_M187 (pc' := 95) (st' := []) rfl rfl ?_
        refine pm_R_lo pm_M187 (pc' := 96) rfl rfl rfl ?_
        refine pm_R_op pm_M187 (pc' := 97) (st' := [.int 1, .ref 41]) rfl rfl rfl ?_
        refine pm_R_op pm_M187 (pc' := 98) (st' := [.int 5, .int 1, .ref 41]) rfl rfl rfl ?_
        refine pm_R_op pm_M187 (pc' := 99) (st' := [.int (-1), .int 5, .int 1, .ref 41]) rfl rfl rfl ?_
        refine pm_R_cv pm_M187 (pc' := 102) (a := 41) (ra := [.int (-1), .int 5, .int 1]) (rest := []) (ls' := [.ref 41, .int 1, .int 5, .int (-1)]) rfl rfl (Or.inl rfl) pm_M183 T72.2.1 rfl (by decide) (Nat.lt_of_lt_of_le (by decide) T72.1) rfl rfl (Nat.le_of_ble_eq_true rfl) rfl rfl ?_
        refine rf_c183_1_5 (d := d + 0) T72  (fun m110 w111 h112 T113 F114 W115 X116 => ?_) (fun m119 w120 h121 T122 F123 W124 X125 X126 X127 X128 X129 => ?_) (fun m132 w133 h134 T135 F136 W137 X138 X139 X140 B141 B142 => ?_)
        · have F143 := F99.trans F114 (by decide)
          have W144 : rf_W [10, 12, 13, 14, 16, 17, 18, 22] m m110 := W100.trans W115 (by decide)
          have B145 : sf_B 0 600 (m110 10) := T113.2.2.1 10
          have B146 : sf_B 0 4 (m110 17) := T113.2.2.1 17
          have B147 : sf_B 0 1 (m110 22) := T113.2.2.1 22
          show pm_R _ 187 102 [.ref 41, .long a0, pm_no, .int a1] [.int 0] _ _
          have R148 : (m 10).toInt ≤ (m110 10).toInt := (sf_aux70 _ _ _ R104 X116)
          refine pm_R_br pm_M187 (pc' := 122) (st' := []) rfl rfl ?_
          refine pm_R_op pm_M187 (pc' := 123) (st' := [.int 0]) (pm_q187_1 (Nat.le_of_ble_eq_true rfl)) rfl rfl ?_
          exact pm_R_ret pm_M187 (r := some (.int 0)) (pm_q187_1 (Nat.le_of_ble_eq_true rfl)) rfl (K0 m110 w111 h112 T113 F143 W144 (sf_aux51 _ _ R148))
        · have F149 := F99.trans F123 (by decide)
          have W150 : rf_W [10, 12, 13, 14, 16, 17, 18, 22] m m119 := W100.trans W124 (by decide)
          have B151 : sf_B 0 600 (m119 10) := T122.2.2.1 10
          have B152 : sf_B 0 4 (m119 17) := T122.2.2.1 17
          have B153 : sf_B 0 1 (m119 22) := T122.2.2.1 22
          show pm_R _ 187 102 [.ref 41, .long a0, pm_no, .int a1] [.int 1] _ _
          have R154 : (m 10).toInt ≤ (m119 10).toInt := (sf_aux70 _ _ _ R104 X129)
          obtain ⟨v155, B156, e157⟩ := X125 _ e107
          refine pm_R_br pm_M187 (pc' := 105) (st' := []) rfl rfl ?_
          refine pm_R_lo pm_M187 (pc' := 106) rfl rfl rfl ?_
          refine pm_R_op pm_M187 (pc' := 107) (st' := [.int 2, .ref 41]) rfl rfl rfl ?_
          refine pm_R_op pm_M187 (pc' := 108) (st' := [.int 5, .int 2, .ref 41]) rfl rfl rfl ?_
          refine pm_R_op pm_M187 (pc' := 109) (st' := [.int (-1), .int 5, .int 2, .ref 41]) (pm_q187_1 (Nat.le_of_ble_eq_true rfl)) rfl rfl ?_
          refine pm_R_cv pm_M187 (pc' := 112) (a := 41) (ra := [.int (-1), .int 5, .int 2]) (rest := []) (ls' := [.ref 41, .int 2, .int 5, .int (-1)]) (pm_q187_1 (Nat.le_of_ble_eq_true rfl)) rfl (Or.inl rfl) pm_M183 T122.2.1 rfl (by decide) (Nat.lt_of_lt_of_le (by decide) T122.1) rfl rfl (Nat.le_of_ble_eq_true rfl) rfl rfl ?_
          refine rf_c183_2_5 (d := d + 0) T122  (fun m160 w161 h162 T163 F164 W165 X166 => ?_) (fun m169 w170 h171 T172 F173 W174 X175 X176 X177 X178 X179 => ?_) (fun m182 w183 h184 T185 F186 W187 X188 X189 X190 B191 B192 => ?_)
          · have F193 := F149.trans F164 (by decide)
            have W194 : rf_W [10, 12, 13, 14, 16, 17, 18, 22] m m160 := W150.trans W165 (by decide)
            have B195 : sf_B 0 600 (m160 10) := T163.2.2.1 10
            have B196 : sf_B 0 4 (m160 17) := T163.2.2.1 17
            have B197 : sf_B 0 1 (m160 22) := T163.2.2.1 22
            show pm_R _ 187 112 [.ref 41, .long a0, pm_no, .int a1] [.int 0] _ _
            have R198 : (m 10).toInt ≤ (m160 10).toInt := (sf_aux70 _ _ _ R154 X166)
            refine pm_R_br pm_M187 (pc' := 122) (st' := []) (pm_q187_1 (Nat.le_of_ble_eq_true rfl)) rfl ?_
            refine pm_R_op pm_M187 (pc' := 123) (st' := [.int 0]) (pm_q187_1 (Nat.le_of_ble_eq_true rfl)) rfl rfl ?_
            exact pm_R_ret pm_M187 (r := some (.int 0)) (pm_q187_1 (Nat.le_of_ble_eq_true rfl)) rfl (K0 m160 w161 h162 T163 F193 W194 (sf_aux51 _ _ R198))
          · have F199 := F149.trans F173 (by decide)
            have W200 : rf_W [10, 12, 13, 14, 16, 17, 18, 22] m m169 := W150.trans W174 (by decide)
            have B201 : sf_B 0 600 (m169 10) := T172.2.2.1 10
            have B202 : sf_B 0 4 (m169 17) := T172.2.2.1 17
            have B203 : sf_B 0 1 (m169 22) := T172.2.2.1 22
            show pm_R _ 187 112 [.ref 41, .long a0, pm_no, .int a1] [.int 1] _ _
            have R204 : (m 10).toInt ≤ (m169 10).toInt := (sf_aux70 _ _ _ R154 X179)
            obtain ⟨v205, B206, e207⟩ := X175 _ e157
            refine pm_R_br pm_M187 (pc' := 115) (st' := []) (pm_q187_1 (Nat.le_of_ble_eq_true rfl)) rfl ?_
            refine pm_R_lo pm_M187 (pc' := 116) (pm_q187_1 (Nat.le_of_ble_eq_true rfl)) rfl rfl ?_
            refine pm_R_cv pm_M187 (pc' := 119) (a := 41) (ra := []) (rest := []) (ls' := [.ref 41, pm_no, pm_no]) (pm_q187_1 (Nat.le_of_ble_eq_true rfl)) rfl (Or.inl rfl) pm_M188 T172.2.1 rfl (by decide) (Nat.lt_of_lt_of_le (by decide) T172.1) rfl rfl (Nat.le_of_ble_eq_true rfl) rfl rfl ?_
            refine rf_c188 (d := d + 0) T172  (fun m210 w211 h212 T213 F214 W215 X216 => ?_) (fun m219 w220 h221 T222 F223 W224 X225 X226 => ?_)
            · have F227 := F199.trans F214 (by decide)
              have B228 : sf_B 1 4 (m210 17) := by rw [W215 17 (by decide)]; exact (sf_eqT X176 (sf_eqT X126 (sf_eqT X76 B45)))
              have ek229 : (m210 17).toInt = ((m119 17)).toInt := by rw [W215 17 (by decide)]; exact X176
              have B230 : sf_B 0 1 (m210 22) := by rw [W215 22 (by decide)]; exact (sf_eqT X177 (sf_eqT X127 (sf_eqT X77 B47)))
              have ek231 : (m210 22).toInt = ((m119 22)).toInt := by rw [W215 22 (by decide)]; exact X177
              have W232 : rf_W [10, 12, 13, 14, 16, 17, 18, 22] m m210 := W200.trans W215 (by decide)
              have B233 : sf_B 0 600 (m210 10) := T213.2.2.1 10
              show pm_R _ 187 119 [.ref 41, .long a0, pm_no, .int a1] [.int 0] _ _
              have R234 : (m 10).toInt ≤ (m210 10).toInt := (sf_aux70 _ _ _ R204 X216)
              refine pm_R_br pm_M187 (pc' := 122) (st' := []) (pm_q187_1 (Nat.le_of_ble_eq_true rfl)) rfl ?_
              refine pm_R_op pm_M187 (pc' := 123) (st' := [.int 0]) (pm_q187_1 (Nat.le_of_ble_eq_true rfl)) rfl rfl ?_
              exact pm_R_ret pm_M187 (r := some (.int 0)) (pm_q187_1 (Nat.le_of_ble_eq_true rfl)) rfl (K0 m210 w211 h212 T213 F227 W232 (sf_aux51 _ _ R234))
            · have F235 := F199.trans F223 (by decide)
              have B236 : sf_B 1 4 (m219 17) := by rw [W224 17 (by decide)]; exact (sf_eqT X176 (sf_eqT X126 (sf_eqT X76 B45)))
              have ek237 : (m219 17).toInt = ((m119 17)).toInt := by rw [W224 17 (by decide)]; exact X176
              have B238 : sf_B 0 1 (m219 22) := by rw [W224 22 (by decide)]; exact (sf_eqT X177 (sf_eqT X127 (sf_eqT X77 B47)))
              have ek239 : (m219 22).toInt = ((m119 22)).toInt := by rw [W224 22 (by decide)]; exact X177
              have W240 : rf_W [10, 12, 13, 14, 16, 17, 18, 22] m m219 := W200.trans W224 (by decide)
              have B241 : sf_B 0 600 (m219 10) := T222.2.2.1 10
              show pm_R _ 187 119 [.ref 41, .long a0, pm_no, .int a1] [.int 1] _ _
              have R242 : (m 10).toInt ≤ (m219 10).toInt := (sf_aux70 _ _ _ R204 X226)
              obtain ⟨v243, B244, e245⟩ := X225 _ e207
              refine pm_R_br pm_M187 (pc' := 124) (st' := []) (pm_q187_1 (Nat.le_of_ble_eq_true rfl)) rfl ?_
              refine pm_R_lo pm_M187 (pc' := 125) (pm_q187_1 (Nat.le_of_ble_eq_true rfl)) rfl rfl ?_
              refine pm_R_op pm_M187 (pc' := 126) (st' := [.int 0, .ref 41]) (pm_q187_1 (Nat.le_of_ble_eq_true rfl)) rfl rfl ?_
              refine pm_R_op pm_M187 (pc' := 127) (st' := [.int 2, .int 0, .ref 41]) (pm_q187_1 (Nat.le_of_ble_eq_true rfl)) rfl rfl ?_
              refine pm_R_op pm_M187 (pc' := 128) (st' := [.int 4, .int 2, .int 0, .ref 41]) (pm_q187_1 (Nat.le_of_ble_eq_true rfl)) rfl rfl ?_
              refine pm_R_op pm_M187 (pc' := 130) (st' := [.int 10, .int 4, .int 2, .int 0, .ref 41]) (pm_q187_1 (Nat.le_of_ble_eq_true rfl)) rfl rfl ?_
              refine pm_R_op pm_M187 (pc' := 131) (st' := [.int 0, .int 10, .int 4, .int 2, .int 0, .ref 41]) (pm_q187_1 (Nat.le_of_ble_eq_true rfl)) rfl rfl ?_
              refine pm_R_cv pm_M187 (pc' := 134) (a := 41) (ra := [.int 0, .int 10, .int 4, .int 2, .int 0]) (rest := []) (ls' := [.ref 41, .int 0, .int 2, .int 4, .int 10, .int 0, pm_no, pm_no]) (pm_q187_1 (Nat.le_of_ble_eq_true rfl)) rfl (Or.inl rfl) pm_M185 T222.2.1 rfl (by decide) (Nat.lt_of_lt_of_le (by decide) T222.1) rfl rfl (Nat.le_of_ble_eq_true rfl) rfl rfl ?_
              have e246 := (F223.cell (by decide) (F173.cell (by decide) (F123.cell (by decide) (F73.cell (by decide) (F40.cell (by decide) (F25.cell (by decide) e3))))))
              refine rf_c185_r (d := d + 2) T222 (⟨f2, e246, ct4, fun z => (sf_pos B236 (by decide) z)⟩) (fun z => sf_pos B236 (by decide) z) (fun m249 w250 h251 T252 F253 W254 X255 => ?_)
              have F256 := F235.trans F253 (by decide)
              have B257 : sf_B 1 4 (m249 17) := by rw [W254 17 (by decide)]; exact B236
              have ek258 : (m249 17).toInt = ((m119 17)).toInt := by rw [W254 17 (by decide)]; exact ek237
              have B259 : sf_B 0 1 (m249 22) := by rw [W254 22 (by decide)]; exact B238
              have ek260 : (m249 22).toInt = ((m119 22)).toInt := by rw [W254 22 (by decide)]; exact ek239
              have B261 : sf_B 0 600 (m249 10) := by rw [W254 10 (by decide)]; exact B241
              have ek262 : (m249 10).toInt = ((m219 10)).toInt := by rw [W254 10 (by decide)]
              have W263 : rf_W [10, 12, 13, 14, 16, 17, 18, 22] m m249 := W240.trans W254 (by decide)
              show pm_R _ 187 134 [.ref 41, .long a0, pm_no, .int a1] [] _ _
              obtain ⟨f264, e265, ct266, bd267⟩ := X255
              refine pm_R_op pm_M187 (pc' := 135) (st' := [.int 1]) (pm_q187_1 (Nat.le_of_ble_eq_true rfl)) rfl rfl ?_
              exact pm_R_ret pm_M187 (r := some (.int 1)) (pm_q187_1 (Nat.le_of_ble_eq_true rfl)) rfl (K1 m249 w250 h251 T252 F256 W263 (⟨f264, e265, ct266, fun z => (sf_pos B257 (by decide) z)⟩) (sf_aux39 _ _ _ ek262 R242))
          · have F268 := F149.trans F186 (by decide)
            have W269 : rf_W [10, 12, 13, 14, 16, 17, 18, 22] m m182 := W150.trans W187 (by decide)
            have B270 : sf_B 0 600 (m182 10) := T185.2.2.1 10
            have B271 : sf_B 0 4 (m182 17) := T185.2.2.1 17
            have B272 : sf_B 0 1 (m182 22) := T185.2.2.1 22
            show pm_R _ 187 112 [.ref 41, .long a0, pm_no, .int a1] [.int 1] _ _
            have R273 : (m 10).toInt ≤ (m182 10).toInt := (sf_aux70 _ _ _ R154 X190)
            obtain ⟨v274, B275, e276⟩ := X188 _ e157
            refine pm_R_br pm_M187 (pc' := 115) (st' := []) (pm_q187_1 (Nat.le_of_ble_eq_true rfl)) rfl ?_
            refine pm_R_lo pm_M187 (pc' := 116) (pm_q187_1 (Nat.le_of_ble_eq_true rfl)) rfl rfl ?_
            refine pm_R_cv pm_M187 (pc' := 119) (a := 41) (ra := []) (rest := []) (ls' := [.ref 41, pm_no, pm_no]) (pm_q187_1 (Nat.le_of_ble_eq_true rfl)) rfl (Or.inl rfl) pm_M188 T185.2.1 rfl (by decide) (Nat.lt_of_lt_of_le (by decide) T185.1) rfl rfl (Nat.le_of_ble_eq_true rfl) rfl rfl ?_
            refine rf_c188 (d := d + 0) T185  (fun m279 w280 h281 T282 F283 W284 X285 => ?_) (fun m288 w289 h290 T291 F292 W293 X294 X295 => ?_)
            · have F296 := F268.trans F283 (by decide)
              have B297 : sf_B 1 4 (m279 17) := by rw [W284 17 (by decide)]; exact B191
              have ek298 : (m279 17).toInt = ((m182 17)).toInt := by rw [W284 17 (by decide)]
              have B299 : sf_B 0 0 (m279 22) := by rw [W284 22 (by decide)]; exact B192
              have ek300 : (m279 22).toInt = ((m182 22)).toInt := by rw [W284 22 (by decide)]
              have W301 : rf_W [10, 12, 13, 14, 16, 17, 18, 22] m m279 := W269.trans W284 (by decide)
              have B302 : sf_B 0 600 (m279 10) := T282.2.2.1 10
              show pm_R _ 187 119 [.ref 41, .long a0, pm_no, .int a1] [.int 0] _ _
              have R303 : (m 10).toInt ≤ (m279 10).toInt := (sf_aux70 _ _ _ R273 X285)
              refine pm_R_br pm_M187 (pc' := 122) (st' := []) (pm_q187_1 (Nat.le_of_ble_eq_true rfl)) rfl ?_
              refine pm_R_op pm_M187 (pc' := 123) (st' := [.int 0]) (pm_q187_1 (Nat.le_of_ble_eq_true rfl)) rfl rfl ?_
              exact pm_R_ret pm_M187 (r := some (.int 0)) (pm_q187_1 (Nat.le_of_ble_eq_true rfl)) rfl (K0 m279 w280 h281 T282 F296 W301 (sf_aux51 _ _ R303))
            · have F304 := F268.trans F292 (by decide)
              have B305 : sf_B 1 4 (m288 17) := by rw [W293 17 (by decide)]; exact B191
              have ek306 : (m288 17).toInt = ((m182 17)).toInt := by rw [W293 17 (by decide)]
              have B307 : sf_B 0 0 (m288 22) := by rw [W293 22 (by decide)]; exact B192
              have ek308 : (m288 22).toInt = ((m182 22)).toInt := by rw [W293 22 (by decide)]
              have W309 : rf_W [10, 12, 13, 14, 16, 17, 18, 22] m m288 := W269.trans W293 (by decide)
              have B310 : sf_B 0 600 (m288 10) := T291.2.2.1 10
              show pm_R _ 187 119 [.ref 41, .long a0, pm_no, .int a1] [.int 1] _ _
              have R311 : (m 10).toInt ≤ (m288 10).toInt := (sf_aux70 _ _ _ R273 X295)
              obtain ⟨v312, B313, e314⟩ := X294 _ e276
              refine pm_R_br pm_M187 (pc' := 124) (st' := []) (pm_q187_1 (Nat.le_of_ble_eq_true rfl)) rfl ?_
              refine pm_R_lo pm_M187 (pc' := 125) (pm_q187_1 (Nat.le_of_ble_eq_true rfl)) rfl rfl ?_
              refine pm_R_op pm_M187 (pc' := 126) (st' := [.int 0, .ref 41]) (pm_q187_1 (Nat.le_of_ble_eq_true rfl)) rfl rfl ?_
              refine pm_R_op pm_M187 (pc' := 127) (st' := [.int 2, .int 0, .ref 41]) (pm_q187_1 (Nat.le_of_ble_eq_true rfl)) rfl rfl ?_
              refine pm_R_op pm_M187 (pc' := 128) (st' := [.int 4, .int 2, .int 0, .ref 41]) (pm_q187_1 (Nat.le_of_ble_eq_true rfl)) rfl rfl ?_
              refine pm_R_op pm_M187 (pc' := 130) (st' := [.int 10, .int 4, .int 2, .int 0, .ref 41]) (pm_q187_1 (Nat.le_of_ble_eq_true rfl)) rfl rfl ?_
              refine pm_R_op pm_M187 (pc' := 131) (st' := [.int 0, .int 10, .int 4, .int 2, .int 0, .ref 41]) (pm_q187_1 (Nat.le_of_ble_eq_true rfl)) rfl rfl ?_
              refine pm_R_cv pm_M187 (pc' := 134) (a := 41) (ra := [.int 0, .int 10, .int 4, .int 2, .int 0]) (rest := []) (ls' := [.ref 41, .int 0, .int 2, .int 4, .int 10, .int 0, pm_no, pm_no]) (pm_q187_1 (Nat.le_of_ble_eq_true rfl)) rfl (Or.inl rfl) pm_M185 T291.2.1 rfl (by decide) (Nat.lt_of_lt_of_le (by decide) T291.1) rfl rfl (Nat.le_of_ble_eq_true rfl) rfl rfl ?_
              have e315 := (F292.cell (by decide) (F186.cell (by decide) (F123.cell (by decide) (F73.cell (by decide) (F40.cell (by decide) (F25.cell (by decide) e3))))))
              refine rf_c185_r (d := d + 2) T291 (⟨f2, e315, ct4, fun z => (sf_pos B305 (by decide) z)⟩) (fun z => sf_pos B305 (by decide) z) (fun m318 w319 h320 T321 F322 W323 X324 => ?_)
              have F325 := F304.trans F322 (by decide)
              have B326 : sf_B 1 4 (m318 17) := by rw [W323 17 (by decide)]; exact B305
              have ek327 : (m318 17).toInt = ((m182 17)).toInt := by rw [W323 17 (by decide)]; exact ek306
              have B328 : sf_B 0 0 (m318 22) := by rw [W323 22 (by decide)]; exact B307
              have ek329 : (m318 22).toInt = ((m182 22)).toInt := by rw [W323 22 (by decide)]; exact ek308
              have B330 : sf_B 0 600 (m318 10) := by rw [W323 10 (by decide)]; exact B310
              have ek331 : (m318 10).toInt = ((m288 10)).toInt := by rw [W323 10 (by decide)]
              have W332 : rf_W [10, 12, 13, 14, 16, 17, 18, 22] m m318 := W309.trans W323 (by decide)
              show pm_R _ 187 134 [.ref 41, .long a0, pm_no, .int a1] [] _ _
              obtain ⟨f333, e334, ct335, bd336⟩ := X324
              refine pm_R_op pm_M187 (pc' := 135) (st' := [.int 1]) (pm_q187_1 (Nat.le_of_ble_eq_true rfl)) rfl rfl ?_
              exact pm_R_ret pm_M187 (r := some (.int 1)) (pm_q187_1 (Nat.le_of_ble_eq_true rfl)) rfl (K1 m318 w319 h320 T321 F325 W332 (⟨f333, e334, ct335, fun z => (sf_pos B326 (by decide) z)⟩) (sf_aux39 _ _ _ ek331 R311))
        · have F337 := F99.trans F136 (by decide)
          have W338 : rf_W [10, 12, 13, 14, 16, 17, 18, 22] m m132 := W100.trans W137 (by decide)
          have B339 : sf_B 0 600 (m132 10) := T135.2.2.1 10
          have B340 : sf_B 0 4 (m132 17) := T135.2.2.1 17
          have B341 : sf_B 0 1 (m132 22) := T135.2.2.1 22
          show pm_R _ 187 102 [.ref 41, .long a0, pm_no, .int a1] [.int 1] _ _
          have R342 : (m 10).toInt ≤ (m132 10).toInt := (sf_aux70 _ _ _ R104 X140)
          obtain ⟨v343, B344, e345⟩ := X138 _ e107
          refine pm_R_br pm_M187 (pc' := 105) (st' := []) rfl rfl ?_
          refine pm_R_lo pm_M187 (pc' := 106) rfl rfl rfl ?_
          refine pm_R_op pm_M187 (pc' := 107) (st' := [.int 2, .ref 41]) rfl rfl rfl ?_
          refine pm_R_op pm_M187 (pc' := 108) (st' := [.int 5, .int 2, .ref 41]) rfl rfl rfl ?_
          refine pm_R_op pm_M187 (pc' := 109) (st' := [.int (-1), .int 5, .int 2, .ref 41]) (pm_q187_1 (Nat.le_of_ble_eq_true rfl)) rfl rfl ?_
          refine pm_R_cv pm_M187 (pc' := 112) (a := 41) (ra := [.int (-1), .int 5, .int 2]) (rest := []) (ls' := [.ref 41, .int 2, .int 5, .int (-1)]) (pm_q187_1 (Nat.le_of_ble_eq_true rfl)) rfl (Or.inl rfl) pm_M183 T135.2.1 rfl (by decide) (Nat.lt_of_lt_of_le (by decide) T135.1) rfl rfl (Nat.le_of_ble_eq_true rfl) rfl rfl ?_
          refine rf_c183_2_5 (d := d + 0) T135  (fun m348 w349 h350 T351 F352 W353 X354 => ?_) (fun m357 w358 h359 T360 F361 W362 X363 X364 X365 X366 X367 => ?_) (fun m370 w371 h372 T373 F374 W375 X376 X377 X378 B379 B380 => ?_)
          · have F381 := F337.trans F352 (by decide)
            have W382 : rf_W [10, 12, 13, 14, 16, 17, 18, 22] m m348 := W338.trans W353 (by decide)
            have B383 : sf_B 0 600 (m348 10) := T351.2.2.1 10
            have B384 : sf_B 0 4 (m348 17) := T351.2.2.1 17
            have B385 : sf_B 0 1 (m348 22) := T351.2.2.1 22
            show pm_R _ 187 112 [.ref 41, .long a0, pm_no, .int a1] [.int 0] _ _
            have R386 : (m 10).toInt ≤ (m348 10).toInt := (sf_aux70 _ _ _ R342 X354)
            refine pm_R_br pm_M187 (pc' := 122) (st' := []) (pm_q187_1 (Nat.le_of_ble_eq_true rfl)) rfl ?_
            refine pm_R_op pm_M187 (pc' := 123) (st' := [.int 0]) (pm_q187_1 (Nat.le_of_ble_eq_true rfl)) rfl rfl ?_
            exact pm_R_ret pm_M187 (r := some (.int 0)) (pm_q187_1 (Nat.le_of_ble_eq_true rfl)) rfl (K0 m348 w349 h350 T351 F381 W382 (sf_aux51 _ _ R386))
          · have F387 := F337.trans F361 (by decide)
            have W388 : rf_W [10, 12, 13, 14, 16, 17, 18, 22] m m357 := W338.trans W362 (by decide)
            have B389 : sf_B 0 600 (m357 10) := T360.2.2.1 10
            have B390 : sf_B 0 4 (m357 17) := T360.2.2.1 17
            have B391 : sf_B 0 1 (m357 22) := T360.2.2.1 22
            show pm_R _ 187 112 [.ref 41, .long a0, pm_no, .int a1] [.int 1] _ _
            have R392 : (m 10).toInt ≤ (m357 10).toInt := (sf_aux70 _ _ _ R342 X367)
            obtain ⟨v393, B394, e395⟩ := X363 _ e345
            refine pm_R_br pm_M187 (pc' := 115) (st' := []) (pm_q187_1 (Nat.le_of_ble_eq_true rfl)) rfl ?_
            refine pm_R_lo pm_M187 (pc' := 116) (pm_q187_1 (Nat.le_of_ble_eq_true rfl)) rfl rfl ?_
            refine pm_R_cv pm_M187 (pc' := 119) (a := 41) (ra := []) (rest := []) (ls' := [.ref 41, pm_no, pm_no]) (pm_q187_1 (Nat.le_of_ble_eq_true rfl)) rfl (Or.inl rfl) pm_M188 T360.2.1 rfl (by decide) (Nat.lt_of_lt_of_le (by decide) T360.1) rfl rfl (Nat.le_of_ble_eq_true rfl) rfl rfl ?_
            refine rf_c188 (d := d + 0) T360  (fun m398 w399 h400 T401 F402 W403 X404 => ?_) (fun m407 w408 h409 T410 F411 W412 X413 X414 => ?_)
            · have F415 := F387.trans F402 (by decide)
              have B416 : sf_B 1 4 (m398 17) := by rw [W403 17 (by decide)]; exact (sf_eqT X364 B141)
              have ek417 : (m398 17).toInt = ((m132 17)).toInt := by rw [W403 17 (by decide)]; exact X364
              have B418 : sf_B 0 0 (m398 22) := by rw [W403 22 (by decide)]; exact (sf_eqT X365 B142)
              have ek419 : (m398 22).toInt = ((m132 22)).toInt := by rw [W403 22 (by decide)]; exact X365
              have W420 : rf_W [10, 12, 13, 14, 16, 17, 18, 22] m m398 := W388.trans W403 (by decide)
              have B421 : sf_B 0 600 (m398 10) := T401.2.2.1 10
              show pm_R _ 187 119 [.ref 41, .long a0, pm_no, .int a1] [.int 0] _ _
              have R422 : (m 10).toInt ≤ (m398 10).toInt := (sf_aux70 _ _ _ R392 X404)
              refine pm_R_br pm_M187 (pc' := 122) (st' := []) (pm_q187_1 (Nat.le_of_ble_eq_true rfl)) rfl ?_
              refine pm_R_op pm_M187 (pc' := 123) (st' := [.int 0]) (pm_q187_1 (Nat.le_of_ble_eq_true rfl)) rfl rfl ?_
              exact pm_R_ret pm_M187 (r := some (.int 0)) (pm_q187_1 (Nat.le_of_ble_eq_true rfl)) rfl (K0 m398 w399 h400 T401 F415 W420 (sf_aux51 _ _ R422))
            · have F423 := F387.trans F411 (by decide)
              have B424 : sf_B 1 4 (m407 17) := by rw [W412 17 (by decide)]; exact (sf_eqT X364 B141)
              have ek425 : (m407 17).toInt = ((m132 17)).toInt := by rw [W412 17 (by decide)]; exact X364
              have B426 : sf_B 0 0 (m407 22) := by rw [W412 22 (by decide)]; exact (sf_eqT X365 B142)
              have ek427 : (m407 22).toInt = ((m132 22)).toInt := by rw [W412 22 (by decide)]; exact X365
              have W428 : rf_W [10, 12, 13, 14, 16, 17, 18, 22] m m407 := W388.trans W412 (by decide)
              have B429 : sf_B 0 600 (m407 10) := T410.2.2.1 10
              show pm_R _ 187 119 [.ref 41, .long a0, pm_no, .int a1] [.int 1] _ _
              have R430 : (m 10).toInt ≤ (m407 10).toInt := (sf_aux70 _ _ _ R392 X414)
              obtain ⟨v431, B432, e433⟩ := X413 _ e395
              refine pm_R_br pm_M187 (pc' := 124) (st' := []) (pm_q187_1 (Nat.le_of_ble_eq_true rfl)) rfl ?_
              refine pm_R_lo pm_M187 (pc' := 125) (pm_q187_1 (Nat.le_of_ble_eq_true rfl)) rfl rfl ?_
              refine pm_R_op pm_M187 (pc' := 126) (st' := [.int 0, .ref 41]) (pm_q187_1 (Nat.le_of_ble_eq_true rfl)) rfl rfl ?_
              refine pm_R_op pm_M187 (pc' := 127) (st' := [.int 2, .int 0, .ref 41]) (pm_q187_1 (Nat.le_of_ble_eq_true rfl)) rfl rfl ?_
              refine pm_R_op pm_M187 (pc' := 128) (st' := [.int 4, .int 2, .int 0, .ref 41]) (pm_q187_1 (Nat.le_of_ble_eq_true rfl)) rfl rfl ?_
              refine pm_R_op pm_M187 (pc' := 130) (st' := [.int 10, .int 4, .int 2, .int 0, .ref 41]) (pm_q187_1 (Nat.le_of_ble_eq_true rfl)) rfl rfl ?_
              refine pm_R_op pm_M187 (pc' := 131) (st' := [.int 0, .int 10, .int 4, .int 2, .int 0, .ref 41]) (pm_q187_1 (Nat.le_of_ble_eq_true rfl)) rfl rfl ?_
              refine pm_R_cv pm_M187 (pc' := 134) (a := 41) (ra := [.int 0, .int 10, .int 4, .int 2, .int 0]) (rest := []) (ls' := [.ref 41, .int 0, .int 2, .int 4, .int 10, .int 0, pm_no, pm_no]) (pm_q187_1 (Nat.le_of_ble_eq_true rfl)) rfl (Or.inl rfl) pm_M185 T410.2.1 rfl (by decide) (Nat.lt_of_lt_of_le (by decide) T410.1) rfl rfl (Nat.le_of_ble_eq_true rfl) rfl rfl ?_
              have e434 := (F411.cell (by decide) (F361.cell (by decide) (F136.cell (by decide) (F73.cell (by decide) (F40.cell (by decide) (F25.cell (by decide) e3))))))
              refine rf_c185_r (d := d + 2) T410 (⟨f2, e434, ct4, fun z => (sf_pos B424 (by decide) z)⟩) (fun z => sf_pos B424 (by decide) z) (fun m437 w438 h439 T440 F441 W442 X443 => ?_)
              have F444 := F423.trans F441 (by decide)
              have B445 : sf_B 1 4 (m437 17) := by rw [W442 17 (by decide)]; exact B424
              have ek446 : (m437 17).toInt = ((m132 17)).toInt := by rw [W442 17 (by decide)]; exact ek425
              have B447 : sf_B 0 0 (m437 22) := by rw [W442 22 (by decide)]; exact B426
              have ek448 : (m437 22).toInt = ((m132 22)).toInt := by rw [W442 22 (by decide)]; exact ek427
              have B449 : sf_B 0 600 (m437 10) := by rw [W442 10 (by decide)]; exact B429
              have ek450 : (m437 10).toInt = ((m407 10)).toInt := by rw [W442 10 (by decide)]
              have W451 : rf_W [10, 12, 13, 14, 16, 17, 18, 22] m m437 := W428.trans W442 (by decide)
              show pm_R _ 187 134 [.ref 41, .long a0, pm_no, .int a1] [] _ _
              obtain ⟨f452, e453, ct454, bd455⟩ := X443
              refine pm_R_op pm_M187 (pc' := 135) (st' := [.int 1]) (pm_q187_1 (Nat.le_of_ble_eq_true rfl)) rfl rfl ?_
              exact pm_R_ret pm_M187 (r := some (.int 1)) (pm_q187_1 (Nat.le_of_ble_eq_true rfl)) rfl (K1 m437 w438 h439 T440 F444 W451 (⟨f452, e453, ct454, fun z => (sf_pos B445 (by decide) z)⟩) (sf_aux39 _ _ _ ek450 R430))
          · have F456 := F337.trans F374 (by decide)
            have W457 : rf_W [10, 12, 13, 14, 16, 17, 18, 22] m m370 := W338.trans W375 (by decide)
            have B458 : sf_B 0 600 (m370 10) := T373.2.2.1 10
            have B459 : sf_B 0 4 (m370 17) := T373.2.2.1 17
            have B460 : sf_B 0 1 (m370 22) := T373.2.2.1 22
            show pm_R _ 187 112 [.ref 41, .long a0, pm_no, .int a1] [.int 1] _ _
            have R461 : (m 10).toInt ≤ (m370 10).toInt := (sf_aux70 _ _ _ R342 X378)
            obtain ⟨v462, B463, e464⟩ := X376 _ e345
            refine pm_R_br pm_M187 (pc' := 115) (st' := []) (pm_q187_1 (Nat.le_of_ble_eq_true rfl)) rfl ?_
            refine pm_R_lo pm_M187 (pc' := 116) (pm_q187_1 (Nat.le_of_ble_eq_true rfl)) rfl rfl ?_
            refine pm_R_cv pm_M187 (pc' := 119) (a := 41) (ra := []) (rest := []) (ls' := [.ref 41, pm_no, pm_no]) (pm_q187_1 (Nat.le_of_ble_eq_true rfl)) rfl (Or.inl rfl) pm_M188 T373.2.1 rfl (by decide) (Nat.lt_of_lt_of_le (by decide) T373.1) rfl rfl (Nat.le_of_ble_eq_true rfl) rfl rfl ?_
            refine rf_c188 (d := d + 0) T373  (fun m467 w468 h469 T470 F471 W472 X473 => ?_) (fun m476 w477 h478 T479 F480 W481 X482 X483 => ?_)
            · have F484 := F456.trans F471 (by decide)
              have B485 : sf_B 1 4 (m467 17) := by rw [W472 17 (by decide)]; exact B379
              have ek486 : (m467 17).toInt = ((m370 17)).toInt := by rw [W472 17 (by decide)]
              have B487 : sf_B 0 0 (m467 22) := by rw [W472 22 (by decide)]; exact B380
              have ek488 : (m467 22).toInt = ((m370 22)).toInt := by rw [W472 22 (by decide)]
              have W489 : rf_W [10, 12, 13, 14, 16, 17, 18, 22] m m467 := W457.trans W472 (by decide)
              have B490 : sf_B 0 600 (m467 10) := T470.2.2.1 10
              show pm_R _ 187 119 [.ref 41, .long a0, pm_no, .int a1] [.int 0] _ _
              have R491 : (m 10).toInt ≤ (m467 10).toInt := (sf_aux70 _ _ _ R461 X473)
              refine pm_R_br pm_M187 (pc' := 122) (st' := []) (pm_q187_1 (Nat.le_of_ble_eq_true rfl)) rfl ?_
              refine pm_R_op pm_M187 (pc' := 123) (st' := [.int 0]) (pm_q187_1 (Nat.le_of_ble_eq_true rfl)) rfl rfl ?_
              exact pm_R_ret pm_M187 (r := some (.int 0)) (pm_q187_1 (Nat.le_of_ble_eq_true rfl)) rfl (K0 m467 w468 h469 T470 F484 W489 (sf_aux51 _ _ R491))
            · have F492 := F456.trans F480 (by decide)
              have B493 : sf_B 1 4 (m476 17) := by rw [W481 17 (by decide)]; exact B379
              have ek494 : (m476 17).toInt = ((m370 17)).toInt := by rw [W481 17 (by decide)]
              have B495 : sf_B 0 0 (m476 22) := by rw [W481 22 (by decide)]; exact B380
              have ek496 : (m476 22).toInt = ((m370 22)).toInt := by rw [W481 22 (by decide)]
              have W497 : rf_W [10, 12, 13, 14, 16, 17, 18, 22] m m476 := W457.trans W481 (by decide)
              have B498 : sf_B 0 600 (m476 10) := T479.2.2.1 10
              show pm_R _ 187 119 [.ref 41, .long a0, pm_no, .int a1] [.int 1] _ _
              have R499 : (m 10).toInt ≤ (m476 10).toInt := (sf_aux70 _ _ _ R461 X483)
              obtain ⟨v500, B501, e502⟩ := X482 _ e464
              refine pm_R_br pm_M187 (pc' := 124) (st' := []) (pm_q187_1 (Nat.le_of_ble_eq_true rfl)) rfl ?_
              refine pm_R_lo pm_M187 (pc' := 125) (pm_q187_1 (Nat.le_of_ble_eq_true rfl)) rfl rfl ?_
              refine pm_R_op pm_M187 (pc' := 126) (st' := [.int 0, .ref 41]) (pm_q187_1 (Nat.le_of_ble_eq_true rfl)) rfl rfl ?_
              refine pm_R_op pm_M187 (pc' := 127) (st' := [.int 2, .int 0, .ref 41]) (pm_q187_1 (Nat.le_of_ble_eq_true rfl)) rfl rfl ?_
              refine pm_R_op pm_M187 (pc' := 128) (st' := [.int 4, .int 2, .int 0, .ref 41]) (pm_q187_1 (Nat.le_of_ble_eq_true rfl)) rfl rfl ?_
              refine pm_R_op pm_M187 (pc' := 130) (st' := [.int 10, .int 4, .int 2, .int 0, .ref 41]) (pm_q187_1 (Nat.le_of_ble_eq_true rfl)) rfl rfl ?_
              refine pm_R_op pm_M187 (pc' := 131) (st' := [.int 0, .int 10, .int 4, .int 2, .int 0, .ref 41]) (pm_q187_1 (Nat.le_of_ble_eq_true rfl)) rfl rfl ?_
              refine pm_R_cv pm_M187 (pc' := 134) (a := 41) (ra := [.int 0, .int 10, .int 4, .int 2, .int 0]) (rest := []) (ls' := [.ref 41, .int 0, .int 2, .int 4, .int 10, .int 0, pm_no, pm_no]) (pm_q187_1 (Nat.le_of_ble_eq_true rfl)) rfl (Or.inl rfl) pm_M185 T479.2.1 rfl (by decide) (Nat.lt_of_lt_of_le (by decide) T479.1) rfl rfl (Nat.le_of_ble_eq_true rfl) rfl rfl ?_
              have e503 := (F480.cell (by decide) (F374.cell (by decide) (F136.cell (by decide) (F73.cell (by decide) (F40.cell (by decide) (F25.cell (by decide) e3))))))
              refine rf_c185_r (d := d + 2) T479 (⟨f2, e503, ct4, fun z => (sf_pos B493 (by decide) z)⟩) (fun z => sf_pos B493 (by decide) z) (fun m506 w507 h508 T509 F510 W511 X512 => ?_)
              have F513 := F492.trans F510 (by decide)
              have B514 : sf_B 1 4 (m506 17) := by rw [W511 17 (by decide)]; exact B493
              have ek515 : (m506 17).toInt = ((m370 17)).toInt := by rw [W511 17 (by decide)]; exact ek494
              have B516 : sf_B 0 0 (m506 22) := by rw [W511 22 (by decide)]; exact B495
              have ek517 : (m506 22).toInt = ((m370 22)).toInt := by rw [W511 22 (by decide)]; exact ek496
              have B518 : sf_B 0 600 (m506 10) := by rw [W511 10 (by decide)]; exact B498
              have ek519 : (m506 10).toInt = ((m476 10)).toInt := by rw [W511 10 (by decide)]
              have W520 : rf_W [10, 12, 13, 14, 16, 17, 18, 22] m m506 := W497.trans W511 (by decide)
              show pm_R _ 187 134 [.ref 41, .long a0, pm_no, .int a1] [] _ _
              obtain ⟨f521, e522, ct523, bd524⟩ := X512
              refine pm_R_op pm_M187 (pc' := 135) (st' := [.int 1]) (pm_q187_1 (Nat.le_of_ble_eq_true rfl)) rfl rfl ?_
              exact pm_R_ret pm_M187 (r := some (.int 1)) (pm_q187_1 (Nat.le_of_ble_eq_true rfl)) rfl (K1 m506 w507 h508 T509 F513 W520 (⟨f521, e522, ct523, fun z => (sf_pos B514 (by decide) z)⟩) (sf_aux39 _ _ _ ek519 R499))
      · have F525 := F44.trans F86 (by decide)
        have W526 : rf_W [10, 12, 13, 14, 16, 17, 18, 22] m m82 := W49.trans W87 (by decide)
        have B527 : sf_B 0 600 (m82 10) := T85.2.2.1 10
        have B528 : sf_B 0 4 (m82 17) := T85.2.2.1 17
        have B529 : sf_B 0 1 (m82 22) := T85.2.2.1 22
        show pm_R _ 187 92 [.ref 41, .long a0, pm_no, .int a1] [.int 1] _ _
        have R530 : (m 10).toInt ≤ (m82 10).toInt := (sf_aux70 _ _ _ R51 X90)
        obtain ⟨v531, B532, e533⟩ := X88 _ e56
        refine pm_R_br pm_M187 (pc' := 95) (st' := []) rfl rfl ?_
        refine pm_R_lo pm_M187 (pc' := 96) rfl rfl rfl ?_
        refine pm_R_op pm_M187 (pc' := 97) (st' := [.int 1, .ref 41]) rfl rfl rfl ?_
        refine pm_R_op pm_M187 (pc' := 98) (st' := [.int 5, .int 1, .ref 41]) rfl rfl rfl ?_
        refine pm_R_op pm_M187 (pc' := 99) (st' := [.int (-1), .int 5, .int 1, .ref 41]) rfl rfl rfl ?_
        refine pm_R_cv pm_M187 (pc' := 102) (a := 41) (ra := [.int (-1), .int 5, .int 1]) (rest := []) (ls' := [.ref 41, .int 1, .int 5, .int (-1)]) rfl rfl (Or.inl rfl) pm_M183 T85.2.1 rfl (by decide) (Nat.lt_of_lt_of_le (by decide) T85.1) rfl rfl (Nat.le_of_ble_eq_true rfl) rfl rfl ?_
        refine rf_c183_1_5 (d := d + 0) T85  (fun m536 w537 h538 T539 F540 W541 X542 => ?_) (fun m545 w546 h547 T548 F549 W550 X551 X552 X553 X554 X555 => ?_) (fun m558 w559 h560 T561 F562 W563 X564 X565 X566 B567 B568 => ?_)
        · have F569 := F525.trans F540 (by decide)
          have W570 : rf_W [10, 12, 13, 14, 16, 17, 18, 22] m m536 := W526.trans W541 (by decide)
          have B571 : sf_B 0 600 (m536 10) := T539.2.2.1 10
          have B572 : sf_B 0 4 (m536 17) := T539.2.2.1 17
          have B573 : sf_B 0 1 (m536 22) := T539.2.2.1 22
          show pm_R _ 187 102 [.ref 41, .long a0, pm_no, .int a1] [.int 0] _ _
          have R574 : (m 10).toInt ≤ (m536 10).toInt := (sf_aux70 _ _ _ R530 X542)
          refine pm_R_br pm_M187 (pc' := 122) (st' := []) rfl rfl ?_
          refine pm_R_op pm_M187 (pc' := 123) (st' := [.int 0]) (pm_q187_1 (Nat.le_of_ble_eq_true rfl)) rfl rfl ?_
          exact pm_R_ret pm_M187 (r := some (.int 0)) (pm_q187_1 (Nat.le_of_ble_eq_true rfl)) rfl (K0 m536 w537 h538 T539 F569 W570 (sf_aux51 _ _ R574))
        · have F575 := F525.trans F549 (by decide)
          have W576 : rf_W [10, 12, 13, 14, 16, 17, 18, 22] m m545 := W526.trans W550 (by decide)
          have B577 : sf_B 0 600 (m545 10) := T548.2.2.1 10
          have B578 : sf_B 0 4 (m545 17) := T548.2.2.1 17
          have B579 : sf_B 0 1 (m545 22) := T548.2.2.1 22
          show pm_R _ 187 102 [.ref 41, .long a0, pm_no, .int a1] [.int 1] _ _
          have R580 : (m 10).toInt ≤ (m545 10).toInt := (sf_aux70 _ _ _ R530 X555)
          obtain ⟨v581, B582, e583⟩ := X551 _ e533
          refine pm_R_br pm_M187 (pc' := 105) (st' := []) rfl rfl ?_
          refine pm_R_lo pm_M187 (pc' := 106) rfl rfl rfl ?_
          refine pm_R_op pm_M187 (pc' := 107) (st' := [.int 2, .ref 41]) rfl rfl rfl ?_
          refine pm_R_op pm_M187 (pc' := 108) (st' := [.int 5, .int 2, .ref 41]) rfl rfl rfl ?_
          refine pm_R_op pm_M187 (pc' := 109) (st' := [.int (-1), .int 5, .int 2, .ref 41]) (pm_q187_1 (Nat.le_of_ble_eq_true rfl)) rfl rfl ?_
          refine pm_R_cv pm_M187 (pc' := 112) (a := 41) (ra := [.int (-1), .int 5, .int 2]) (rest := []) (ls' := [.ref 41, .int 2, .int 5, .int (-1)]) (pm_q187_1 (Nat.le_of_ble_eq_true rfl)) rfl (Or.inl rfl) pm_M183 T548.2.1 rfl (by decide) (Nat.lt_of_lt_of_le (by decide) T548.1) rfl rfl (Nat.le_of_ble_eq_true rfl) rfl rfl ?_
          refine rf_c183_2_5 (d := d + 0) T548  (fun m586 w587 h588 T589 F590 W591 X592 => ?_) (fun m595 w596 h597 T598 F599 W600 X601 X602 X603 X604 X605 => ?_) (fun m608 w609 h610 T611 F612 W613 X614 X615 X616 B617 B618 => ?_)
          · have F619 := F575.trans F590 (by decide)
            have W620 : rf_W [10, 12, 13, 14, 16, 17, 18, 22] m m586 := W576.trans W591 (by decide)
            have B621 : sf_B 0 600 (m586 10) := T589.2.2.1 10
            have B622 : sf_B 0 4 (m586 17) := T589.2.2.1 17
            have B623 : sf_B 0 1 (m586 22) := T589.2.2.1 22
            show pm_R _ 187 112 [.ref 41, .long a0, pm_no, .int a1] [.int 0] _ _
            have R624 : (m 10).toInt ≤ (m586 10).toInt := (sf_aux70 _ _ _ R580 X592)
            refine pm_R_br pm_M187 (pc' := 122) (st' := []) (pm_q187_1 (Nat.le_of_ble_eq_true rfl)) rfl ?_
            refine pm_R_op pm_M187 (pc' := 123) (st' := [.int 0]) (pm_q187_1 (Nat.le_of_ble_eq_true rfl)) rfl rfl ?_
            exact pm_R_ret pm_M187 (r := some (.int 0)) (pm_q187_1 (Nat.le_of_ble_eq_true rfl)) rfl (K0 m586 w587 h588 T589 F619 W620 (sf_aux51 _ _ R624))
          · have F625 := F575.trans F599 (by decide)
            have W626 : rf_W [10, 12, 13, 14, 16, 17, 18, 22] m m595 := W576.trans W600 (by decide)
            have B627 : sf_B 0 600 (m595 10) := T598.2.2.1 10
            have B628 : sf_B 0 4 (m595 17) := T598.2.2.1 17
            have B629 : sf_B 0 1 (m595 22) := T598.2.2.1 22
            show pm_R _ 187 112 [.ref 41, .long a0, pm_no, .int a1] [.int 1] _ _
            have R630 : (m 10).toInt ≤ (m595 10).toInt := (sf_aux70 _ _ _ R580 X605)
            obtain ⟨v631, B632, e633⟩ := X601 _ e583
            refine pm_R_br pm_M187 (pc' := 115) (st' := []) (pm_q187_1 (Nat.le_of_ble_eq_true rfl)) rfl ?_
            refine pm_R_lo pm_M187 (pc' := 116) (pm_q187_1 (Nat.le_of_ble_eq_true rfl)) rfl rfl ?_
            refine pm_R_cv pm_M187 (pc' := 119) (a := 41) (ra := []) (rest := []) (ls' := [.ref 41, pm_no, pm_no]) (pm_q187_1 (Nat.le_of_ble_eq_true rfl)) rfl (Or.inl rfl) pm_M188 T598.2.1 rfl (by decide) (Nat.lt_of_lt_of_le (by decide) T598.1) rfl rfl (Nat.le_of_ble_eq_true rfl) rfl rfl ?_
            refine rf_c188 (d := d + 0) T598  (fun m636 w637 h638 T639 F640 W641 X642 => ?_) (fun m645 w646 h647 T648 F649 W650 X651 X652 => ?_)
            · have F653 := F625.trans F640 (by decide)
              have B654 : sf_B 1 4 (m636 17) := by rw [W641 17 (by decide)]; exact (sf_eqT X602 (sf_eqT X552 B91))
              have ek655 : (m636 17).toInt = ((m545 17)).toInt := by rw [W641 17 (by decide)]; exact X602
              have B656 : sf_B 0 0 (m636 22) := by rw [W641 22 (by decide)]; exact (sf_eqT X603 (sf_eqT X553 B92))
              have ek657 : (m636 22).toInt = ((m545 22)).toInt := by rw [W641 22 (by decide)]; exact X603
              have W658 : rf_W [10, 12, 13, 14, 16, 17, 18, 22] m m636 := W626.trans W641 (by decide)
              have B659 : sf_B 0 600 (m636 10) := T639.2.2.1 10
              show pm_R _ 187 119 [.ref 41, .long a0, pm_no, .int a1] [.int 0] _ _
              have R660 : (m 10).toInt ≤ (m636 10).toInt := (sf_aux70 _ _ _ R630 X642)
              refine pm_R_br pm_M187 (pc' := 122) (st' := []) (pm_q187_1 (Nat.le_of_ble_eq_true rfl)) rfl ?_
              refine pm_R_op pm_M187 (pc' := 123) (st' := [.int 0]) (pm_q187_1 (Nat.le_of_ble_eq_true rfl)) rfl rfl ?_
              exact pm_R_ret pm_M187 (r := some (.int 0)) (pm_q187_1 (Nat.le_of_ble_eq_true rfl)) rfl (K0 m636 w637 h638 T639 F653 W658 (sf_aux51 _ _ R660))
            · have F661 := F625.trans F649 (by decide)
              have B662 : sf_B 1 4 (m645 17) := by rw [W650 17 (by decide)]; exact (sf_eqT X602 (sf_eqT X552 B91))
              have ek663 : (m645 17).toInt = ((m545 17)).toInt := by rw [W650 17 (by decide)]; exact X602
              have B664 : sf_B 0 0 (m645 22) := by rw [W650 22 (by decide)]; exact (sf_eqT X603 (sf_eqT X553 B92))
              have ek665 : (m645 22).toInt = ((m545 22)).toInt := by rw [W650 22 (by decide)]; exact X603
              have W666 : rf_W [10, 12, 13, 14, 16, 17, 18, 22] m m645 := W626.trans W650 (by decide)
              have B667 : sf_B 0 600 (m645 10) := T648.2.2.1 10
              show pm_R _ 187 119 [.ref 41, .long a0, pm_no, .int a1] [.int 1] _ _
              have R668 : (m 10).toInt ≤ (m645 10).toInt := (sf_aux70 _ _ _ R630 X652)
              obtain ⟨v669, B670, e671⟩ := X651 _ e633
              refine pm_R_br pm_M187 (pc' := 124) (st' := []) (pm_q187_1 (Nat.le_of_ble_eq_true rfl)) rfl ?_
              refine pm_R_lo pm_M187 (pc' := 125) (pm_q187_1 (Nat.le_of_ble_eq_true rfl)) rfl rfl ?_
              refine pm_R_op pm_M187 (pc' := 126) (st' := [.int 0, .ref 41]) (pm_q187_1 (Nat.le_of_ble_eq_true rfl)) rfl rfl ?_
              refine pm_R_op pm_M187 (pc' := 127) (st' := [.int 2, .int 0, .ref 41]) (pm_q187_1 (Nat.le_of_ble_eq_true rfl)) rfl rfl ?_
              refine pm_R_op pm_M187 (pc' := 128) (st' := [.int 4, .int 2, .int 0, .ref 41]) (pm_q187_1 (Nat.le_of_ble_eq_true rfl)) rfl rfl ?_
              refine pm_R_op pm_M187 (pc' := 130) (st' := [.int 10, .int 4, .int 2, .int 0, .ref 41]) (pm_q187_1 (Nat.le_of_ble_eq_true rfl)) rfl rfl ?_
              refine pm_R_op pm_M187 (pc' := 131) (st' := [.int 0, .int 10, .int 4, .int 2, .int 0, .ref 41]) (pm_q187_1 (Nat.le_of_ble_eq_true rfl)) rfl rfl ?_
              refine pm_R_cv pm_M187 (pc' := 134) (a := 41) (ra := [.int 0, .int 10, .int 4, .int 2, .int 0]) (rest := []) (ls' := [.ref 41, .int 0, .int 2, .int 4, .int 10, .int 0, pm_no, pm_no]) (pm_q187_1 (Nat.le_of_ble_eq_true rfl)) rfl (Or.inl rfl) pm_M185 T648.2.1 rfl (by decide) (Nat.lt_of_lt_of_le (by decide) T648.1) rfl rfl (Nat.le_of_ble_eq_true rfl) rfl rfl ?_
              have e672 := (F649.cell (by decide) (F599.cell (by decide) (F549.cell (by decide) (F86.cell (by decide) (F40.cell (by decide) (F25.cell (by decide) e3))))))
              refine rf_c185_r (d := d + 2) T648 (⟨f2, e672, ct4, fun z => (sf_pos B662 (by decide) z)⟩) (fun z => sf_pos B662 (by decide) z) (fun m675 w676 h677 T678 F679 W680 X681 => ?_)
              have F682 := F661.trans F679 (by decide)
              have B683 : sf_B 1 4 (m675 17) := by rw [W680 17 (by decide)]; exact B662
              have ek684 : (m675 17).toInt = ((m545 17)).toInt := by rw [W680 17 (by decide)]; exact ek663
              have B685 : sf_B 0 0 (m675 22) := by rw [W680 22 (by decide)]; exact B664
              have ek686 : (m675 22).toInt = ((m545 22)).toInt := by rw [W680 22 (by decide)]; exact ek665
              have B687 : sf_B 0 600 (m675 10) := by rw [W680 10 (by decide)]; exact B667
              have ek688 : (m675 10).toInt = ((m645 10)).toInt := by rw [W680 10 (by decide)]
              have W689 : rf_W [10, 12, 13, 14, 16, 17, 18, 22] m m675 := W666.trans W680 (by decide)
              show pm_R _ 187 134 [.ref 41, .long a0, pm_no, .int a1] [] _ _
              obtain ⟨f690, e691, ct692, bd693⟩ := X681
              refine pm_R_op pm_M187 (pc' := 135) (st' := [.int 1]) (pm_q187_1 (Nat.le_of_ble_eq_true rfl)) rfl rfl ?_
              exact pm_R_ret pm_M187 (r := some (.int 1)) (pm_q187_1 (Nat.le_of_ble_eq_true rfl)) rfl (K1 m675 w676 h677 T678 F682 W689 (⟨f690, e691, ct692, fun z => (sf_pos B683 (by decide) z)⟩) (sf_aux39 _ _ _ ek688 R668))
          · have F694 := F575.trans F612 (by decide)
            have W695 : rf_W [10, 12, 13, 14, 16, 17, 18, 22] m m608 := W576.trans W613 (by decide)
            have B696 : sf_B 0 600 (m608 10) := T611.2.2.1 10
            have B697 : sf_B 0 4 (m608 17) := T611.2.2.1 17
            have B698 : sf_B 0 1 (m608 22) := T611.2.2.1 22
            show pm_R _ 187 112 [.ref 41, .long a0, pm_no, .int a1] [.int 1] _ _
            have R699 : (m 10).toInt ≤ (m608 10).toInt := (sf_aux70 _ _ _ R580 X616)
            obtain ⟨v700, B701, e702⟩ := X614 _ e583
            refine pm_R_br pm_M187 (pc' := 115) (st' := []) (pm_q187_1 (Nat.le_of_ble_eq_true rfl)) rfl ?_
            refine pm_R_lo pm_M187 (pc' := 116) (pm_q187_1 (Nat.le_of_ble_eq_true rfl)) rfl rfl ?_
            refine pm_R_cv pm_M187 (pc' := 119) (a := 41) (ra := []) (rest := []) (ls' := [.ref 41, pm_no, pm_no]) (pm_q187_1 (Nat.le_of_ble_eq_true rfl)) rfl (Or.inl rfl) pm_M188 T611.2.1 rfl (by decide) (Nat.lt_of_lt_of_le (by decide) T611.1) rfl rfl (Nat.le_of_ble_eq_true rfl) rfl rfl ?_
            refine rf_c188 (d := d + 0) T611  (fun m705 w706 h707 T708 F709 W710 X711 => ?_) (fun m714 w715 h716 T717 F718 W719 X720 X721 => ?_)
            · have F722 := F694.trans F709 (by decide)
              have B723 : sf_B 1 4 (m705 17) := by rw [W710 17 (by decide)]; exact B617
              have ek724 : (m705 17).toInt = ((m608 17)).toInt := by rw [W710 17 (by decide)]
              have B725 : sf_B 0 0 (m705 22) := by rw [W710 22 (by decide)]; exact B618
              have ek726 : (m705 22).toInt = ((m608 22)).toInt := by rw [W710 22 (by decide)]
              have W727 : rf_W [10, 12, 13, 14, 16, 17, 18, 22] m m705 := W695.trans W710 (by decide)
              have B728 : sf_B 0 600 (m705 10) := T708.2.2.1 10
              show pm_R _ 187 119 [.ref 41, .long a0, pm_no, .int a1] [.int 0] _ _
              have R729 : (m 10).toInt ≤ (m705 10).toInt := (sf_aux70 _ _ _ R699 X711)
              refine pm_R_br pm_M187 (pc' := 122) (st' := []) (pm_q187_1 (Nat.le_of_ble_eq_true rfl)) rfl ?_
              refine pm_R_op pm_M187 (pc' := 123) (st' := [.int 0]) (pm_q187_1 (Nat.le_of_ble_eq_true rfl)) rfl rfl ?_
              exact pm_R_ret pm_M187 (r := some (.int 0)) (pm_q187_1 (Nat.le_of_ble_eq_true rfl)) rfl (K0 m705 w706 h707 T708 F722 W727 (sf_aux51 _ _ R729))
            · have F730 := F694.trans F718 (by decide)
              have B731 : sf_B 1 4 (m714 17) := by rw [W719 17 (by decide)]; exact B617
              have ek732 : (m714 17).toInt = ((m608 17)).toInt := by rw [W719 17 (by decide)]
              have B733 : sf_B 0 0 (m714 22) := by rw [W719 22 (by decide)]; exact B618
              have ek734 : (m714 22).toInt = ((m608 22)).toInt := by rw [W719 22 (by decide)]
              have W735 : rf_W [10, 12, 13, 14, 16, 17, 18, 22] m m714 := W695.trans W719 (by decide)
              have B736 : sf_B 0 600 (m714 10) := T717.2.2.1 10
              show pm_R _ 187 119 [.ref 41, .long a0, pm_no, .int a1] [.int 1] _ _
              have R737 : (m 10).toInt ≤ (m714 10).toInt := (sf_aux70 _ _ _ R699 X721)
              obtain ⟨v738, B739, e740⟩ := X720 _ e702
              refine pm_R_br pm_M187 (pc' := 124) (st' := []) (pm_q187_1 (Nat.le_of_ble_eq_true rfl)) rfl ?_
              refine pm_R_lo pm_M187 (pc' := 125) (pm_q187_1 (Nat.le_of_ble_eq_true rfl)) rfl rfl ?_
              refine pm_R_op pm_M187 (pc' := 126) (st' := [.int 0, .ref 41]) (pm_q187_1 (Nat.le_of_ble_eq_true rfl)) rfl rfl ?_
              refine pm_R_op pm_M187 (pc' := 127) (st' := [.int 2, .int 0, .ref 41]) (pm_q187_1 (Nat.le_of_ble_eq_true rfl)) rfl rfl ?_
              refine pm_R_op pm_M187 (pc' := 128) (st' := [.int 4, .int 2, .int 0, .ref 41]) (pm_q187_1 (Nat.le_of_ble_eq_true rfl)) rfl rfl ?_
              refine pm_R_op pm_M187 (pc' := 130) (st' := [.int 10, .int 4, .int 2, .int 0, .ref 41]) (pm_q187_1 (Nat.le_of_ble_eq_true rfl)) rfl rfl ?_
              refine pm_R_op pm_M187 (pc' := 131) (st' := [.int 0, .int 10, .int 4, .int 2, .int 0, .ref 41]) (pm_q187_1 (Nat.le_of_ble_eq_true rfl)) rfl rfl ?_
              refine pm_R_cv pm_M187 (pc' := 134) (a := 41) (ra := [.int 0, .int 10, .int 4, .int 2, .int 0]) (rest := []) (ls' := [.ref 41, .int 0, .int 2, .int 4, .int 10, .int 0, pm_no, pm_no]) (pm_q187_1 (Nat.le_of_ble_eq_true rfl)) rfl (Or.inl rfl) pm_M185 T717.2.1 rfl (by decide) (Nat.lt_of_lt_of_le (by decide) T717.1) rfl rfl (Nat.le_of_ble_eq_true rfl) rfl rfl ?_
              have e741 := (F718.cell (by decide) (F612.cell (by decide) (F549.cell (by decide) (F86.cell (by decide) (F40.cell (by decide) (F25.cell (by decide) e3))))))
              refine rf_c185_r (d := d + 2) T717 (⟨f2, e741, ct4, fun z => (sf_pos B731 (by decide) z)⟩) (fun z => sf_pos B731 (by decide) z) (fun m744 w745 h746 T747 F748 W749 X750 => ?_)
              have F751 := F730.trans F748 (by decide)
              have B752 : sf_B 1 4 (m744 17) := by rw [W749 17 (by decide)]; exact B731
              have ek753 : (m744 17).toInt = ((m608 17)).toInt := by rw [W749 17 (by decide)]; exact ek732
              have B754 : sf_B 0 0 (m744 22) := by rw [W749 22 (by decide)]; exact B733
              have ek755 : (m744 22).toInt = ((m608 22)).toInt := by rw [W749 22 (by decide)]; exact ek734
              have B756 : sf_B 0 600 (m744 10) := by rw [W749 10 (by decide)]; exact B736
              have ek757 : (m744 10).toInt = ((m714 10)).toInt := by rw [W749 10 (by decide)]
              have W758 : rf_W [10, 12, 13, 14, 16, 17, 18, 22] m m744 := W735.trans W749 (by decide)
              show pm_R _ 187 134 [.ref 41, .long a0, pm_no, .int a1] [] _ _
              obtain ⟨f759, e760, ct761, bd762⟩ := X750
              refine pm_R_op pm_M187 (pc' := 135) (st' := [.int 1]) (pm_q187_1 (Nat.le_of_ble_eq_true rfl)) rfl rfl ?_
              exact pm_R_ret pm_M187 (r := some (.int 1)) (pm_q187_1 (Nat.le_of_ble_eq_true rfl)) rfl (K1 m744 w745 h746 T747 F751 W758 (⟨f759, e760, ct761, fun z => (sf_pos B752 (by decide) z)⟩) (sf_aux39 _ _ _ ek757 R737))
        · have F763 := F525.trans F562 (by decide)
          have W764 : rf_W [10, 12, 13, 14, 16, 17, 18, 22] m m558 := W526.trans W563 (by decide)
          have B765 : sf_B 0 600 (m558 10) := T561.2.2.1 10
          have B766 : sf_B 0 4 (m558 17) := T561.2.2.1 17
          have B767 : sf_B 0 1 (m558 22) := T561.2.2.1 22
          show pm_R _ 187 102 [.ref 41, .long a0, pm_no, .int a1] [.int 1] _ _
          have R768 : (m 10).toInt ≤ (m558 10).toInt := (sf_aux70 _ _ _ R530 X566)
          obtain ⟨v769, B770, e771⟩ := X564 _ e533
          refine pm_R_br pm_M187 (pc' := 105) (st' := []) rfl rfl ?_
          refine pm_R_lo pm_M187 (pc' := 106) rfl rfl rfl ?_
          refine pm_R_op pm_M187 (pc' := 107) (st' := [.int 2, .ref 41]) rfl rfl rfl ?_
          refine pm_R_op pm_M187 (pc' := 108) (st' := [.int 5, .int 2, .ref 41]) rfl rfl rfl ?_
          refine pm_R_op pm_M187 (pc' := 109) (st' := [.int (-1), .int 5, .int 2, .ref 41]) (pm_q187_1 (Nat.le_of_ble_eq_true rfl)) rfl rfl ?_
          refine pm_R_cv pm_M187 (pc' := 112) (a := 41) (ra := [.int (-1), .int 5, .int 2]) (rest := []) (ls' := [.ref 41, .int 2, .int 5, .int (-1)]) (pm_q187_1 (Nat.le_of_ble_eq_true rfl)) rfl (Or.inl rfl) pm_M183 T561.2.1 rfl (by decide) (Nat.lt_of_lt_of_le (by decide) T561.1) rfl rfl (Nat.le_of_ble_eq_true rfl) rfl rfl ?_
          refine rf_c183_2_5 (d := d + 0) T561  (fun m774 w775 h776 T777 F778 W779 X780 => ?_) (fun m783 w784 h785 T786 F787 W788 X789 X790 X791 X792 X793 => ?_) (fun m796 w797 h798 T799 F800 W801 X802 X803 X804 B805 B806 => ?_)
          · have F807 := F763.trans F778 (by decide)
            have W808 : rf_W [10, 12, 13, 14, 16, 17, 18, 22] m m774 := W764.trans W779 (by decide)
            have B809 : sf_B 0 600 (m774 10) := T777.2.2.1 10
            have B810 : sf_B 0 4 (m774 17) := T777.2.2.1 17
            have B811 : sf_B 0 1 (m774 22) := T777.2.2.1 22
            show pm_R _ 187 112 [.ref 41, .long a0, pm_no, .int a1] [.int 0] _ _
            have R812 : (m 10).toInt ≤ (m774 10).toInt := (sf_aux70 _ _ _ R768 X780)
            refine pm_R_br pm_M187 (pc' := 122) (st' := []) (pm_q187_1 (Nat.le_of_ble_eq_true rfl)) rfl ?_
            refine pm_R_op pm_M187 (pc' := 123) (st' := [.int 0]) (pm_q187_1 (Nat.le_of_ble_eq_true rfl)) rfl rfl ?_
            exact pm_R_ret pm_M187 (r := some (.int 0)) (pm_q187_1 (Nat.le_of_ble_eq_true rfl)) rfl (K0 m774 w775 h776 T777 F807 W808 (sf_aux51 _ _ R812))
          · have F813 := F763.trans F787 (by decide)
            have W814 : rf_W [10, 12, 13, 14, 16, 17, 18, 22] m m783 := W764.trans W788 (by decide)
            have B815 : sf_B 0 600 (m783 10) := T786.2.2.1 10
            have B816 : sf_B 0 4 (m783 17) := T786.2.2.1 17
            have B817 : sf_B 0 1 (m783 22) := T786.2.2.1 22
            show pm_R _ 187 112 [.ref 41, .long a0, pm_no, .int a1] [.int 1] _ _
            have R818 : (m 10).toInt ≤ (m783 10).toInt := (sf_aux70 _ _ _ R768 X793)
            obtain ⟨v819, B820, e821⟩ := X789 _ e771
            refine pm_R_br pm_M187 (pc' := 115) (st' := []) (pm_q187_1 (Nat.le_of_ble_eq_true rfl)) rfl ?_
            refine pm_R_lo pm_M187 (pc' := 116) (pm_q187_1 (Nat.le_of_ble_eq_true rfl)) rfl rfl ?_
            refine pm_R_cv pm_M187 (pc' := 119) (a := 41) (ra := []) (rest := []) (ls' := [.ref 41, pm_no, pm_no]) (pm_q187_1 (Nat.le_of_ble_eq_true rfl)) rfl (Or.inl rfl) pm_M188 T786.2.1 rfl (by decide) (Nat.lt_of_lt_of_le (by decide) T786.1) rfl rfl (Nat.le_of_ble_eq_true rfl) rfl rfl ?_
            refine rf_c188 (d := d + 0) T786  (fun m824 w825 h826 T827 F828 W829 X830 => ?_) (fun m833 w834 h835 T836 F837 W838 X839 X840 => ?_)
            · have F841 := F813.trans F828 (by decide)
              have B842 : sf_B 1 4 (m824 17) := by rw [W829 17 (by decide)]; exact (sf_eqT X790 B567)
              have ek843 : (m824 17).toInt = ((m558 17)).toInt := by rw [W829 17 (by decide)]; exact X790
              have B844 : sf_B 0 0 (m824 22) := by rw [W829 22 (by decide)]; exact (sf_eqT X791 B568)
              have ek845 : (m824 22).toInt = ((m558 22)).toInt := by rw [W829 22 (by decide)]; exact X791
              have W846 : rf_W [10, 12, 13, 14, 16, 17, 18, 22] m m824 := W814.trans W829 (by decide)
              have B847 : sf_B 0 600 (m824 10) := T827.2.2.1 10
              show pm_R _ 187 119 [.ref 41, .long a0, pm_no, .int a1] [.int 0] _ _
              have R848 : (m 10).toInt ≤ (m824 10).toInt := (sf_aux70 _ _ _ R818 X830)
              refine pm_R_br pm_M187 (pc' := 122) (st' := []) (pm_q187_1 (Nat.le_of_ble_eq_true rfl)) rfl ?_
              refine pm_R_op pm_M187 (pc' := 123) (st' := [.int 0]) (pm_q187_1 (Nat.le_of_ble_eq_true rfl)) rfl rfl ?_
              exact pm_R_ret pm_M187 (r := some (.int 0)) (pm_q187_1 (Nat.le_of_ble_eq_true rfl)) rfl (K0 m824 w825 h826 T827 F841 W846 (sf_aux51 _ _ R848))
            · have F849 := F813.trans F837 (by decide)
              have B850 : sf_B 1 4 (m833 17) := by rw [W838 17 (by decide)]; exact (sf_eqT X790 B567)
              have ek851 : (m833 17).toInt = ((m558 17)).toInt := by rw [W838 17 (by decide)]; exact X790
              have B852 : sf_B 0 0 (m833 22) := by rw [W838 22 (by decide)]; exact (sf_eqT X791 B568)
              have ek853 : (m833 22).toInt = ((m558 22)).toInt := by rw [W838 22 (by decide)]; exact X791
              have W854 : rf_W [10, 12, 13, 14, 16, 17, 18, 22] m m833 := W814.trans W838 (by decide)
              have B855 : sf_B 0 600 (m833 10) := T836.2.2.1 10
              show pm_R _ 187 119 [.ref 41, .long a0, pm_no, .int a1] [.int 1] _ _
              have R856 : (m 10).toInt ≤ (m833 10).toInt := (sf_aux70 _ _ _ R818 X840)
              obtain ⟨v857, B858, e859⟩ := X839 _ e821
              refine pm_R_br pm_M187 (pc' := 124) (st' := []) (pm_q187_1 (Nat.le_of_ble_eq_true rfl)) rfl ?_
              refine pm_R_lo pm_M187 (pc' := 125) (pm_q187_1 (Nat.le_of_ble_eq_true rfl)) rfl rfl ?_
              refine pm_R_op pm_M187 (pc' := 126) (st' := [.int 0, .ref 41]) (pm_q187_1 (Nat.le_of_ble_eq_true rfl)) rfl rfl ?_
              refine pm_R_op pm_M187 (pc' := 127) (st' := [.int 2, .int 0, .ref 41]) (pm_q187_1 (Nat.le_of_ble_eq_true rfl)) rfl rfl ?_
              refine pm_R_op pm_M187 (pc' := 128) (st' := [.int 4, .int 2, .int 0, .ref 41]) (pm_q187_1 (Nat.le_of_ble_eq_true rfl)) rfl rfl ?_
              refine pm_R_op pm_M187 (pc' := 130) (st' := [.int 10, .int 4, .int 2, .int 0, .ref 41]) (pm_q187_1 (Nat.le_of_ble_eq_true rfl)) rfl rfl ?_
              refine pm_R_op pm_M187 (pc' := 131) (st' := [.int 0, .int 10, .int 4, .int 2, .int 0, .ref 41]) (pm_q187_1 (Nat.le_of_ble_eq_true rfl)) rfl rfl ?_
              refine pm_R_cv pm_M187 (pc' := 134) (a := 41) (ra := [.int 0, .int 10, .int 4, .int 2, .int 0]) (rest := []) (ls' := [.ref 41, .int 0, .int 2, .int 4, .int 10, .int 0, pm_no, pm_no]) (pm_q187_1 (Nat.le_of_ble_eq_true rfl)) rfl (Or.inl rfl) pm_M185 T836.2.1 rfl (by decide) (Nat.lt_of_lt_of_le (by decide) T836.1) rfl rfl (Nat.le_of_ble_eq_true rfl) rfl rfl ?_
              have e860 := (F837.cell (by decide) (F787.cell (by decide) (F562.cell (by decide) (F86.cell (by decide) (F40.cell (by decide) (F25.cell (by decide) e3))))))
              refine rf_c185_r (d := d + 2) T836 (⟨f2, e860, ct4, fun z => (sf_pos B850 (by decide) z)⟩) (fun z => sf_pos B850 (by decide) z) (fun m863 w864 h865 T866 F867 W868 X869 => ?_)
              have F870 := F849.trans F867 (by decide)
              have B871 : sf_B 1 4 (m863 17) := by rw [W868 17 (by decide)]; exact B850
              have ek872 : (m863 17).toInt = ((m558 17)).toInt := by rw [W868 17 (by decide)]; exact ek851
              have B873 : sf_B 0 0 (m863 22) := by rw [W868 22 (by decide)]; exact B852
              have ek874 : (m863 22).toInt = ((m558 22)).toInt := by rw [W868 22 (by decide)]; exact ek853
              have B875 : sf_B 0 600 (m863 10) := by rw [W868 10 (by decide)]; exact B855
              have ek876 : (m863 10).toInt = ((m833 10)).toInt := by rw [W868 10 (by decide)]
              have W877 : rf_W [10, 12, 13, 14, 16, 17, 18, 22] m m863 := W854.trans W868 (by decide)
              show pm_R _ 187 134 [.ref 41, .long a0, pm_no, .int a1] [] _ _
              obtain ⟨f878, e879, ct880, bd881⟩ := X869
              refine pm_R_op pm_M187 (pc' := 135) (st' := [.int 1]) (pm_q187_1 (Nat.le_of_ble_eq_true rfl)) rfl rfl ?_
              exact pm_R_ret pm_M187 (r := some (.int 1)) (pm_q187_1 (Nat.le_of_ble_eq_true rfl)) rfl (K1 m863 w864 h865 T866 F870 W877 (⟨f878, e879, ct880, fun z => (sf_pos B871 (by decide) z)⟩) (sf_aux39 _ _ _ ek876 R856))
          · have F882 := F763.trans F800 (by decide)
            have W883 : rf_W [10, 12, 13, 14, 16, 17, 18, 22] m m796 := W764.trans W801 (by decide)
            have B884 : sf_B 0 600 (m796 10) := T799.2.2.1 10
            have B885 : sf_B 0 4 (m796 17) := T799.2.2.1 17
            have B886 : sf_B 0 1 (m796 22) := T799.2.2.1 22
            show pm_R _ 187 112 [.ref 41, .long a0, pm_no, .int a1] [.int 1] _ _
            have R887 : (m 10).toInt ≤ (m796 10).toInt := (sf_aux70 _ _ _ R768 X804)
            obtain ⟨v888, B889, e890⟩ := X802 _ e771
            refine pm_R_br pm_M187 (pc' := 115) (st' := []) (pm_q187_1 (Nat.le_of_ble_eq_true rfl)) rfl ?_
            refine pm_R_lo pm_M187 (pc' := 116) (pm_q187_1 (Nat.le_of_ble_eq_true rfl)) rfl rfl ?_
            refine pm_R_cv pm_M187 (pc' := 119) (a := 41) (ra := []) (rest := []) (ls' := [.ref 41, pm_no, pm_no]) (pm_q187_1 (Nat.le_of_ble_eq_true rfl)) rfl (Or.inl rfl) pm_M188 T799.2.1 rfl (by decide) (Nat.lt_of_lt_of_le (by decide) T799.1) rfl rfl (Nat.le_of_ble_eq_true rfl) rfl rfl ?_
            refine rf_c188 (d := d + 0) T799  (fun m893 w894 h895 T896 F897 W898 X899 => ?_) (fun m902 w903 h904 T905 F906 W907 X908 X909 => ?_)
            · have F910 := F882.trans F897 (by decide)
              have B911 : sf_B 1 4 (m893 17) := by rw [W898 17 (by decide)]; exact B805
              have ek912 : (m893 17).toInt = ((m796 17)).toInt := by rw [W898 17 (by decide)]
              have B913 : sf_B 0 0 (m893 22) := by rw [W898 22 (by decide)]; exact B806
              have ek914 : (m893 22).toInt = ((m796 22)).toInt := by rw [W898 22 (by decide)]
              have W915 : rf_W [10, 12, 13, 14, 16, 17, 18, 22] m m893 := W883.trans W898 (by decide)
              have B916 : sf_B 0 600 (m893 10) := T896.2.2.1 10
              show pm_R _ 187 119 [.ref 41, .long a0, pm_no, .int a1] [.int 0] _ _
              have R917 : (m 10).toInt ≤ (m893 10).toInt := (sf_aux70 _ _ _ R887 X899)
              refine pm_R_br pm_M187 (pc' := 122) (st' := []) (pm_q187_1 (Nat.le_of_ble_eq_true rfl)) rfl ?_
              refine pm_R_op pm_M187 (pc' := 123) (st' := [.int 0]) (pm_q187_1 (Nat.le_of_ble_eq_true rfl)) rfl rfl ?_
              exact pm_R_ret pm_M187 (r := some (.int 0)) (pm_q187_1 (Nat.le_of_ble_eq_true rfl)) rfl (K0 m893 w894 h895 T896 F910 W915 (sf_aux51 _ _ R917))
            · have F918 := F882.trans F906 (by decide)
              have B919 : sf_B 1 4 (m902 17) := by rw [W907 17 (by decide)]; exact B805
              have ek920 : (m902 17).toInt = ((m796 17)).toInt := by rw [W907 17 (by decide)]
              have B921 : sf_B 0 0 (m902 22) := by rw [W907 22 (by decide)]; exact B806
              have ek922 : (m902 22).toInt = ((m796 22)).toInt := by rw [W907 22 (by decide)]
              have W923 : rf_W [10, 12, 13, 14, 16, 17, 18, 22] m m902 := W883.trans W907 (by decide)
              have B924 : sf_B 0 600 (m902 10) := T905.2.2.1 10
              show pm_R _ 187 119 [.ref 41, .long a0, pm_no, .int a1] [.int 1] _ _
              have R925 : (m 10).toInt ≤ (m902 10).toInt := (sf_aux70 _ _ _ R887 X909)
              obtain ⟨v926, B927, e928⟩ := X908 _ e890
              refine pm_R_br pm_M187 (pc' := 124) (st' := []) (pm_q187_1 (Nat.le_of_ble_eq_true rfl)) rfl ?_
              refine pm_R_lo pm_M187 (pc' := 125) (pm_q187_1 (Nat.le_of_ble_eq_true rfl)) rfl rfl ?_
              refine pm_R_op pm_M187 (pc' := 126) (st' := [.int 0, .ref 41]) (pm_q187_1 (Nat.le_of_ble_eq_true rfl)) rfl rfl ?_
              refine pm_R_op pm_M187 (pc' := 127) (st' := [.int 2, .int 0, .ref 41]) (pm_q187_1 (Nat.le_of_ble_eq_true rfl)) rfl rfl ?_
              refine pm_R_op pm_M187 (pc' := 128) (st' := [.int 4, .int 2, .int 0, .ref 41]) (pm_q187_1 (Nat.le_of_ble_eq_true rfl)) rfl rfl ?_
              refine pm_R_op pm_M187 (pc' := 130) (st' := [.int 10, .int 4, .int 2, .int 0, .ref 41]) (pm_q187_1 (Nat.le_of_ble_eq_true rfl)) rfl rfl ?_
              refine pm_R_op pm_M187 (pc' := 131) (st' := [.int 0, .int 10, .int 4, .int 2, .int 0, .ref 41]) (pm_q187_1 (Nat.le_of_ble_eq_true rfl)) rfl rfl ?_
              refine pm_R_cv pm_M187 (pc' := 134) (a := 41) (ra := [.int 0, .int 10, .int 4, .int 2, .int 0]) (rest := []) (ls' := [.ref 41, .int 0, .int 2, .int 4, .int 10, .int 0, pm_no, pm_no]) (pm_q187_1 (Nat.le_of_ble_eq_true rfl)) rfl (Or.inl rfl) pm_M185 T905.2.1 rfl (by decide) (Nat.lt_of_lt_of_le (by decide) T905.1) rfl rfl (Nat.le_of_ble_eq_true rfl) rfl rfl ?_
              have e929 := (F906.cell (by decide) (F800.cell (by decide) (F562.cell (by decide) (F86.cell (by decide) (F40.cell (by decide) (F25.cell (by decide) e3))))))
              refine rf_c185_r (d := d + 2) T905 (⟨f2, e929, ct4, fun z => (sf_pos B919 (by decide) z)⟩) (fun z => sf_pos B919 (by decide) z) (fun m932 w933 h934 T935 F936 W937 X938 => ?_)
              have F939 := F918.trans F936 (by decide)
              have B940 : sf_B 1 4 (m932 17) := by rw [W937 17 (by decide)]; exact B919
              have ek941 : (m932 17).toInt = ((m796 17)).toInt := by rw [W937 17 (by decide)]; exact ek920
              have B942 : sf_B 0 0 (m932 22) := by rw [W937 22 (by decide)]; exact B921
              have ek943 : (m932 22).toInt = ((m796 22)).toInt := by rw [W937 22 (by decide)]; exact ek922
              have B944 : sf_B 0 600 (m932 10) := by rw [W937 10 (by decide)]; exact B924
              have ek945 : (m932 10).toInt = ((m902 10)).toInt := by rw [W937 10 (by decide)]
              have W946 : rf_W [10, 12, 13, 14, 16, 17, 18, 22] m m932 := W923.trans W937 (by decide)
              show pm_R _ 187 134 [.ref 41, .long a0, pm_no, .int a1] [] _ _
              obtain ⟨f947, e948, ct949, bd950⟩ := X938
              refine pm_R_op pm_M187 (pc' := 135) (st' := [.int 1]) (pm_q187_1 (Nat.le_of_ble_eq_true rfl)) rfl rfl ?_
              exact pm_R_ret pm_M187 (r := some (.int 1)) (pm_q187_1 (Nat.le_of_ble_eq_true rfl)) rfl (K1 m932 w933 h934 T935 F939 W946 (⟨f947, e948, ct949, fun z => (sf_pos B940 (by decide) z)⟩) (sf_aux39 _ _ _ ek945 R925))
    · have B951 : sf_B 0 9 (f2 0) := sf_neH0 c17 sf_k10 ct4.1
      refine pm_R_lo pm_M187 (pc' := 49) rfl rfl rfl ?_
      refine pm_R_ldc2 pm_M187 (pc' := 52) rfl rfl rfl ?_
      refine sf_R_lcmp pm_M187 (pc' := 53) rfl rfl (fun z952 e953 => ?_)
      have B954 : sf_B (-2147483648) (-1) z952 := lf_cmpLt e953 B11 (⟨by decide, by decide⟩ : lf_B 1936287598 1936287598 1936287598) (by decide)
      refine pm_R_ifc pm_M187 (t := 73) (pc' := 56) rfl rfl rfl (fun c955 => ?_) (fun c955 => absurd (Classical.not_not.mp c955) (sf_neq2 B954 sf_k0 (by decide)))
      have k956 := sf_lneC e953 c955
      refine pm_R_lo pm_M187 (pc' := 74) rfl rfl rfl ?_
      refine pm_R_cv pm_M187 (pc' := 77) (a := 41) (ra := []) (rest := []) (ls' := [.ref 41, pm_no, pm_no]) rfl rfl (Or.inl rfl) pm_M179 T.2.1 rfl (by decide) (Nat.lt_of_lt_of_le (by decide) T.1) rfl rfl (Nat.le_of_ble_eq_true rfl) rfl rfl ?_
      refine rf_c179 (d := d + 1) T  (fun m959 w960 h961 T962 F963 W964 X965 X966 => ?_)
      have F967 := (rf_G.refl [41, 51, 52] h).trans F963 (by decide)
      have B968 : sf_B 0 4 (m959 17) := by rw [W964 17 (by decide)]; exact B6
      have ek969 : (m959 17).toInt = ((m 17)).toInt := by rw [W964 17 (by decide)]
      have W970 : rf_W [10, 12, 13, 14, 16, 17, 18, 22] m m959 := (rf_W.refl [10, 12, 13, 14, 16, 17, 18, 22] m).trans W964 (by decide)
      have B971 : sf_B 0 600 (m959 10) := T962.2.2.1 10
      have B972 : sf_B 0 1 (m959 22) := T962.2.2.1 22
      show pm_R _ 187 77 [.ref 41, .long a0, pm_no, .int a1] [] _ _
      have R973 : (m 10).toInt ≤ (m959 10).toInt := (sf_aux51 _ _ X965)
      refine pm_R_lo pm_M187 (pc' := 78) rfl rfl rfl ?_
      refine pm_R_ldc2 pm_M187 (pc' := 81) rfl rfl rfl ?_
      refine pm_R_op pm_M187 (pc' := 82) (st' := [.int z7]) rfl (by show some (Value.int (lg_cmp a0 1920298085) :: _) = _; rw [← e8]) rfl ?_
      refine pm_R_ifc pm_M187 (t := 136) (pc' := 85) rfl rfl rfl (fun c976 => absurd (sf_pt2 B10 sf_k0) c976) (fun c976 => ?_)
      refine pm_R_lo pm_M187 (pc' := 86) rfl rfl rfl ?_
      refine pm_R_op pm_M187 (pc' := 87) (st' := [.int 0, .ref 41]) rfl rfl rfl ?_
      refine pm_R_op pm_M187 (pc' := 88) (st' := [.int 5, .int 0, .ref 41]) rfl rfl rfl ?_
      refine pm_R_op pm_M187 (pc' := 89) (st' := [.int (-1), .int 5, .int 0, .ref 41]) rfl rfl rfl ?_
      refine pm_R_cv pm_M187 (pc' := 92) (a := 41) (ra := [.int (-1), .int 5, .int 0]) (rest := []) (ls' := [.ref 41, .int 0, .int 5, .int (-1)]) rfl rfl (Or.inl rfl) pm_M183 T962.2.1 rfl (by decide) (Nat.lt_of_lt_of_le (by decide) T962.1) rfl rfl (Nat.le_of_ble_eq_true rfl) rfl rfl ?_
      obtain ⟨f977, e978, b979⟩ := T962.2.2.2.1 52 (by decide) (by decide)
      refine rf_c183_0_5 (d := d + 0) T962  (fun m982 w983 h984 T985 F986 W987 X988 => ?_) (fun m991 w992 h993 T994 F995 W996 X997 X998 X999 X1000 X1001 => ?_) (fun m1004 w1005 h1006 T1007 F1008 W1009 X1010 X1011 X1012 B1013 B1014 => ?_)
      · have F1015 := F967.trans F986 (by decide)
        have W1016 : rf_W [10, 12, 13, 14, 16, 17, 18, 22] m m982 := W970.trans W987 (by decide)
        have B1017 : sf_B 0 600 (m982 10) := T985.2.2.1 10
        have B1018 : sf_B 0 4 (m982 17) := T985.2.2.1 17
        have B1019 : sf_B 0 1 (m982 22) := T985.2.2.1 22
        show pm_R _ 187 92 [.ref 41, .long a0, pm_no, .int a1] [.int 0] _ _
        have R1020 : (m 10).toInt ≤ (m982 10).toInt := (sf_aux70 _ _ _ R973 X988)
        refine pm_R_br pm_M187 (pc' := 122) (st' := []) rfl rfl ?_
        refine pm_R_op pm_M187 (pc' := 123) (st' := [.int 0]) (pm_q187_1 (Nat.le_of_ble_eq_true rfl)) rfl rfl ?_
        exact pm_R_ret pm_M187 (r := some (.int 0)) (pm_q187_1 (Nat.le_of_ble_eq_true rfl)) rfl (K0 m982 w983 h984 T985 F1015 W1016 (sf_aux51 _ _ R1020))
      · have F1021 := F967.trans F995 (by decide)
        have W1022 : rf_W [10, 12, 13, 14, 16, 17, 18, 22] m m991 := W970.trans W996 (by decide)
        have B1023 : sf_B 0 600 (m991 10) := T994.2.2.1 10
        have B1024 : sf_B 0 4 (m991 17) := T994.2.2.1 17
        have B1025 : sf_B 0 1 (m991 22) := T994.2.2.1 22
        show pm_R _ 187 92 [.ref 41, .long a0, pm_no, .int a1] [.int 1] _ _
        have R1026 : (m 10).toInt ≤ (m991 10).toInt := (sf_aux70 _ _ _ R973 X1001)
        obtain ⟨v1027, B1028, e1029⟩ := X997 _ e978
        refine pm_R_br pm_M187 (pc' := 95) (st' := []) rfl rfl ?_
        refine pm_R_lo pm_M187 (pc' := 96) rfl rfl rfl ?_
        refine pm_R_op pm_M187 (pc' := 97) (st' := [.int 1, .ref 41]) rfl rfl rfl ?_
        refine pm_R_op pm_M187 (pc' := 98) (st' := [.int 5, .int 1, .ref 41]) rfl rfl rfl ?_
        refine pm_R_op pm_M187 (pc' := 99) (st' := [.int (-1), .int 5, .int 1, .ref 41]) rfl rfl rfl ?_
        refine pm_R_cv pm_M187 (pc' := 102) (a := 41) (ra := [.int (-1), .int 5, .int 1]) (rest := []) (ls' := [.ref 41, .int 1, .int 5, .int (-1)]) rfl rfl (Or.inl rfl) pm_M183 T994.2.1 rfl (by decide) (Nat.lt_of_lt_of_le (by decide) T994.1) rfl rfl (Nat.le_of_ble_eq_true rfl) rfl rfl ?_
        refine rf_c183_1_5 (d := d + 0) T994  (fun m1032 w1033 h1034 T1035 F1036 W1037 X1038 => ?_) (fun m1041 w1042 h1043 T1044 F1045 W1046 X1047 X1048 X1049 X1050 X1051 => ?_) (fun m1054 w1055 h1056 T1057 F1058 W1059 X1060 X1061 X1062 B1063 B1064 => ?_)
        · have F1065 := F1021.trans F1036 (by decide)
          have W1066 : rf_W [10, 12, 13, 14, 16, 17, 18, 22] m m1032 := W1022.trans W1037 (by decide)
          have B1067 : sf_B 0 600 (m1032 10) := T1035.2.2.1 10
          have B1068 : sf_B 0 4 (m1032 17) := T1035.2.2.1 17
          have B1069 : sf_B 0 1 (m1032 22) := T1035.2.2.1 22
          show pm_R _ 187 102 [.ref 41, .long a0, pm_no, .int a1] [.int 0] _ _
          have R1070 : (m 10).toInt ≤ (m1032 10).toInt := (sf_aux70 _ _ _ R1026 X1038)
          refine pm_R_br pm_M187 (pc' := 122) (st' := []) rfl rfl ?_
          refine pm_R_op pm_M187 (pc' := 123) (st' := [.int 0]) (pm_q187_1 (Nat.le_of_ble_eq_true rfl)) rfl rfl ?_
          exact pm_R_ret pm_M187 (r := some (.int 0)) (pm_q187_1 (Nat.le_of_ble_eq_true rfl)) rfl (K0 m1032 w1033 h1034 T1035 F1065 W1066 (sf_aux51 _ _ R1070))
        · have F1071 := F1021.trans F1045 (by decide)
          have W1072 : rf_W [10, 12, 13, 14, 16, 17, 18, 22] m m1041 := W1022.trans W1046 (by decide)
          have B1073 : sf_B 0 600 (m1041 10) := T1044.2.2.1 10
          have B1074 : sf_B 0 4 (m1041 17) := T1044.2.2.1 17
          have B1075 : sf_B 0 1 (m1041 22) := T1044.2.2.1 22
          show pm_R _ 187 102 [.ref 41, .long a0, pm_no, .int a1] [.int 1] _ _
          have R1076 : (m 10).toInt ≤ (m1041 10).toInt := (sf_aux70 _ _ _ R1026 X1051)
          obtain ⟨v1077, B1078, e1079⟩ := X1047 _ e1029
          refine pm_R_br pm_M187 (pc' := 105) (st' := []) rfl rfl ?_
          refine pm_R_lo pm_M187 (pc' := 106) rfl rfl rfl ?_
          refine pm_R_op pm_M187 (pc' := 107) (st' := [.int 2, .ref 41]) rfl rfl rfl ?_
          refine pm_R_op pm_M187 (pc' := 108) (st' := [.int 5, .int 2, .ref 41]) rfl rfl rfl ?_
          refine pm_R_op pm_M187 (pc' := 109) (st' := [.int (-1), .int 5, .int 2, .ref 41]) (pm_q187_1 (Nat.le_of_ble_eq_true rfl)) rfl rfl ?_
          refine pm_R_cv pm_M187 (pc' := 112) (a := 41) (ra := [.int (-1), .int 5, .int 2]) (rest := []) (ls' := [.ref 41, .int 2, .int 5, .int (-1)]) (pm_q187_1 (Nat.le_of_ble_eq_true rfl)) rfl (Or.inl rfl) pm_M183 T1044.2.1 rfl (by decide) (Nat.lt_of_lt_of_le (by decide) T1044.1) rfl rfl (Nat.le_of_ble_eq_true rfl) rfl rfl ?_
          refine rf_c183_2_5 (d := d + 0) T1044  (fun m1082 w1083 h1084 T1085 F1086 W1087 X1088 => ?_) (fun m1091 w1092 h1093 T1094 F1095 W1096 X1097 X1098 X1099 X1100 X1101 => ?_) (fun m1104 w1105 h1106 T1107 F1108 W1109 X1110 X1111 X1112 B1113 B1114 => ?_)
          · have F1115 := F1071.trans F1086 (by decide)
            have W1116 : rf_W [10, 12, 13, 14, 16, 17, 18, 22] m m1082 := W1072.trans W1087 (by decide)
            have B1117 : sf_B 0 600 (m1082 10) := T1085.2.2.1 10
            have B1118 : sf_B 0 4 (m1082 17) := T1085.2.2.1 17
            have B1119 : sf_B 0 1 (m1082 22) := T1085.2.2.1 22
            show pm_R _ 187 112 [.ref 41, .long a0, pm_no, .int a1] [.int 0] _ _
            have R1120 : (m 10).toInt ≤ (m1082 10).toInt := (sf_aux70 _ _ _ R1076 X1088)
            refine pm_R_br pm_M187 (pc' := 122) (st' := []) (pm_q187_1 (Nat.le_of_ble_eq_true rfl)) rfl ?_
            refine pm_R_op pm_M187 (pc' := 123) (st' := [.int 0]) (pm_q187_1 (Nat.le_of_ble_eq_true rfl)) rfl rfl ?_
            exact pm_R_ret pm_M187 (r := some (.int 0)) (pm_q187_1 (Nat.le_of_ble_eq_true rfl)) rfl (K0 m1082 w1083 h1084 T1085 F1115 W1116 (sf_aux51 _ _ R1120))
          · have F1121 := F1071.trans F1095 (by decide)
            have W1122 : rf_W [10, 12, 13, 14, 16, 17, 18, 22] m m1091 := W1072.trans W1096 (by decide)
            have B1123 : sf_B 0 600 (m1091 10) := T1094.2.2.1 10
            have B1124 : sf_B 0 4 (m1091 17) := T1094.2.2.1 17
            have B1125 : sf_B 0 1 (m1091 22) := T1094.2.2.1 22
            show pm_R _ 187 112 [.ref 41, .long a0, pm_no, .int a1] [.int 1] _ _
            have R1126 : (m 10).toInt ≤ (m1091 10).toInt := (sf_aux70 _ _ _ R1076 X1101)
            obtain ⟨v1127, B1128, e1129⟩ := X1097 _ e1079
            refine pm_R_br pm_M187 (pc' := 115) (st' := []) (pm_q187_1 (Nat.le_of_ble_eq_true rfl)) rfl ?_
            refine pm_R_lo pm_M187 (pc' := 116) (pm_q187_1 (Nat.le_of_ble_eq_true rfl)) rfl rfl ?_
            refine pm_R_cv pm_M187 (pc' := 119) (a := 41) (ra := []) (rest := []) (ls' := [.ref 41, pm_no, pm_no]) (pm_q187_1 (Nat.le_of_ble_eq_true rfl)) rfl (Or.inl rfl) pm_M188 T1094.2.1 rfl (by decide) (Nat.lt_of_lt_of_le (by decide) T1094.1) rfl rfl (Nat.le_of_ble_eq_true rfl) rfl rfl ?_
            refine rf_c188 (d := d + 0) T1094  (fun m1132 w1133 h1134 T1135 F1136 W1137 X1138 => ?_) (fun m1141 w1142 h1143 T1144 F1145 W1146 X1147 X1148 => ?_)
            · have F1149 := F1121.trans F1136 (by decide)
              have B1150 : sf_B 0 4 (m1132 17) := by rw [W1137 17 (by decide)]; exact (sf_eqT X1098 (sf_eqT X1048 (sf_eqT X998 B968)))
              have ek1151 : (m1132 17).toInt = ((m1041 17)).toInt := by rw [W1137 17 (by decide)]; exact X1098
              have B1152 : sf_B 0 1 (m1132 22) := by rw [W1137 22 (by decide)]; exact (sf_eqT X1099 (sf_eqT X1049 (sf_eqT X999 B972)))
              have ek1153 : (m1132 22).toInt = ((m1041 22)).toInt := by rw [W1137 22 (by decide)]; exact X1099
              have W1154 : rf_W [10, 12, 13, 14, 16, 17, 18, 22] m m1132 := W1122.trans W1137 (by decide)
              have B1155 : sf_B 0 600 (m1132 10) := T1135.2.2.1 10
              show pm_R _ 187 119 [.ref 41, .long a0, pm_no, .int a1] [.int 0] _ _
              have R1156 : (m 10).toInt ≤ (m1132 10).toInt := (sf_aux70 _ _ _ R1126 X1138)
              refine pm_R_br pm_M187 (pc' := 122) (st' := []) (pm_q187_1 (Nat.le_of_ble_eq_true rfl)) rfl ?_
              refine pm_R_op pm_M187 (pc' := 123) (st' := [.int 0]) (pm_q187_1 (Nat.le_of_ble_eq_true rfl)) rfl rfl ?_
              exact pm_R_ret pm_M187 (r := some (.int 0)) (pm_q187_1 (Nat.le_of_ble_eq_true rfl)) rfl (K0 m1132 w1133 h1134 T1135 F1149 W1154 (sf_aux51 _ _ R1156))
            · have F1157 := F1121.trans F1145 (by decide)
              have B1158 : sf_B 0 4 (m1141 17) := by rw [W1146 17 (by decide)]; exact (sf_eqT X1098 (sf_eqT X1048 (sf_eqT X998 B968)))
              have ek1159 : (m1141 17).toInt = ((m1041 17)).toInt := by rw [W1146 17 (by decide)]; exact X1098
              have B1160 : sf_B 0 1 (m1141 22) := by rw [W1146 22 (by decide)]; exact (sf_eqT X1099 (sf_eqT X1049 (sf_eqT X999 B972)))
              have ek1161 : (m1141 22).toInt = ((m1041 22)).toInt := by rw [W1146 22 (by decide)]; exact X1099
              have W1162 : rf_W [10, 12, 13, 14, 16, 17, 18, 22] m m1141 := W1122.trans W1146 (by decide)
              have B1163 : sf_B 0 600 (m1141 10) := T1144.2.2.1 10
              show pm_R _ 187 119 [.ref 41, .long a0, pm_no, .int a1] [.int 1] _ _
              have R1164 : (m 10).toInt ≤ (m1141 10).toInt := (sf_aux70 _ _ _ R1126 X1148)
              obtain ⟨v1165, B1166, e1167⟩ := X1147 _ e1129
              refine pm_R_br pm_M187 (pc' := 124) (st' := []) (pm_q187_1 (Nat.le_of_ble_eq_true rfl)) rfl ?_
              refine pm_R_lo pm_M187 (pc' := 125) (pm_q187_1 (Nat.le_of_ble_eq_true rfl)) rfl rfl ?_
              refine pm_R_op pm_M187 (pc' := 126) (st' := [.int 0, .ref 41]) (pm_q187_1 (Nat.le_of_ble_eq_true rfl)) rfl rfl ?_
              refine pm_R_op pm_M187 (pc' := 127) (st' := [.int 2, .int 0, .ref 41]) (pm_q187_1 (Nat.le_of_ble_eq_true rfl)) rfl rfl ?_
              refine pm_R_op pm_M187 (pc' := 128) (st' := [.int 4, .int 2, .int 0, .ref 41]) (pm_q187_1 (Nat.le_of_ble_eq_true rfl)) rfl rfl ?_
              refine pm_R_op pm_M187 (pc' := 130) (st' := [.int 10, .int 4, .int 2, .int 0, .ref 41]) (pm_q187_1 (Nat.le_of_ble_eq_true rfl)) rfl rfl ?_
              refine pm_R_op pm_M187 (pc' := 131) (st' := [.int 0, .int 10, .int 4, .int 2, .int 0, .ref 41]) (pm_q187_1 (Nat.le_of_ble_eq_true rfl)) rfl rfl ?_
              refine pm_R_cv pm_M187 (pc' := 134) (a := 41) (ra := [.int 0, .int 10, .int 4, .int 2, .int 0]) (rest := []) (ls' := [.ref 41, .int 0, .int 2, .int 4, .int 10, .int 0, pm_no, pm_no]) (pm_q187_1 (Nat.le_of_ble_eq_true rfl)) rfl (Or.inl rfl) pm_M185 T1144.2.1 rfl (by decide) (Nat.lt_of_lt_of_le (by decide) T1144.1) rfl rfl (Nat.le_of_ble_eq_true rfl) rfl rfl ?_
              have e1168 := (F1145.cell (by decide) (F1095.cell (by decide) (F1045.cell (by decide) (F995.cell (by decide) (F963.cell (by decide) e3)))))
              refine rf_c185_r (d := d + 2) T1144 (⟨f2, e1168, ct4, fun z => (bd5 (sf_aux71 _ _ _ _ _ ek969 X998 X1048 ek1159 z))⟩) (fun _ g eg => by rw [e1167] at eg; cases eg; exact ⟨sf_eqL (Eq.trans (sf_upd_nec (k := Int32.toNatClampNeg 3) (j := Int32.toNatClampNeg 0) (by decide)) (Eq.trans (sf_upd_nec (k := Int32.toNatClampNeg 2) (j := Int32.toNatClampNeg 0) (by decide)) (Eq.trans (sf_upd_nec (k := Int32.toNatClampNeg 1) (j := Int32.toNatClampNeg 0) (by decide)) sf_upd_eq))) B1028, sf_eqL (Eq.trans (sf_upd_nec (k := Int32.toNatClampNeg 3) (j := Int32.toNatClampNeg 1) (by decide)) (Eq.trans (sf_upd_nec (k := Int32.toNatClampNeg 2) (j := Int32.toNatClampNeg 1) (by decide)) sf_upd_eq)) B1078, sf_eqL (Eq.trans (sf_upd_nec (k := Int32.toNatClampNeg 3) (j := Int32.toNatClampNeg 2) (by decide)) sf_upd_eq) B1128, sf_eqL sf_upd_eq B1166⟩) (fun m1171 w1172 h1173 T1174 F1175 W1176 X1177 => ?_)
              have F1178 := F1157.trans F1175 (by decide)
              have B1179 : sf_B 0 4 (m1171 17) := by rw [W1176 17 (by decide)]; exact B1158
              have ek1180 : (m1171 17).toInt = ((m1041 17)).toInt := by rw [W1176 17 (by decide)]; exact ek1159
              have B1181 : sf_B 0 1 (m1171 22) := by rw [W1176 22 (by decide)]; exact B1160
              have ek1182 : (m1171 22).toInt = ((m1041 22)).toInt := by rw [W1176 22 (by decide)]; exact ek1161
              have B1183 : sf_B 0 600 (m1171 10) := by rw [W1176 10 (by decide)]; exact B1163
              have ek1184 : (m1171 10).toInt = ((m1141 10)).toInt := by rw [W1176 10 (by decide)]
              have W1185 : rf_W [10, 12, 13, 14, 16, 17, 18, 22] m m1171 := W1162.trans W1176 (by decide)
              show pm_R _ 187 134 [.ref 41, .long a0, pm_no, .int a1] [] _ _
              obtain ⟨f1186, e1187, ct1188, bd1189⟩ := X1177
              refine pm_R_op pm_M187 (pc' := 135) (st' := [.int 1]) (pm_q187_1 (Nat.le_of_ble_eq_true rfl)) rfl rfl ?_
              exact pm_R_ret pm_M187 (r := some (.int 1)) (pm_q187_1 (Nat.le_of_ble_eq_true rfl)) rfl (K1 m1171 w1172 h1173 T1174 F1178 W1185 (⟨f1186, e1187, ct1188, fun z => (bd1189 z)⟩) (sf_aux39 _ _ _ ek1184 R1164))
          · have F1190 := F1071.trans F1108 (by decide)
            have W1191 : rf_W [10, 12, 13, 14, 16, 17, 18, 22] m m1104 := W1072.trans W1109 (by decide)
            have B1192 : sf_B 0 600 (m1104 10) := T1107.2.2.1 10
            have B1193 : sf_B 0 4 (m1104 17) := T1107.2.2.1 17
            have B1194 : sf_B 0 1 (m1104 22) := T1107.2.2.1 22
            show pm_R _ 187 112 [.ref 41, .long a0, pm_no, .int a1] [.int 1] _ _
            have R1195 : (m 10).toInt ≤ (m1104 10).toInt := (sf_aux70 _ _ _ R1076 X1112)
            obtain ⟨v1196, B1197, e1198⟩ := X1110 _ e1079
            refine pm_R_br pm_M187 (pc' := 115) (st' := []) (pm_q187_1 (Nat.le_of_ble_eq_true rfl)) rfl ?_
            refine pm_R_lo pm_M187 (pc' := 116) (pm_q187_1 (Nat.le_of_ble_eq_true rfl)) rfl rfl ?_
            refine pm_R_cv pm_M187 (pc' := 119) (a := 41) (ra := []) (rest := []) (ls' := [.ref 41, pm_no, pm_no]) (pm_q187_1 (Nat.le_of_ble_eq_true rfl)) rfl (Or.inl rfl) pm_M188 T1107.2.1 rfl (by decide) (Nat.lt_of_lt_of_le (by decide) T1107.1) rfl rfl (Nat.le_of_ble_eq_true rfl) rfl rfl ?_
            refine rf_c188 (d := d + 0) T1107  (fun m1201 w1202 h1203 T1204 F1205 W1206 X1207 => ?_) (fun m1210 w1211 h1212 T1213 F1214 W1215 X1216 X1217 => ?_)
            · have F1218 := F1190.trans F1205 (by decide)
              have B1219 : sf_B 1 4 (m1201 17) := by rw [W1206 17 (by decide)]; exact B1113
              have ek1220 : (m1201 17).toInt = ((m1104 17)).toInt := by rw [W1206 17 (by decide)]
              have B1221 : sf_B 0 0 (m1201 22) := by rw [W1206 22 (by decide)]; exact B1114
              have ek1222 : (m1201 22).toInt = ((m1104 22)).toInt := by rw [W1206 22 (by decide)]
              have W1223 : rf_W [10, 12, 13, 14, 16, 17, 18, 22] m m1201 := W1191.trans W1206 (by decide)
              have B1224 : sf_B 0 600 (m1201 10) := T1204.2.2.1 10
              show pm_R _ 187 119 [.ref 41, .long a0, pm_no, .int a1] [.int 0] _ _
              have R1225 : (m 10).toInt ≤ (m1201 10).toInt := (sf_aux70 _ _ _ R1195 X1207)
              refine pm_R_br pm_M187 (pc' := 122) (st' := []) (pm_q187_1 (Nat.le_of_ble_eq_true rfl)) rfl ?_
              refine pm_R_op pm_M187 (pc' := 123) (st' := [.int 0]) (pm_q187_1 (Nat.le_of_ble_eq_true rfl)) rfl rfl ?_
              exact pm_R_ret pm_M187 (r := some (.int 0)) (pm_q187_1 (Nat.le_of_ble_eq_true rfl)) rfl (K0 m1201 w1202 h1203 T1204 F1218 W1223 (sf_aux51 _ _ R1225))
            · have F1226 := F1190.trans F1214 (by decide)
              have B1227 : sf_B 1 4 (m1210 17) := by rw [W1215 17 (by decide)]; exact B1113
              have ek1228 : (m1210 17).toInt = ((m1104 17)).toInt := by rw [W1215 17 (by decide)]
              have B1229 : sf_B 0 0 (m1210 22) := by rw [W1215 22 (by decide)]; exact B1114
              have ek1230 : (m1210 22).toInt = ((m1104 22)).toInt := by rw [W1215 22 (by decide)]
              have W1231 : rf_W [10, 12, 13, 14, 16, 17, 18, 22] m m1210 := W1191.trans W1215 (by decide)
              have B1232 : sf_B 0 600 (m1210 10) := T1213.2.2.1 10
              show pm_R _ 187 119 [.ref 41, .long a0, pm_no, .int a1] [.int 1] _ _
              have R1233 : (m 10).toInt ≤ (m1210 10).toInt := (sf_aux70 _ _ _ R1195 X1217)
              obtain ⟨v1234, B1235, e1236⟩ := X1216 _ e1198
              refine pm_R_br pm_M187 (pc' := 124) (st' := []) (pm_q187_1 (Nat.le_of_ble_eq_true rfl)) rfl ?_
              refine pm_R_lo pm_M187 (pc' := 125) (pm_q187_1 (Nat.le_of_ble_eq_true rfl)) rfl rfl ?_
              refine pm_R_op pm_M187 (pc' := 126) (st' := [.int 0, .ref 41]) (pm_q187_1 (Nat.le_of_ble_eq_true rfl)) rfl rfl ?_
              refine pm_R_op pm_M187 (pc' := 127) (st' := [.int 2, .int 0, .ref 41]) (pm_q187_1 (Nat.le_of_ble_eq_true rfl)) rfl rfl ?_
              refine pm_R_op pm_M187 (pc' := 128) (st' := [.int 4, .int 2, .int 0, .ref 41]) (pm_q187_1 (Nat.le_of_ble_eq_true rfl)) rfl rfl ?_
              refine pm_R_op pm_M187 (pc' := 130) (st' := [.int 10, .int 4, .int 2, .int 0, .ref 41]) (pm_q187_1 (Nat.le_of_ble_eq_true rfl)) rfl rfl ?_
              refine pm_R_op pm_M187 (pc' := 131) (st' := [.int 0, .int 10, .int 4, .int 2, .int 0, .ref 41]) (pm_q187_1 (Nat.le_of_ble_eq_true rfl)) rfl rfl ?_
              refine pm_R_cv pm_M187 (pc' := 134) (a := 41) (ra := [.int 0, .int 10, .int 4, .int 2, .int 0]) (rest := []) (ls' := [.ref 41, .int 0, .int 2, .int 4, .int 10, .int 0, pm_no, pm_no]) (pm_q187_1 (Nat.le_of_ble_eq_true rfl)) rfl (Or.inl rfl) pm_M185 T1213.2.1 rfl (by decide) (Nat.lt_of_lt_of_le (by decide) T1213.1) rfl rfl (Nat.le_of_ble_eq_true rfl) rfl rfl ?_
              have e1237 := (F1214.cell (by decide) (F1108.cell (by decide) (F1045.cell (by decide) (F995.cell (by decide) (F963.cell (by decide) e3)))))
              refine rf_c185_r (d := d + 2) T1213 (⟨f2, e1237, ct4, fun z => (sf_pos B1227 (by decide) z)⟩) (fun z => sf_pos B1227 (by decide) z) (fun m1240 w1241 h1242 T1243 F1244 W1245 X1246 => ?_)
              have F1247 := F1226.trans F1244 (by decide)
              have B1248 : sf_B 1 4 (m1240 17) := by rw [W1245 17 (by decide)]; exact B1227
              have ek1249 : (m1240 17).toInt = ((m1104 17)).toInt := by rw [W1245 17 (by decide)]; exact ek1228
              have B1250 : sf_B 0 0 (m1240 22) := by rw [W1245 22 (by decide)]; exact B1229
              have ek1251 : (m1240 22).toInt = ((m1104 22)).toInt := by rw [W1245 22 (by decide)]; exact ek1230
              have B1252 : sf_B 0 600 (m1240 10) := by rw [W1245 10 (by decide)]; exact B1232
              have ek1253 : (m1240 10).toInt = ((m1210 10)).toInt := by rw [W1245 10 (by decide)]
              have W1254 : rf_W [10, 12, 13, 14, 16, 17, 18, 22] m m1240 := W1231.trans W1245 (by decide)
              show pm_R _ 187 134 [.ref 41, .long a0, pm_no, .int a1] [] _ _
              obtain ⟨f1255, e1256, ct1257, bd1258⟩ := X1246
              refine pm_R_op pm_M187 (pc' := 135) (st' := [.int 1]) (pm_q187_1 (Nat.le_of_ble_eq_true rfl)) rfl rfl ?_
              exact pm_R_ret pm_M187 (r := some (.int 1)) (pm_q187_1 (Nat.le_of_ble_eq_true rfl)) rfl (K1 m1240 w1241 h1242 T1243 F1247 W1254 (⟨f1255, e1256, ct1257, fun z => (sf_pos B1248 (by decide) z)⟩) (sf_aux39 _ _ _ ek1253 R1233))
        · have F1259 := F1021.trans F1058 (by decide)
          have W1260 : rf_W [10, 12, 13, 14, 16, 17, 18, 22] m m1054 := W1022.trans W1059 (by decide)
          have B1261 : sf_B 0 600 (m1054 10) := T1057.2.2.1 10
          have B1262 : sf_B 0 4 (m1054 17) := T1057.2.2.1 17
          have B1263 : sf_B 0 1 (m1054 22) := T1057.2.2.1 22
          show pm_R _ 187 102 [.ref 41, .long a0, pm_no, .int a1] [.int 1] _ _
          have R1264 : (m 10).toInt ≤ (m1054 10).toInt := (sf_aux70 _ _ _ R1026 X1062)
          obtain ⟨v1265, B1266, e1267⟩ := X1060 _ e1029
          refine pm_R_br pm_M187 (pc' := 105) (st' := []) rfl rfl ?_
          refine pm_R_lo pm_M187 (pc' := 106) rfl rfl rfl ?_
          refine pm_R_op pm_M187 (pc' := 107) (st' := [.int 2, .ref 41]) rfl rfl rfl ?_
          refine pm_R_op pm_M187 (pc' := 108) (st' := [.int 5, .int 2, .ref 41]) rfl rfl rfl ?_
          refine pm_R_op pm_M187 (pc' := 109) (st' := [.int (-1), .int 5, .int 2, .ref 41]) (pm_q187_1 (Nat.le_of_ble_eq_true rfl)) rfl rfl ?_
          refine pm_R_cv pm_M187 (pc' := 112) (a := 41) (ra := [.int (-1), .int 5, .int 2]) (rest := []) (ls' := [.ref 41, .int 2, .int 5, .int (-1)]) (pm_q187_1 (Nat.le_of_ble_eq_true rfl)) rfl (Or.inl rfl) pm_M183 T1057.2.1 rfl (by decide) (Nat.lt_of_lt_of_le (by decide) T1057.1) rfl rfl (Nat.le_of_ble_eq_true rfl) rfl rfl ?_
          refine rf_c183_2_5 (d := d + 0) T1057  (fun m1270 w1271 h1272 T1273 F1274 W1275 X1276 => ?_) (fun m1279 w1280 h1281 T1282 F1283 W1284 X1285 X1286 X1287 X1288 X1289 => ?_) (fun m1292 w1293 h1294 T1295 F1296 W1297 X1298 X1299 X1300 B1301 B1302 => ?_)
          · have F1303 := F1259.trans F1274 (by decide)
            have W1304 : rf_W [10, 12, 13, 14, 16, 17, 18, 22] m m1270 := W1260.trans W1275 (by decide)
            have B1305 : sf_B 0 600 (m1270 10) := T1273.2.2.1 10
            have B1306 : sf_B 0 4 (m1270 17) := T1273.2.2.1 17
            have B1307 : sf_B 0 1 (m1270 22) := T1273.2.2.1 22
            show pm_R _ 187 112 [.ref 41, .long a0, pm_no, .int a1] [.int 0] _ _
            have R1308 : (m 10).toInt ≤ (m1270 10).toInt := (sf_aux70 _ _ _ R1264 X1276)
            refine pm_R_br pm_M187 (pc' := 122) (st' := []) (pm_q187_1 (Nat.le_of_ble_eq_true rfl)) rfl ?_
            refine pm_R_op pm_M187 (pc' := 123) (st' := [.int 0]) (pm_q187_1 (Nat.le_of_ble_eq_true rfl)) rfl rfl ?_
            exact pm_R_ret pm_M187 (r := some (.int 0)) (pm_q187_1 (Nat.le_of_ble_eq_true rfl)) rfl (K0 m1270 w1271 h1272 T1273 F1303 W1304 (sf_aux51 _ _ R1308))
          · have F1309 := F1259.trans F1283 (by decide)
            have W1310 : rf_W [10, 12, 13, 14, 16, 17, 18, 22] m m1279 := W1260.trans W1284 (by decide)
            have B1311 : sf_B 0 600 (m1279 10) := T1282.2.2.1 10
            have B1312 : sf_B 0 4 (m1279 17) := T1282.2.2.1 17
            have B1313 : sf_B 0 1 (m1279 22) := T1282.2.2.1 22
            show pm_R _ 187 112 [.ref 41, .long a0, pm_no, .int a1] [.int 1] _ _
            have R1314 : (m 10).toInt ≤ (m1279 10).toInt := (sf_aux70 _ _ _ R1264 X1289)
            obtain ⟨v1315, B1316, e1317⟩ := X1285 _ e1267
            refine pm_R_br pm_M187 (pc' := 115) (st' := []) (pm_q187_1 (Nat.le_of_ble_eq_true rfl)) rfl ?_
            refine pm_R_lo pm_M187 (pc' := 116) (pm_q187_1 (Nat.le_of_ble_eq_true rfl)) rfl rfl ?_
            refine pm_R_cv pm_M187 (pc' := 119) (a := 41) (ra := []) (rest := []) (ls' := [.ref 41, pm_no, pm_no]) (pm_q187_1 (Nat.le_of_ble_eq_true rfl)) rfl (Or.inl rfl) pm_M188 T1282.2.1 rfl (by decide) (Nat.lt_of_lt_of_le (by decide) T1282.1) rfl rfl (Nat.le_of_ble_eq_true rfl) rfl rfl ?_
            refine rf_c188 (d := d + 0) T1282  (fun m1320 w1321 h1322 T1323 F1324 W1325 X1326 => ?_) (fun m1329 w1330 h1331 T1332 F1333 W1334 X1335 X1336 => ?_)
            · have F1337 := F1309.trans F1324 (by decide)
              have B1338 : sf_B 1 4 (m1320 17) := by rw [W1325 17 (by decide)]; exact (sf_eqT X1286 B1063)
              have ek1339 : (m1320 17).toInt = ((m1054 17)).toInt := by rw [W1325 17 (by decide)]; exact X1286
              have B1340 : sf_B 0 0 (m1320 22) := by rw [W1325 22 (by decide)]; exact (sf_eqT X1287 B1064)
              have ek1341 : (m1320 22).toInt = ((m1054 22)).toInt := by rw [W1325 22 (by decide)]; exact X1287
              have W1342 : rf_W [10, 12, 13, 14, 16, 17, 18, 22] m m1320 := W1310.trans W1325 (by decide)
              have B1343 : sf_B 0 600 (m1320 10) := T1323.2.2.1 10
              show pm_R _ 187 119 [.ref 41, .long a0, pm_no, .int a1] [.int 0] _ _
              have R1344 : (m 10).toInt ≤ (m1320 10).toInt := (sf_aux70 _ _ _ R1314 X1326)
              refine pm_R_br pm_M187 (pc' := 122) (st' := []) (pm_q187_1 (Nat.le_of_ble_eq_true rfl)) rfl ?_
              refine pm_R_op pm_M187 (pc' := 123) (st' := [.int 0]) (pm_q187_1 (Nat.le_of_ble_eq_true rfl)) rfl rfl ?_
              exact pm_R_ret pm_M187 (r := some (.int 0)) (pm_q187_1 (Nat.le_of_ble_eq_true rfl)) rfl (K0 m1320 w1321 h1322 T1323 F1337 W1342 (sf_aux51 _ _ R1344))
            · have F1345 := F1309.trans F1333 (by decide)
              have B1346 : sf_B 1 4 (m1329 17) := by rw [W1334 17 (by decide)]; exact (sf_eqT X1286 B1063)
              have ek1347 : (m1329 17).toInt = ((m1054 17)).toInt := by rw [W1334 17 (by decide)]; exact X1286
              have B1348 : sf_B 0 0 (m1329 22) := by rw [W1334 22 (by decide)]; exact (sf_eqT X1287 B1064)
              have ek1349 : (m1329 22).toInt = ((m1054 22)).toInt := by rw [W1334 22 (by decide)]; exact X1287
              have W1350 : rf_W [10, 12, 13, 14, 16, 17, 18, 22] m m1329 := W1310.trans W1334 (by decide)
              have B1351 : sf_B 0 600 (m1329 10) := T1332.2.2.1 10
              show pm_R _ 187 119 [.ref 41, .long a0, pm_no, .int a1] [.int 1] _ _
              have R1352 : (m 10).toInt ≤ (m1329 10).toInt := (sf_aux70 _ _ _ R1314 X1336)
              obtain ⟨v1353, B1354, e1355⟩ := X1335 _ e1317
              refine pm_R_br pm_M187 (pc' := 124) (st' := []) (pm_q187_1 (Nat.le_of_ble_eq_true rfl)) rfl ?_
              refine pm_R_lo pm_M187 (pc' := 125) (pm_q187_1 (Nat.le_of_ble_eq_true rfl)) rfl rfl ?_
              refine pm_R_op pm_M187 (pc' := 126) (st' := [.int 0, .ref 41]) (pm_q187_1 (Nat.le_of_ble_eq_true rfl)) rfl rfl ?_
              refine pm_R_op pm_M187 (pc' := 127) (st' := [.int 2, .int 0, .ref 41]) (pm_q187_1 (Nat.le_of_ble_eq_true rfl)) rfl rfl ?_
              refine pm_R_op pm_M187 (pc' := 128) (st' := [.int 4, .int 2, .int 0, .ref 41]) (pm_q187_1 (Nat.le_of_ble_eq_true rfl)) rfl rfl ?_
              refine pm_R_op pm_M187 (pc' := 130) (st' := [.int 10, .int 4, .int 2, .int 0, .ref 41]) (pm_q187_1 (Nat.le_of_ble_eq_true rfl)) rfl rfl ?_
              refine pm_R_op pm_M187 (pc' := 131) (st' := [.int 0, .int 10, .int 4, .int 2, .int 0, .ref 41]) (pm_q187_1 (Nat.le_of_ble_eq_true rfl)) rfl rfl ?_
              refine pm_R_cv pm_M187 (pc' := 134) (a := 41) (ra := [.int 0, .int 10, .int 4, .int 2, .int 0]) (rest := []) (ls' := [.ref 41, .int 0, .int 2, .int 4, .int 10, .int 0, pm_no, pm_no]) (pm_q187_1 (Nat.le_of_ble_eq_true rfl)) rfl (Or.inl rfl) pm_M185 T1332.2.1 rfl (by decide) (Nat.lt_of_lt_of_le (by decide) T1332.1) rfl rfl (Nat.le_of_ble_eq_true rfl) rfl rfl ?_
              have e1356 := (F1333.cell (by decide) (F1283.cell (by decide) (F1058.cell (by decide) (F995.cell (by decide) (F963.cell (by decide) e3)))))
              refine rf_c185_r (d := d + 2) T1332 (⟨f2, e1356, ct4, fun z => (sf_pos B1346 (by decide) z)⟩) (fun z => sf_pos B1346 (by decide) z) (fun m1359 w1360 h1361 T1362 F1363 W1364 X1365 => ?_)
              have F1366 := F1345.trans F1363 (by decide)
              have B1367 : sf_B 1 4 (m1359 17) := by rw [W1364 17 (by decide)]; exact B1346
              have ek1368 : (m1359 17).toInt = ((m1054 17)).toInt := by rw [W1364 17 (by decide)]; exact ek1347
              have B1369 : sf_B 0 0 (m1359 22) := by rw [W1364 22 (by decide)]; exact B1348
              have ek1370 : (m1359 22).toInt = ((m1054 22)).toInt := by rw [W1364 22 (by decide)]; exact ek1349
              have B1371 : sf_B 0 600 (m1359 10) := by rw [W1364 10 (by decide)]; exact B1351
              have ek1372 : (m1359 10).toInt = ((m1329 10)).toInt := by rw [W1364 10 (by decide)]
              have W1373 : rf_W [10, 12, 13, 14, 16, 17, 18, 22] m m1359 := W1350.trans W1364 (by decide)
              show pm_R _ 187 134 [.ref 41, .long a0, pm_no, .int a1] [] _ _
              obtain ⟨f1374, e1375, ct1376, bd1377⟩ := X1365
              refine pm_R_op pm_M187 (pc' := 135) (st' := [.int 1]) (pm_q187_1 (Nat.le_of_ble_eq_true rfl)) rfl rfl ?_
              exact pm_R_ret pm_M187 (r := some (.int 1)) (pm_q187_1 (Nat.le_of_ble_eq_true rfl)) rfl (K1 m1359 w1360 h1361 T1362 F1366 W1373 (⟨f1374, e1375, ct1376, fun z => (sf_pos B1367 (by decide) z)⟩) (sf_aux39 _ _ _ ek1372 R1352))
          · have F1378 := F1259.trans F1296 (by decide)
            have W1379 : rf_W [10, 12, 13, 14, 16, 17, 18, 22] m m1292 := W1260.trans W1297 (by decide)
            have B1380 : sf_B 0 600 (m1292 10) := T1295.2.2.1 10
            have B1381 : sf_B 0 4 (m1292 17) := T1295.2.2.1 17
            have B1382 : sf_B 0 1 (m1292 22) := T1295.2.2.1 22
            show pm_R _ 187 112 [.ref 41, .long a0, pm_no, .int a1] [.int 1] _ _
            have R1383 : (m 10).toInt ≤ (m1292 10).toInt := (sf_aux70 _ _ _ R1264 X1300)
            obtain ⟨v1384, B1385, e1386⟩ := X1298 _ e1267
            refine pm_R_br pm_M187 (pc' := 115) (st' := []) (pm_q187_1 (Nat.le_of_ble_eq_true rfl)) rfl ?_
            refine pm_R_lo pm_M187 (pc' := 116) (pm_q187_1 (Nat.le_of_ble_eq_true rfl)) rfl rfl ?_
            refine pm_R_cv pm_M187 (pc' := 119) (a := 41) (ra := []) (rest := []) (ls' := [.ref 41, pm_no, pm_no]) (pm_q187_1 (Nat.le_of_ble_eq_true rfl)) rfl (Or.inl rfl) pm_M188 T1295.2.1 rfl (by decide) (Nat.lt_of_lt_of_le (by decide) T1295.1) rfl rfl (Nat.le_of_ble_eq_true rfl) rfl rfl ?_
            refine rf_c188 (d := d + 0) T1295  (fun m1389 w1390 h1391 T1392 F1393 W1394 X1395 => ?_) (fun m1398 w1399 h1400 T1401 F1402 W1403 X1404 X1405 => ?_)
            · have F1406 := F1378.trans F1393 (by decide)
              have B1407 : sf_B 1 4 (m1389 17) := by rw [W1394 17 (by decide)]; exact B1301
              have ek1408 : (m1389 17).toInt = ((m1292 17)).toInt := by rw [W1394 17 (by decide)]
              have B1409 : sf_B 0 0 (m1389 22) := by rw [W1394 22 (by decide)]; exact B1302
              have ek1410 : (m1389 22).toInt = ((m1292 22)).toInt := by rw [W1394 22 (by decide)]
              have W1411 : rf_W [10, 12, 13, 14, 16, 17, 18, 22] m m1389 := W1379.trans W1394 (by decide)
              have B1412 : sf_B 0 600 (m1389 10) := T1392.2.2.1 10
              show pm_R _ 187 119 [.ref 41, .long a0, pm_no, .int a1] [.int 0] _ _
              have R1413 : (m 10).toInt ≤ (m1389 10).toInt := (sf_aux70 _ _ _ R1383 X1395)
              refine pm_R_br pm_M187 (pc' := 122) (st' := []) (pm_q187_1 (Nat.le_of_ble_eq_true rfl)) rfl ?_
              refine pm_R_op pm_M187 (pc' := 123) (st' := [.int 0]) (pm_q187_1 (Nat.le_of_ble_eq_true rfl)) rfl rfl ?_
              exact pm_R_ret pm_M187 (r := some (.int 0)) (pm_q187_1 (Nat.le_of_ble_eq_true rfl)) rfl (K0 m1389 w1390 h1391 T1392 F1406 W1411 (sf_aux51 _ _ R1413))
            · have F1414 := F1378.trans F1402 (by decide)
              have B1415 : sf_B 1 4 (m1398 17) := by rw [W1403 17 (by decide)]; exact B1301
              have ek1416 : (m1398 17).toInt = ((m1292 17)).toInt := by rw [W1403 17 (by decide)]
              have B1417 : sf_B 0 0 (m1398 22) := by rw [W1403 22 (by decide)]; exact B1302
              have ek1418 : (m1398 22).toInt = ((m1292 22)).toInt := by rw [W1403 22 (by decide)]
              have W1419 : rf_W [10, 12, 13, 14, 16, 17, 18, 22] m m1398 := W1379.trans W1403 (by decide)
              have B1420 : sf_B 0 600 (m1398 10) := T1401.2.2.1 10
              show pm_R _ 187 119 [.ref 41, .long a0, pm_no, .int a1] [.int 1] _ _
              have R1421 : (m 10).toInt ≤ (m1398 10).toInt := (sf_aux70 _ _ _ R1383 X1405)
              obtain ⟨v1422, B1423, e1424⟩ := X1404 _ e1386
              refine pm_R_br pm_M187 (pc' := 124) (st' := []) (pm_q187_1 (Nat.le_of_ble_eq_true rfl)) rfl ?_
              refine pm_R_lo pm_M187 (pc' := 125) (pm_q187_1 (Nat.le_of_ble_eq_true rfl)) rfl rfl ?_
              refine pm_R_op pm_M187 (pc' := 126) (st' := [.int 0, .ref 41]) (pm_q187_1 (Nat.le_of_ble_eq_true rfl)) rfl rfl ?_
              refine pm_R_op pm_M187 (pc' := 127) (st' := [.int 2, .int 0, .ref 41]) (pm_q187_1 (Nat.le_of_ble_eq_true rfl)) rfl rfl ?_
              refine pm_R_op pm_M187 (pc' := 128) (st' := [.int 4, .int 2, .int 0, .ref 41]) (pm_q187_1 (Nat.le_of_ble_eq_true rfl)) rfl rfl ?_
              refine pm_R_op pm_M187 (pc' := 130) (st' := [.int 10, .int 4, .int 2, .int 0, .ref 41]) (pm_q187_1 (Nat.le_of_ble_eq_true rfl)) rfl rfl ?_
              refine pm_R_op pm_M187 (pc' := 131) (st' := [.int 0, .int 10, .int 4, .int 2, .int 0, .ref 41]) (pm_q187_1 (Nat.le_of_ble_eq_true rfl)) rfl rfl ?_
              refine pm_R_cv pm_M187 (pc' := 134) (a := 41) (ra := [.int 0, .int 10, .int 4, .int 2, .int 0]) (rest := []) (ls' := [.ref 41, .int 0, .int 2, .int 4, .int 10, .int 0, pm_no, pm_no]) (pm_q187_1 (Nat.le_of_ble_eq_true rfl)) rfl (Or.inl rfl) pm_M185 T1401.2.1 rfl (by decide) (Nat.lt_of_lt_of_le (by decide) T1401.1) rfl rfl (Nat.le_of_ble_eq_true rfl) rfl rfl ?_
              have e1425 := (F1402.cell (by decide) (F1296.cell (by decide) (F1058.cell (by decide) (F995.cell (by decide) (F963.cell (by decide) e3)))))
              refine rf_c185_r (d := d + 2) T1401 (⟨f2, e1425, ct4, fun z => (sf_pos B1415 (by decide) z)⟩) (fun z => sf_pos B1415 (by decide) z) (fun m1428 w1429 h1430 T1431 F1432 W1433 X1434 => ?_)
              have F1435 := F1414.trans F1432 (by decide)
              have B1436 : sf_B 1 4 (m1428 17) := by rw [W1433 17 (by decide)]; exact B1415
              have ek1437 : (m1428 17).toInt = ((m1292 17)).toInt := by rw [W1433 17 (by decide)]; exact ek1416
              have B1438 : sf_B 0 0 (m1428 22) := by rw [W1433 22 (by decide)]; exact B1417
              have ek1439 : (m1428 22).toInt = ((m1292 22)).toInt := by rw [W1433 22 (by decide)]; exact ek1418
              have B1440 : sf_B 0 600 (m1428 10) := by rw [W1433 10 (by decide)]; exact B1420
              have ek1441 : (m1428 10).toInt = ((m1398 10)).toInt := by rw [W1433 10 (by decide)]
              have W1442 : rf_W [10, 12, 13, 14, 16, 17, 18, 22] m m1428 := W1419.trans W1433 (by decide)
              show pm_R _ 187 134 [.ref 41, .long a0, pm_no, .int a1] [] _ _
              obtain ⟨f1443, e1444, ct1445, bd1446⟩ := X1434
              refine pm_R_op pm_M187 (pc' := 135) (st' := [.int 1]) (pm_q187_1 (Nat.le_of_ble_eq_true rfl)) rfl rfl ?_
              exact pm_R_ret pm_M187 (r := some (.int 1)) (pm_q187_1 (Nat.le_of_ble_eq_true rfl)) rfl (K1 m1428 w1429 h1430 T1431 F1435 W1442 (⟨f1443, e1444, ct1445, fun z => (sf_pos B1436 (by decide) z)⟩) (sf_aux39 _ _ _ ek1441 R1421))
      · have F1447 := F967.trans F1008 (by decide)
        have W1448 : rf_W [10, 12, 13, 14, 16, 17, 18, 22] m m1004 := W970.trans W1009 (by decide)
        have B1449 : sf_B 0 600 (m1004 10) := T1007.2.2.1 10
        have B1450 : sf_B 0 4 (m1004 17) := T1007.2.2.1 17
        have B1451 : sf_B 0 1 (m1004 22) := T1007.2.2.1 22
        show pm_R _ 187 92 [.ref 41, .long a0, pm_no, .int a1] [.int 1] _ _
        have R1452 : (m 10).toInt ≤ (m1004 10).toInt := (sf_aux70 _ _ _ R973 X1012)
        obtain ⟨v1453, B1454, e1455⟩ := X1010 _ e978
        refine pm_R_br pm_M187 (pc' := 95) (st' := []) rfl rfl ?_
        refine pm_R_lo pm_M187 (pc' := 96) rfl rfl rfl ?_
        refine pm_R_op pm_M187 (pc' := 97) (st' := [.int 1, .ref 41]) rfl rfl rfl ?_
        refine pm_R_op pm_M187 (pc' := 98) (st' := [.int 5, .int 1, .ref 41]) rfl rfl rfl ?_
        refine pm_R_op pm_M187 (pc' := 99) (st' := [.int (-1), .int 5, .int 1, .ref 41]) rfl rfl rfl ?_
        refine pm_R_cv pm_M187 (pc' := 102) (a := 41) (ra := [.int (-1), .int 5, .int 1]) (rest := []) (ls' := [.ref 41, .int 1, .int 5, .int (-1)]) rfl rfl (Or.inl rfl) pm_M183 T1007.2.1 rfl (by decide) (Nat.lt_of_lt_of_le (by decide) T1007.1) rfl rfl (Nat.le_of_ble_eq_true rfl) rfl rfl ?_
        refine rf_c183_1_5 (d := d + 0) T1007  (fun m1458 w1459 h1460 T1461 F1462 W1463 X1464 => ?_) (fun m1467 w1468 h1469 T1470 F1471 W1472 X1473 X1474 X1475 X1476 X1477 => ?_) (fun m1480 w1481 h1482 T1483 F1484 W1485 X1486 X1487 X1488 B1489 B1490 => ?_)
        · have F1491 := F1447.trans F1462 (by decide)
          have W1492 : rf_W [10, 12, 13, 14, 16, 17, 18, 22] m m1458 := W1448.trans W1463 (by decide)
          have B1493 : sf_B 0 600 (m1458 10) := T1461.2.2.1 10
          have B1494 : sf_B 0 4 (m1458 17) := T1461.2.2.1 17
          have B1495 : sf_B 0 1 (m1458 22) := T1461.2.2.1 22
          show pm_R _ 187 102 [.ref 41, .long a0, pm_no, .int a1] [.int 0] _ _
          have R1496 : (m 10).toInt ≤ (m1458 10).toInt := (sf_aux70 _ _ _ R1452 X1464)
          refine pm_R_br pm_M187 (pc' := 122) (st' := []) rfl rfl ?_
          refine pm_R_op pm_M187 (pc' := 123) (st' := [.int 0]) (pm_q187_1 (Nat.le_of_ble_eq_true rfl)) rfl rfl ?_
          exact pm_R_ret pm_M187 (r := some (.int 0)) (pm_q187_1 (Nat.le_of_ble_eq_true rfl)) rfl (K0 m1458 w1459 h1460 T1461 F1491 W1492 (sf_aux51 _ _ R1496))
        · have F1497 := F1447.trans F1471 (by decide)
          have W1498 : rf_W [10, 12, 13, 14, 16, 17, 18, 22] m m1467 := W1448.trans W1472 (by decide)
          have B1499 : sf_B 0 600 (m1467 10) := T1470.2.2.1 10
          have B1500 : sf_B 0 4 (m1467 17) := T1470.2.2.1 17
          have B1501 : sf_B 0 1 (m1467 22) := T1470.2.2.1 22
          show pm_R _ 187 102 [.ref 41, .long a0, pm_no, .int a1] [.int 1] _ _
          have R1502 : (m 10).toInt ≤ (m1467 10).toInt := (sf_aux70 _ _ _ R1452 X1477)
          obtain ⟨v1503, B1504, e1505⟩ := X1473 _ e1455
          refine pm_R_br pm_M187 (pc' := 105) (st' := []) rfl rfl ?_
          refine pm_R_lo pm_M187 (pc' := 106) rfl rfl rfl ?_
          refine pm_R_op pm_M187 (pc' := 107) (st' := [.int 2, .ref 41]) rfl rfl rfl ?_
          refine pm_R_op pm_M187 (pc' := 108) (st' := [.int 5, .int 2, .ref 41]) rfl rfl rfl ?_
          refine pm_R_op pm_M187 (pc' := 109) (st' := [.int (-1), .int 5, .int 2, .ref 41]) (pm_q187_1 (Nat.le_of_ble_eq_true rfl)) rfl rfl ?_
          refine pm_R_cv pm_M187 (pc' := 112) (a := 41) (ra := [.int (-1), .int 5, .int 2]) (rest := []) (ls' := [.ref 41, .int 2, .int 5, .int (-1)]) (pm_q187_1 (Nat.le_of_ble_eq_true rfl)) rfl (Or.inl rfl) pm_M183 T1470.2.1 rfl (by decide) (Nat.lt_of_lt_of_le (by decide) T1470.1) rfl rfl (Nat.le_of_ble_eq_true rfl) rfl rfl ?_
          refine rf_c183_2_5 (d := d + 0) T1470  (fun m1508 w1509 h1510 T1511 F1512 W1513 X1514 => ?_) (fun m1517 w1518 h1519 T1520 F1521 W1522 X1523 X1524 X1525 X1526 X1527 => ?_) (fun m1530 w1531 h1532 T1533 F1534 W1535 X1536 X1537 X1538 B1539 B1540 => ?_)
          · have F1541 := F1497.trans F1512 (by decide)
            have W1542 : rf_W [10, 12, 13, 14, 16, 17, 18, 22] m m1508 := W1498.trans W1513 (by decide)
            have B1543 : sf_B 0 600 (m1508 10) := T1511.2.2.1 10
            have B1544 : sf_B 0 4 (m1508 17) := T1511.2.2.1 17
            have B1545 : sf_B 0 1 (m1508 22) := T1511.2.2.1 22
            show pm_R _ 187 112 [.ref 41, .long a0, pm_no, .int a1] [.int 0] _ _
            have R1546 : (m 10).toInt ≤ (m1508 10).toInt := (sf_aux70 _ _ _ R1502 X1514)
            refine pm_R_br pm_M187 (pc' := 122) (st' := []) (pm_q187_1 (Nat.le_of_ble_eq_true rfl)) rfl ?_
            refine pm_R_op pm_M187 (pc' := 123) (st' := [.int 0]) (pm_q187_1 (Nat.le_of_ble_eq_true rfl)) rfl rfl ?_
            exact pm_R_ret pm_M187 (r := some (.int 0)) (pm_q187_1 (Nat.le_of_ble_eq_true rfl)) rfl (K0 m1508 w1509 h1510 T1511 F1541 W1542 (sf_aux51 _ _ R1546))
          · have F1547 := F1497.trans F1521 (by decide)
            have W1548 : rf_W [10, 12, 13, 14, 16, 17, 18, 22] m m1517 := W1498.trans W1522 (by decide)
            have B1549 : sf_B 0 600 (m1517 10) := T1520.2.2.1 10
            have B1550 : sf_B 0 4 (m1517 17) := T1520.2.2.1 17
            have B1551 : sf_B 0 1 (m1517 22) := T1520.2.2.1 22
            show pm_R _ 187 112 [.ref 41, .long a0, pm_no, .int a1] [.int 1] _ _
            have R1552 : (m 10).toInt ≤ (m1517 10).toInt := (sf_aux70 _ _ _ R1502 X1527)
            obtain ⟨v1553, B1554, e1555⟩ := X1523 _ e1505
            refine pm_R_br pm_M187 (pc' := 115) (st' := []) (pm_q187_1 (Nat.le_of_ble_eq_true rfl)) rfl ?_
            refine pm_R_lo pm_M187 (pc' := 116) (pm_q187_1 (Nat.le_of_ble_eq_true rfl)) rfl rfl ?_
            refine pm_R_cv pm_M187 (pc' := 119) (a := 41) (ra := []) (rest := []) (ls' := [.ref 41, pm_no, pm_no]) (pm_q187_1 (Nat.le_of_ble_eq_true rfl)) rfl (Or.inl rfl) pm_M188 T1520.2.1 rfl (by decide) (Nat.lt_of_lt_of_le (by decide) T1520.1) rfl rfl (Nat.le_of_ble_eq_true rfl) rfl rfl ?_
            refine rf_c188 (d := d + 0) T1520  (fun m1558 w1559 h1560 T1561 F1562 W1563 X1564 => ?_) (fun m1567 w1568 h1569 T1570 F1571 W1572 X1573 X1574 => ?_)
            · have F1575 := F1547.trans F1562 (by decide)
              have B1576 : sf_B 1 4 (m1558 17) := by rw [W1563 17 (by decide)]; exact (sf_eqT X1524 (sf_eqT X1474 B1013))
              have ek1577 : (m1558 17).toInt = ((m1467 17)).toInt := by rw [W1563 17 (by decide)]; exact X1524
              have B1578 : sf_B 0 0 (m1558 22) := by rw [W1563 22 (by decide)]; exact (sf_eqT X1525 (sf_eqT X1475 B1014))
              have ek1579 : (m1558 22).toInt = ((m1467 22)).toInt := by rw [W1563 22 (by decide)]; exact X1525
              have W1580 : rf_W [10, 12, 13, 14, 16, 17, 18, 22] m m1558 := W1548.trans W1563 (by decide)
              have B1581 : sf_B 0 600 (m1558 10) := T1561.2.2.1 10
              show pm_R _ 187 119 [.ref 41, .long a0, pm_no, .int a1] [.int 0] _ _
              have R1582 : (m 10).toInt ≤ (m1558 10).toInt := (sf_aux70 _ _ _ R1552 X1564)
              refine pm_R_br pm_M187 (pc' := 122) (st' := []) (pm_q187_1 (Nat.le_of_ble_eq_true rfl)) rfl ?_
              refine pm_R_op pm_M187 (pc' := 123) (st' := [.int 0]) (pm_q187_1 (Nat.le_of_ble_eq_true rfl)) rfl rfl ?_
              exact pm_R_ret pm_M187 (r := some (.int 0)) (pm_q187_1 (Nat.le_of_ble_eq_true rfl)) rfl (K0 m1558 w1559 h1560 T1561 F1575 W1580 (sf_aux51 _ _ R1582))
            · have F1583 := F1547.trans F1571 (by decide)
              have B1584 : sf_B 1 4 (m1567 17) := by rw [W1572 17 (by decide)]; exact (sf_eqT X1524 (sf_eqT X1474 B1013))
              have ek1585 : (m1567 17).toInt = ((m1467 17)).toInt := by rw [W1572 17 (by decide)]; exact X1524
              have B1586 : sf_B 0 0 (m1567 22) := by rw [W1572 22 (by decide)]; exact (sf_eqT X1525 (sf_eqT X1475 B1014))
              have ek1587 : (m1567 22).toInt = ((m1467 22)).toInt := by rw [W1572 22 (by decide)]; exact X1525
              have W1588 : rf_W [10, 12, 13, 14, 16, 17, 18, 22] m m1567 := W1548.trans W1572 (by decide)
              have B1589 : sf_B 0 600 (m1567 10) := T1570.2.2.1 10
              show pm_R _ 187 119 [.ref 41, .long a0, pm_no, .int a1] [.int 1] _ _
              have R1590 : (m 10).toInt ≤ (m1567 10).toInt := (sf_aux70 _ _ _ R1552 X1574)
              obtain ⟨v1591, B1592, e1593⟩ := X1573 _ e1555
              refine pm_R_br pm_M187 (pc' := 124) (st' := []) (pm_q187_1 (Nat.le_of_ble_eq_true rfl)) rfl ?_
              refine pm_R_lo pm_M187 (pc' := 125) (pm_q187_1 (Nat.le_of_ble_eq_true rfl)) rfl rfl ?_
              refine pm_R_op pm_M187 (pc' := 126) (st' := [.int 0, .ref 41]) (pm_q187_1 (Nat.le_of_ble_eq_true rfl)) rfl rfl ?_
              refine pm_R_op pm_M187 (pc' := 127) (st' := [.int 2, .int 0, .ref 41]) (pm_q187_1 (Nat.le_of_ble_eq_true rfl)) rfl rfl ?_
              refine pm_R_op pm_M187 (pc' := 128) (st' := [.int 4, .int 2, .int 0, .ref 41]) (pm_q187_1 (Nat.le_of_ble_eq_true rfl)) rfl rfl ?_
              refine pm_R_op pm_M187 (pc' := 130) (st' := [.int 10, .int 4, .int 2, .int 0, .ref 41]) (pm_q187_1 (Nat.le_of_ble_eq_true rfl)) rfl rfl ?_
              refine pm_R_op pm_M187 (pc' := 131) (st' := [.int 0, .int 10, .int 4, .int 2, .int 0, .ref 41]) (pm_q187_1 (Nat.le_of_ble_eq_true rfl)) rfl rfl ?_
              refine pm_R_cv pm_M187 (pc' := 134) (a := 41) (ra := [.int 0, .int 10, .int 4, .int 2, .int 0]) (rest := []) (ls' := [.ref 41, .int 0, .int 2, .int 4, .int 10, .int 0, pm_no, pm_no]) (pm_q187_1 (Nat.le_of_ble_eq_true rfl)) rfl (Or.inl rfl) pm_M185 T1570.2.1 rfl (by decide) (Nat.lt_of_lt_of_le (by decide) T1570.1) rfl rfl (Nat.le_of_ble_eq_true rfl) rfl rfl ?_
              have e1594 := (F1571.cell (by decide) (F1521.cell (by decide) (F1471.cell (by decide) (F1008.cell (by decide) (F963.cell (by decide) e3)))))
              refine rf_c185_r (d := d + 2) T1570 (⟨f2, e1594, ct4, fun z => (sf_pos B1584 (by decide) z)⟩) (fun z => sf_pos B1584 (by decide) z) (fun m1597 w1598 h1599 T1600 F1601 W1602 X1603 => ?_)
              have F1604 := F1583.trans F1601 (by decide)
              have B1605 : sf_B 1 4 (m1597 17) := by rw [W1602 17 (by decide)]; exact B1584
              have ek1606 : (m1597 17).toInt = ((m1467 17)).toInt := by rw [W1602 17 (by decide)]; exact ek1585
              have B1607 : sf_B 0 0 (m1597 22) := by rw [W1602 22 (by decide)]; exact B1586
              have ek1608 : (m1597 22).toInt = ((m1467 22)).toInt := by rw [W1602 22 (by decide)]; exact ek1587
              have B1609 : sf_B 0 600 (m1597 10) := by rw [W1602 10 (by decide)]; exact B1589
              have ek1610 : (m1597 10).toInt = ((m1567 10)).toInt := by rw [W1602 10 (by decide)]
              have W1611 : rf_W [10, 12, 13, 14, 16, 17, 18, 22] m m1597 := W1588.trans W1602 (by decide)
              show pm_R _ 187 134 [.ref 41, .long a0, pm_no, .int a1] [] _ _
              obtain ⟨f1612, e1613, ct1614, bd1615⟩ := X1603
              refine pm_R_op pm_M187 (pc' := 135) (st' := [.int 1]) (pm_q187_1 (Nat.le_of_ble_eq_true rfl)) rfl rfl ?_
              exact pm_R_ret pm_M187 (r := some (.int 1)) (pm_q187_1 (Nat.le_of_ble_eq_true rfl)) rfl (K1 m1597 w1598 h1599 T1600 F1604 W1611 (⟨f1612, e1613, ct1614, fun z => (sf_pos B1605 (by decide) z)⟩) (sf_aux39 _ _ _ ek1610 R1590))
          · have F1616 := F1497.trans F1534 (by decide)
            have W1617 : rf_W [10, 12, 13, 14, 16, 17, 18, 22] m m1530 := W1498.trans W1535 (by decide)
            have B1618 : sf_B 0 600 (m1530 10) := T1533.2.2.1 10
            have B1619 : sf_B 0 4 (m1530 17) := T1533.2.2.1 17
            have B1620 : sf_B 0 1 (m1530 22) := T1533.2.2.1 22
            show pm_R _ 187 112 [.ref 41, .long a0, pm_no, .int a1] [.int 1] _ _
            have R1621 : (m 10).toInt ≤ (m1530 10).toInt := (sf_aux70 _ _ _ R1502 X1538)
            obtain ⟨v1622, B1623, e1624⟩ := X1536 _ e1505
            refine pm_R_br pm_M187 (pc' := 115) (st' := []) (pm_q187_1 (Nat.le_of_ble_eq_true rfl)) rfl ?_
            refine pm_R_lo pm_M187 (pc' := 116) (pm_q187_1 (Nat.le_of_ble_eq_true rfl)) rfl rfl ?_
            refine pm_R_cv pm_M187 (pc' := 119) (a := 41) (ra := []) (rest := []) (ls' := [.ref 41, pm_no, pm_no]) (pm_q187_1 (Nat.le_of_ble_eq_true rfl)) rfl (Or.inl rfl) pm_M188 T1533.2.1 rfl (by decide) (Nat.lt_of_lt_of_le (by decide) T1533.1) rfl rfl (Nat.le_of_ble_eq_true rfl) rfl rfl ?_
            refine rf_c188 (d := d + 0) T1533  (fun m1627 w1628 h1629 T1630 F1631 W1632 X1633 => ?_) (fun m1636 w1637 h1638 T1639 F1640 W1641 X1642 X1643 => ?_)
            · have F1644 := F1616.trans F1631 (by decide)
              have B1645 : sf_B 1 4 (m1627 17) := by rw [W1632 17 (by decide)]; exact B1539
              have ek1646 : (m1627 17).toInt = ((m1530 17)).toInt := by rw [W1632 17 (by decide)]
              have B1647 : sf_B 0 0 (m1627 22) := by rw [W1632 22 (by decide)]; exact B1540
              have ek1648 : (m1627 22).toInt = ((m1530 22)).toInt := by rw [W1632 22 (by decide)]
              have W1649 : rf_W [10, 12, 13, 14, 16, 17, 18, 22] m m1627 := W1617.trans W1632 (by decide)
              have B1650 : sf_B 0 600 (m1627 10) := T1630.2.2.1 10
              show pm_R _ 187 119 [.ref 41, .long a0, pm_no, .int a1] [.int 0] _ _
              have R1651 : (m 10).toInt ≤ (m1627 10).toInt := (sf_aux70 _ _ _ R1621 X1633)
              refine pm_R_br pm_M187 (pc' := 122) (st' := []) (pm_q187_1 (Nat.le_of_ble_eq_true rfl)) rfl ?_
              refine pm_R_op pm_M187 (pc' := 123) (st' := [.int 0]) (pm_q187_1 (Nat.le_of_ble_eq_true rfl)) rfl rfl ?_
              exact pm_R_ret pm_M187 (r := some (.int 0)) (pm_q187_1 (Nat.le_of_ble_eq_true rfl)) rfl (K0 m1627 w1628 h1629 T1630 F1644 W1649 (sf_aux51 _ _ R1651))
            · have F1652 := F1616.trans F1640 (by decide)
              have B1653 : sf_B 1 4 (m1636 17) := by rw [W1641 17 (by decide)]; exact B1539
              have ek1654 : (m1636 17).toInt = ((m1530 17)).toInt := by rw [W1641 17 (by decide)]
              have B1655 : sf_B 0 0 (m1636 22) := by rw [W1641 22 (by decide)]; exact B1540
              have ek1656 : (m1636 22).toInt = ((m1530 22)).toInt := by rw [W1641 22 (by decide)]
              have W1657 : rf_W [10, 12, 13, 14, 16, 17, 18, 22] m m1636 := W1617.trans W1641 (by decide)
              have B1658 : sf_B 0 600 (m1636 10) := T1639.2.2.1 10
              show pm_R _ 187 119 [.ref 41, .long a0, pm_no, .int a1] [.int 1] _ _
              have R1659 : (m 10).toInt ≤ (m1636 10).toInt := (sf_aux70 _ _ _ R1621 X1643)
              obtain ⟨v1660, B1661, e1662⟩ := X1642 _ e1624
              refine pm_R_br pm_M187 (pc' := 124) (st' := []) (pm_q187_1 (Nat.le_of_ble_eq_true rfl)) rfl ?_
              refine pm_R_lo pm_M187 (pc' := 125) (pm_q187_1 (Nat.le_of_ble_eq_true rfl)) rfl rfl ?_
              refine pm_R_op pm_M187 (pc' := 126) (st' := [.int 0, .ref 41]) (pm_q187_1 (Nat.le_of_ble_eq_true rfl)) rfl rfl ?_
              refine pm_R_op pm_M187 (pc' := 127) (st' := [.int 2, .int 0, .ref 41]) (pm_q187_1 (Nat.le_of_ble_eq_true rfl)) rfl rfl ?_
              refine pm_R_op pm_M187 (pc' := 128) (st' := [.int 4, .int 2, .int 0, .ref 41]) (pm_q187_1 (Nat.le_of_ble_eq_true rfl)) rfl rfl ?_
              refine pm_R_op pm_M187 (pc' := 130) (st' := [.int 10, .int 4, .int 2, .int 0, .ref 41]) (pm_q187_1 (Nat.le_of_ble_eq_true rfl)) rfl rfl ?_
              refine pm_R_op pm_M187 (pc' := 131) (st' := [.int 0, .int 10, .int 4, .int 2, .int 0, .ref 41]) (pm_q187_1 (Nat.le_of_ble_eq_true rfl)) rfl rfl ?_
              refine pm_R_cv pm_M187 (pc' := 134) (a := 41) (ra := [.int 0, .int 10, .int 4, .int 2, .int 0]) (rest := []) (ls' := [.ref 41, .int 0, .int 2, .int 4, .int 10, .int 0, pm_no, pm_no]) (pm_q187_1 (Nat.le_of_ble_eq_true rfl)) rfl (Or.inl rfl) pm_M185 T1639.2.1 rfl (by decide) (Nat.lt_of_lt_of_le (by decide) T1639.1) rfl rfl (Nat.le_of_ble_eq_true rfl) rfl rfl ?_
              have e1663 := (F1640.cell (by decide) (F1534.cell (by decide) (F1471.cell (by decide) (F1008.cell (by decide) (F963.cell (by decide) e3)))))
              refine rf_c185_r (d := d + 2) T1639 (⟨f2, e1663, ct4, fun z => (sf_pos B1653 (by decide) z)⟩) (fun z => sf_pos B1653 (by decide) z) (fun m1666 w1667 h1668 T1669 F1670 W1671 X1672 => ?_)
              have F1673 := F1652.trans F1670 (by decide)
              have B1674 : sf_B 1 4 (m1666 17) := by rw [W1671 17 (by decide)]; exact B1653
              have ek1675 : (m1666 17).toInt = ((m1530 17)).toInt := by rw [W1671 17 (by decide)]; exact ek1654
              have B1676 : sf_B 0 0 (m1666 22) := by rw [W1671 22 (by decide)]; exact B1655
              have ek1677 : (m1666 22).toInt = ((m1530 22)).toInt := by rw [W1671 22 (by decide)]; exact ek1656
              have B1678 : sf_B 0 600 (m1666 10) := by rw [W1671 10 (by decide)]; exact B1658
              have ek1679 : (m1666 10).toInt = ((m1636 10)).toInt := by rw [W1671 10 (by decide)]
              have W1680 : rf_W [10, 12, 13, 14, 16, 17, 18, 22] m m1666 := W1657.trans W1671 (by decide)
              show pm_R _ 187 134 [.ref 41, .long a0, pm_no, .int a1] [] _ _
              obtain ⟨f1681, e1682, ct1683, bd1684⟩ := X1672
              refine pm_R_op pm_M187 (pc' := 135) (st' := [.int 1]) (pm_q187_1 (Nat.le_of_ble_eq_true rfl)) rfl rfl ?_
              exact pm_R_ret pm_M187 (r := some (.int 1)) (pm_q187_1 (Nat.le_of_ble_eq_true rfl)) rfl (K1 m1666 w1667 h1668 T1669 F1673 W1680 (⟨f1681, e1682, ct1683, fun z => (sf_pos B1674 (by decide) z)⟩) (sf_aux39 _ _ _ ek1679 R1659))
        · have F1685 := F1447.trans F1484 (by decide)
          have W1686 : rf_W [10, 12, 13, 14, 16, 17, 18, 22] m m1480 := W1448.trans W1485 (by decide)
          have B1687 : sf_B 0 600 (m1480 10) := T1483.2.2.1 10
          have B1688 : sf_B 0 4 (m1480 17) := T1483.2.2.1 17
          have B1689 : sf_B 0 1 (m1480 22) := T1483.2.2.1 22
          show pm_R _ 187 102 [.ref 41, .long a0, pm_no, .int a1] [.int 1] _ _
          have R1690 : (m 10).toInt ≤ (m1480 10).toInt := (sf_aux70 _ _ _ R1452 X1488)
          obtain ⟨v1691, B1692, e1693⟩ := X1486 _ e1455
          refine pm_R_br pm_M187 (pc' := 105) (st' := []) rfl rfl ?_
          refine pm_R_lo pm_M187 (pc' := 106) rfl rfl rfl ?_
          refine pm_R_op pm_M187 (pc' := 107) (st' := [.int 2, .ref 41]) rfl rfl rfl ?_
          refine pm_R_op pm_M187 (pc' := 108) (st' := [.int 5, .int 2, .ref 41]) rfl rfl rfl ?_
          refine pm_R_op pm_M187 (pc' := 109) (st' := [.int (-1), .int 5, .int 2, .ref 41]) (pm_q187_1 (Nat.le_of_ble_eq_true rfl)) rfl rfl ?_
          refine pm_R_cv pm_M187 (pc' := 112) (a := 41) (ra := [.int (-1), .int 5, .int 2]) (rest := []) (ls' := [.ref 41, .int 2, .int 5, .int (-1)]) (pm_q187_1 (Nat.le_of_ble_eq_true rfl)) rfl (Or.inl rfl) pm_M183 T1483.2.1 rfl (by decide) (Nat.lt_of_lt_of_le (by decide) T1483.1) rfl rfl (Nat.le_of_ble_eq_true rfl) rfl rfl ?_
          refine rf_c183_2_5 (d := d + 0) T1483  (fun m1696 w1697 h1698 T1699 F1700 W1701 X1702 => ?_) (fun m1705 w1706 h1707 T1708 F1709 W1710 X1711 X1712 X1713 X1714 X1715 => ?_) (fun m1718 w1719 h1720 T1721 F1722 W1723 X1724 X1725 X1726 B1727 B1728 => ?_)
          · have F1729 := F1685.trans F1700 (by decide)
            have W1730 : rf_W [10, 12, 13, 14, 16, 17, 18, 22] m m1696 := W1686.trans W1701 (by decide)
            have B1731 : sf_B 0 600 (m1696 10) := T1699.2.2.1 10
            have B1732 : sf_B 0 4 (m1696 17) := T1699.2.2.1 17
            have B1733 : sf_B 0 1 (m1696 22) := T1699.2.2.1 22
            show pm_R _ 187 112 [.ref 41, .long a0, pm_no, .int a1] [.int 0] _ _
            have R1734 : (m 10).toInt ≤ (m1696 10).toInt := (sf_aux70 _ _ _ R1690 X1702)
            refine pm_R_br pm_M187 (pc' := 122) (st' := []) (pm_q187_1 (Nat.le_of_ble_eq_true rfl)) rfl ?_
            refine pm_R_op pm_M187 (pc' := 123) (st' := [.int 0]) (pm_q187_1 (Nat.le_of_ble_eq_true rfl)) rfl rfl ?_
            exact pm_R_ret pm_M187 (r := some (.int 0)) (pm_q187_1 (Nat.le_of_ble_eq_true rfl)) rfl (K0 m1696 w1697 h1698 T1699 F1729 W1730 (sf_aux51 _ _ R1734))
          · have F1735 := F1685.trans F1709 (by decide)
            have W1736 : rf_W [10, 12, 13, 14, 16, 17, 18, 22] m m1705 := W1686.trans W1710 (by decide)
            have B1737 : sf_B 0 600 (m1705 10) := T1708.2.2.1 10
            have B1738 : sf_B 0 4 (m1705 17) := T1708.2.2.1 17
            have B1739 : sf_B 0 1 (m1705 22) := T1708.2.2.1 22
            show pm_R _ 187 112 [.ref 41, .long a0, pm_no, .int a1] [.int 1] _ _
            have R1740 : (m 10).toInt ≤ (m1705 10).toInt := (sf_aux70 _ _ _ R1690 X1715)
            obtain ⟨v1741, B1742, e1743⟩ := X1711 _ e1693
            refine pm_R_br pm_M187 (pc' := 115) (st' := []) (pm_q187_1 (Nat.le_of_ble_eq_true rfl)) rfl ?_
            refine pm_R_lo pm_M187 (pc' := 116) (pm_q187_1 (Nat.le_of_ble_eq_true rfl)) rfl rfl ?_
            refine pm_R_cv pm_M187 (pc' := 119) (a := 41) (ra := []) (rest := []) (ls' := [.ref 41, pm_no, pm_no]) (pm_q187_1 (Nat.le_of_ble_eq_true rfl)) rfl (Or.inl rfl) pm_M188 T1708.2.1 rfl (by decide) (Nat.lt_of_lt_of_le (by decide) T1708.1) rfl rfl (Nat.le_of_ble_eq_true rfl) rfl rfl ?_
            refine rf_c188 (d := d + 0) T1708  (fun m1746 w1747 h1748 T1749 F1750 W1751 X1752 => ?_) (fun m1755 w1756 h1757 T1758 F1759 W1760 X1761 X1762 => ?_)
            · have F1763 := F1735.trans F1750 (by decide)
              have B1764 : sf_B 1 4 (m1746 17) := by rw [W1751 17 (by decide)]; exact (sf_eqT X1712 B1489)
              have ek1765 : (m1746 17).toInt = ((m1480 17)).toInt := by rw [W1751 17 (by decide)]; exact X1712
              have B1766 : sf_B 0 0 (m1746 22) := by rw [W1751 22 (by decide)]; exact (sf_eqT X1713 B1490)
              have ek1767 : (m1746 22).toInt = ((m1480 22)).toInt := by rw [W1751 22 (by decide)]; exact X1713
              have W1768 : rf_W [10, 12, 13, 14, 16, 17, 18, 22] m m1746 := W1736.trans W1751 (by decide)
              have B1769 : sf_B 0 600 (m1746 10) := T1749.2.2.1 10
              show pm_R _ 187 119 [.ref 41, .long a0, pm_no, .int a1] [.int 0] _ _
              have R1770 : (m 10).toInt ≤ (m1746 10).toInt := (sf_aux70 _ _ _ R1740 X1752)
              refine pm_R_br pm_M187 (pc' := 122) (st' := []) (pm_q187_1 (Nat.le_of_ble_eq_true rfl)) rfl ?_
              refine pm_R_op pm_M187 (pc' := 123) (st' := [.int 0]) (pm_q187_1 (Nat.le_of_ble_eq_true rfl)) rfl rfl ?_
              exact pm_R_ret pm_M187 (r := some (.int 0)) (pm_q187_1 (Nat.le_of_ble_eq_true rfl)) rfl (K0 m1746 w1747 h1748 T1749 F1763 W1768 (sf_aux51 _ _ R1770))
            · have F1771 := F1735.trans F1759 (by decide)
              have B1772 : sf_B 1 4 (m1755 17) := by rw [W1760 17 (by decide)]; exact (sf_eqT X1712 B1489)
              have ek1773 : (m1755 17).toInt = ((m1480 17)).toInt := by rw [W1760 17 (by decide)]; exact X1712
              have B1774 : sf_B 0 0 (m1755 22) := by rw [W1760 22 (by decide)]; exact (sf_eqT X1713 B1490)
              have ek1775 : (m1755 22).toInt = ((m1480 22)).toInt := by rw [W1760 22 (by decide)]; exact X1713
              have W1776 : rf_W [10, 12, 13, 14, 16, 17, 18, 22] m m1755 := W1736.trans W1760 (by decide)
              have B1777 : sf_B 0 600 (m1755 10) := T1758.2.2.1 10
              show pm_R _ 187 119 [.ref 41, .long a0, pm_no, .int a1] [.int 1] _ _
              have R1778 : (m 10).toInt ≤ (m1755 10).toInt := (sf_aux70 _ _ _ R1740 X1762)
              obtain ⟨v1779, B1780, e1781⟩ := X1761 _ e1743
              refine pm_R_br pm_M187 (pc' := 124) (st' := []) (pm_q187_1 (Nat.le_of_ble_eq_true rfl)) rfl ?_
              refine pm_R_lo pm_M187 (pc' := 125) (pm_q187_1 (Nat.le_of_ble_eq_true rfl)) rfl rfl ?_
              refine pm_R_op pm_M187 (pc' := 126) (st' := [.int 0, .ref 41]) (pm_q187_1 (Nat.le_of_ble_eq_true rfl)) rfl rfl ?_
              refine pm_R_op pm_M187 (pc' := 127) (st' := [.int 2, .int 0, .ref 41]) (pm_q187_1 (Nat.le_of_ble_eq_true rfl)) rfl rfl ?_
              refine pm_R_op pm_M187 (pc' := 128) (st' := [.int 4, .int 2, .int 0, .ref 41]) (pm_q187_1 (Nat.le_of_ble_eq_true rfl)) rfl rfl ?_
              refine pm_R_op pm_M187 (pc' := 130) (st' := [.int 10, .int 4, .int 2, .int 0, .ref 41]) (pm_q187_1 (Nat.le_of_ble_eq_true rfl)) rfl rfl ?_
              refine pm_R_op pm_M187 (pc' := 131) (st' := [.int 0, .int 10, .int 4, .int 2, .int 0, .ref 41]) (pm_q187_1 (Nat.le_of_ble_eq_true rfl)) rfl rfl ?_
              refine pm_R_cv pm_M187 (pc' := 134) (a := 41) (ra := [.int 0, .int 10, .int 4, .int 2, .int 0]) (rest := []) (ls' := [.ref 41, .int 0, .int 2, .int 4, .int 10, .int 0, pm_no, pm_no]) (pm_q187_1 (Nat.le_of_ble_eq_true rfl)) rfl (Or.inl rfl) pm_M185 T1758.2.1 rfl (by decide) (Nat.lt_of_lt_of_le (by decide) T1758.1) rfl rfl (Nat.le_of_ble_eq_true rfl) rfl rfl ?_
              have e1782 := (F1759.cell (by decide) (F1709.cell (by decide) (F1484.cell (by decide) (F1008.cell (by decide) (F963.cell (by decide) e3)))))
              refine rf_c185_r (d := d + 2) T1758 (⟨f2, e1782, ct4, fun z => (sf_pos B1772 (by decide) z)⟩) (fun z => sf_pos B1772 (by decide) z) (fun m1785 w1786 h1787 T1788 F1789 W1790 X1791 => ?_)
              have F1792 := F1771.trans F1789 (by decide)
              have B1793 : sf_B 1 4 (m1785 17) := by rw [W1790 17 (by decide)]; exact B1772
              have ek1794 : (m1785 17).toInt = ((m1480 17)).toInt := by rw [W1790 17 (by decide)]; exact ek1773
              have B1795 : sf_B 0 0 (m1785 22) := by rw [W1790 22 (by decide)]; exact B1774
              have ek1796 : (m1785 22).toInt = ((m1480 22)).toInt := by rw [W1790 22 (by decide)]; exact ek1775
              have B1797 : sf_B 0 600 (m1785 10) := by rw [W1790 10 (by decide)]; exact B1777
              have ek1798 : (m1785 10).toInt = ((m1755 10)).toInt := by rw [W1790 10 (by decide)]
              have W1799 : rf_W [10, 12, 13, 14, 16, 17, 18, 22] m m1785 := W1776.trans W1790 (by decide)
              show pm_R _ 187 134 [.ref 41, .long a0, pm_no, .int a1] [] _ _
              obtain ⟨f1800, e1801, ct1802, bd1803⟩ := X1791
              refine pm_R_op pm_M187 (pc' := 135) (st' := [.int 1]) (pm_q187_1 (Nat.le_of_ble_eq_true rfl)) rfl rfl ?_
              exact pm_R_ret pm_M187 (r := some (.int 1)) (pm_q187_1 (Nat.le_of_ble_eq_true rfl)) rfl (K1 m1785 w1786 h1787 T1788 F1792 W1799 (⟨f1800, e1801, ct1802, fun z => (sf_pos B1793 (by decide) z)⟩) (sf_aux39 _ _ _ ek1798 R1778))
          · have F1804 := F1685.trans F1722 (by decide)
            have W1805 : rf_W [10, 12, 13, 14, 16, 17, 18, 22] m m1718 := W1686.trans W1723 (by decide)
            have B1806 : sf_B 0 600 (m1718 10) := T1721.2.2.1 10
            have B1807 : sf_B 0 4 (m1718 17) := T1721.2.2.1 17
            have B1808 : sf_B 0 1 (m1718 22) := T1721.2.2.1 22
            show pm_R _ 187 112 [.ref 41, .long a0, pm_no, .int a1] [.int 1] _ _
            have R1809 : (m 10).toInt ≤ (m1718 10).toInt := (sf_aux70 _ _ _ R1690 X1726)
            obtain ⟨v1810, B1811, e1812⟩ := X1724 _ e1693
            refine pm_R_br pm_M187 (pc' := 115) (st' := []) (pm_q187_1 (Nat.le_of_ble_eq_true rfl)) rfl ?_
            refine pm_R_lo pm_M187 (pc' := 116) (pm_q187_1 (Nat.le_of_ble_eq_true rfl)) rfl rfl ?_
            refine pm_R_cv pm_M187 (pc' := 119) (a := 41) (ra := []) (rest := []) (ls' := [.ref 41, pm_no, pm_no]) (pm_q187_1 (Nat.le_of_ble_eq_true rfl)) rfl (Or.inl rfl) pm_M188 T1721.2.1 rfl (by decide) (Nat.lt_of_lt_of_le (by decide) T1721.1) rfl rfl (Nat.le_of_ble_eq_true rfl) rfl rfl ?_
            refine rf_c188 (d := d + 0) T1721  (fun m1815 w1816 h1817 T1818 F1819 W1820 X1821 => ?_) (fun m1824 w1825 h1826 T1827 F1828 W1829 X1830 X1831 => ?_)
            · have F1832 := F1804.trans F1819 (by decide)
              have B1833 : sf_B 1 4 (m1815 17) := by rw [W1820 17 (by decide)]; exact B1727
              have ek1834 : (m1815 17).toInt = ((m1718 17)).toInt := by rw [W1820 17 (by decide)]
              have B1835 : sf_B 0 0 (m1815 22) := by rw [W1820 22 (by decide)]; exact B1728
              have ek1836 : (m1815 22).toInt = ((m1718 22)).toInt := by rw [W1820 22 (by decide)]
              have W1837 : rf_W [10, 12, 13, 14, 16, 17, 18, 22] m m1815 := W1805.trans W1820 (by decide)
              have B1838 : sf_B 0 600 (m1815 10) := T1818.2.2.1 10
              show pm_R _ 187 119 [.ref 41, .long a0, pm_no, .int a1] [.int 0] _ _
              have R1839 : (m 10).toInt ≤ (m1815 10).toInt := (sf_aux70 _ _ _ R1809 X1821)
              refine pm_R_br pm_M187 (pc' := 122) (st' := []) (pm_q187_1 (Nat.le_of_ble_eq_true rfl)) rfl ?_
              refine pm_R_op pm_M187 (pc' := 123) (st' := [.int 0]) (pm_q187_1 (Nat.le_of_ble_eq_true rfl)) rfl rfl ?_
              exact pm_R_ret pm_M187 (r := some (.int 0)) (pm_q187_1 (Nat.le_of_ble_eq_true rfl)) rfl (K0 m1815 w1816 h1817 T1818 F1832 W1837 (sf_aux51 _ _ R1839))
            · have F1840 := F1804.trans F1828 (by decide)
              have B1841 : sf_B 1 4 (m1824 17) := by rw [W1829 17 (by decide)]; exact B1727
              have ek1842 : (m1824 17).toInt = ((m1718 17)).toInt := by rw [W1829 17 (by decide)]
              have B1843 : sf_B 0 0 (m1824 22) := by rw [W1829 22 (by decide)]; exact B1728
              have ek1844 : (m1824 22).toInt = ((m1718 22)).toInt := by rw [W1829 22 (by decide)]
              have W1845 : rf_W [10, 12, 13, 14, 16, 17, 18, 22] m m1824 := W1805.trans W1829 (by decide)
              have B1846 : sf_B 0 600 (m1824 10) := T1827.2.2.1 10
              show pm_R _ 187 119 [.ref 41, .long a0, pm_no, .int a1] [.int 1] _ _
              have R1847 : (m 10).toInt ≤ (m1824 10).toInt := (sf_aux70 _ _ _ R1809 X1831)
              obtain ⟨v1848, B1849, e1850⟩ := X1830 _ e1812
              refine pm_R_br pm_M187 (pc' := 124) (st' := []) (pm_q187_1 (Nat.le_of_ble_eq_true rfl)) rfl ?_
              refine pm_R_lo pm_M187 (pc' := 125) (pm_q187_1 (Nat.le_of_ble_eq_true rfl)) rfl rfl ?_
              refine pm_R_op pm_M187 (pc' := 126) (st' := [.int 0, .ref 41]) (pm_q187_1 (Nat.le_of_ble_eq_true rfl)) rfl rfl ?_
              refine pm_R_op pm_M187 (pc' := 127) (st' := [.int 2, .int 0, .ref 41]) (pm_q187_1 (Nat.le_of_ble_eq_true rfl)) rfl rfl ?_
              refine pm_R_op pm_M187 (pc' := 128) (st' := [.int 4, .int 2, .int 0, .ref 41]) (pm_q187_1 (Nat.le_of_ble_eq_true rfl)) rfl rfl ?_
              refine pm_R_op pm_M187 (pc' := 130) (st' := [.int 10, .int 4, .int 2, .int 0, .ref 41]) (pm_q187_1 (Nat.le_of_ble_eq_true rfl)) rfl rfl ?_
              refine pm_R_op pm_M187 (pc' := 131) (st' := [.int 0, .int 10, .int 4, .int 2, .int 0, .ref 41]) (pm_q187_1 (Nat.le_of_ble_eq_true rfl)) rfl rfl ?_
              refine pm_R_cv pm_M187 (pc' := 134) (a := 41) (ra := [.int 0, .int 10, .int 4, .int 2, .int 0]) (rest := []) (ls' := [.ref 41, .int 0, .int 2, .int 4, .int 10, .int 0, pm_no, pm_no]) (pm_q187_1 (Nat.le_of_ble_eq_true rfl)) rfl (Or.inl rfl) pm_M185 T1827.2.1 rfl (by decide) (Nat.lt_of_lt_of_le (by decide) T1827.1) rfl rfl (Nat.le_of_ble_eq_true rfl) rfl rfl ?_
              have e1851 := (F1828.cell (by decide) (F1722.cell (by decide) (F1484.cell (by decide) (F1008.cell (by decide) (F963.cell (by decide) e3)))))
              refine rf_c185_r (d := d + 2) T1827 (⟨f2, e1851, ct4, fun z => (sf_pos B1841 (by decide) z)⟩) (fun z => sf_pos B1841 (by decide) z) (fun m1854 w1855 h1856 T1857 F1858 W1859 X1860 => ?_)
              have F1861 := F1840.trans F1858 (by decide)
              have B1862 : sf_B 1 4 (m1854 17) := by rw [W1859 17 (by decide)]; exact B1841
              have ek1863 : (m1854 17).toInt = ((m1718 17)).toInt := by rw [W1859 17 (by decide)]; exact ek1842
              have B1864 : sf_B 0 0 (m1854 22) := by rw [W1859 22 (by decide)]; exact B1843
              have ek1865 : (m1854 22).toInt = ((m1718 22)).toInt := by rw [W1859 22 (by decide)]; exact ek1844
              have B1866 : sf_B 0 600 (m1854 10) := by rw [W1859 10 (by decide)]; exact B1846
              have ek1867 : (m1854 10).toInt = ((m1824 10)).toInt := by rw [W1859 10 (by decide)]
              have W1868 : rf_W [10, 12, 13, 14, 16, 17, 18, 22] m m1854 := W1845.trans W1859 (by decide)
              show pm_R _ 187 134 [.ref 41, .long a0, pm_no, .int a1] [] _ _
              obtain ⟨f1869, e1870, ct1871, bd1872⟩ := X1860
              refine pm_R_op pm_M187 (pc' := 135) (st' := [.int 1]) (pm_q187_1 (Nat.le_of_ble_eq_true rfl)) rfl rfl ?_
              exact pm_R_ret pm_M187 (r := some (.int 1)) (pm_q187_1 (Nat.le_of_ble_eq_true rfl)) rfl (K1 m1854 w1855 h1856 T1857 F1861 W1868 (⟨f1869, e1870, ct1871, fun z => (sf_pos B1862 (by decide) z)⟩) (sf_aux39 _ _ _ ek1867 R1847))
  · have k1873 := sf_lneC e8 c9
    refine pm_R_lo pm_M187 (pc' := 9) rfl rfl rfl ?_
    refine pm_R_ldc2 pm_M187 (pc' := 12) rfl rfl rfl ?_
    refine sf_R_lcmp pm_M187 (pc' := 13) rfl rfl (fun z1874 e1875 => ?_)
    refine pm_R_ifc pm_M187 (t := 29) (pc' := 16) rfl rfl rfl (fun c1876 => ?_) (fun c1876 => ?_)
    · have B1877 : sf_B 0 0 z1874 := sf_eqL c1876 sf_k0
      have B1878 : lf_B 1936287598 1936287598 a0 := lf_eqB e1875 B1877 (⟨by decide, by decide⟩ : lf_B 1936287598 1936287598 1936287598)
      refine pm_R_lo pm_M187 (pc' := 30) rfl rfl rfl ?_
      refine pm_R_ldc2 pm_M187 (pc' := 33) rfl rfl rfl ?_
      refine pm_R_op pm_M187 (pc' := 34) (st' := [.int z7]) rfl (by show some (Value.int (lg_cmp a0 1920298085) :: _) = _; rw [← e8]) rfl ?_
      refine pm_R_ifc pm_M187 (t := 48) (pc' := 37) rfl rfl rfl (fun c1881 => ?_) (fun c1881 => absurd (Classical.not_not.mp c1881) c9)
      have k1882 := sf_lneC e8 c1881
      refine pm_R_lo pm_M187 (pc' := 49) rfl rfl rfl ?_
      refine pm_R_ldc2 pm_M187 (pc' := 52) rfl rfl rfl ?_
      refine pm_R_op pm_M187 (pc' := 53) (st' := [.int z1874]) rfl (by show some (Value.int (lg_cmp a0 1936287598) :: _) = _; rw [← e1875]) rfl ?_
      refine pm_R_ifc pm_M187 (t := 73) (pc' := 56) rfl rfl rfl (fun c1885 => absurd (sf_pt2 B1877 sf_k0) c1885) (fun c1885 => ?_)
      refine pm_R_lo pm_M187 (pc' := 57) rfl rfl rfl ?_
      refine rf_R_get pm_M187 T (pc' := 60) (v := .ref 51) rfl rfl rfl rfl ?_
      refine pm_R_op pm_M187 (pc' := 61) (st' := [.int 1, .ref 51]) rfl rfl rfl ?_
      refine pm_R_iald pm_M187 (pc' := 62) (v := (f2 1)) rfl e3 (Nat.lt_of_lt_of_le (by decide) T.1) rfl rfl rfl ?_
      refine pm_R_op pm_M187 (pc' := 64) (st' := [.int 16, .int (f2 1)]) rfl rfl rfl ?_
      refine pm_R_icmp pm_M187 (t := 73) (pc' := 67) rfl rfl rfl (fun c1888 => ?_) (fun c1888 => ?_)
      · have B1889 : sf_B 0 15 (f2 1) := sf_neH0 c1888 sf_k16 ct4.2
        refine pm_R_lo pm_M187 (pc' := 74) rfl rfl rfl ?_
        refine pm_R_cv pm_M187 (pc' := 77) (a := 41) (ra := []) (rest := []) (ls' := [.ref 41, pm_no, pm_no]) rfl rfl (Or.inl rfl) pm_M179 T.2.1 rfl (by decide) (Nat.lt_of_lt_of_le (by decide) T.1) rfl rfl (Nat.le_of_ble_eq_true rfl) rfl rfl ?_
        refine rf_c179 (d := d + 1) T  (fun m1892 w1893 h1894 T1895 F1896 W1897 X1898 X1899 => ?_)
        have F1900 := (rf_G.refl [41, 51, 52] h).trans F1896 (by decide)
        have B1901 : sf_B 0 4 (m1892 17) := by rw [W1897 17 (by decide)]; exact B6
        have ek1902 : (m1892 17).toInt = ((m 17)).toInt := by rw [W1897 17 (by decide)]
        have W1903 : rf_W [10, 12, 13, 14, 16, 17, 18, 22] m m1892 := (rf_W.refl [10, 12, 13, 14, 16, 17, 18, 22] m).trans W1897 (by decide)
        have B1904 : sf_B 0 600 (m1892 10) := T1895.2.2.1 10
        have B1905 : sf_B 0 1 (m1892 22) := T1895.2.2.1 22
        show pm_R _ 187 77 [.ref 41, .long a0, pm_no, .int a1] [] _ _
        have R1906 : (m 10).toInt ≤ (m1892 10).toInt := (sf_aux51 _ _ X1898)
        refine pm_R_lo pm_M187 (pc' := 78) rfl rfl rfl ?_
        refine pm_R_ldc2 pm_M187 (pc' := 81) rfl rfl rfl ?_
        refine pm_R_op pm_M187 (pc' := 82) (st' := [.int z7]) rfl (by show some (Value.int (lg_cmp a0 1920298085) :: _) = _; rw [← e8]) rfl ?_
        refine pm_R_ifc pm_M187 (t := 136) (pc' := 85) rfl rfl rfl (fun c1909 => ?_) (fun c1909 => absurd (Classical.not_not.mp c1909) c9)
        have k1910 := sf_lneC e8 c1909
        refine pm_R_lo pm_M187 (pc' := 137) (pm_q187_1 (Nat.le_of_ble_eq_true rfl)) rfl rfl ?_
        refine pm_R_ldc2 pm_M187 (pc' := 140) (pm_q187_1 (Nat.le_of_ble_eq_true rfl)) rfl rfl ?_
        refine pm_R_op pm_M187 (pc' := 141) (st' := [.int z1874]) (pm_q187_1 (Nat.le_of_ble_eq_true rfl)) (by show some (Value.int (lg_cmp a0 1936287598) :: _) = _; rw [← e1875]) rfl ?_
        refine pm_R_ifc pm_M187 (t := 191) (pc' := 144) (pm_q187_1 (Nat.le_of_ble_eq_true rfl)) rfl rfl (fun c1913 => absurd (sf_pt2 B1877 sf_k0) c1913) (fun c1913 => ?_)
        refine pm_R_lo pm_M187 (pc' := 145) (pm_q187_1 (Nat.le_of_ble_eq_true rfl)) rfl rfl ?_
        refine pm_R_op pm_M187 (pc' := 146) (st' := [.int 0, .ref 41]) (pm_q187_1 (Nat.le_of_ble_eq_true rfl)) rfl rfl ?_
        refine pm_R_op pm_M187 (pc' := 148) (st' := [.int 9, .int 0, .ref 41]) (pm_q187_1 (Nat.le_of_ble_eq_true rfl)) rfl rfl ?_
        refine pm_R_op pm_M187 (pc' := 149) (st' := [.int (-1), .int 9, .int 0, .ref 41]) (pm_q187_1 (Nat.le_of_ble_eq_true rfl)) rfl rfl ?_
        refine pm_R_cv pm_M187 (pc' := 152) (a := 41) (ra := [.int (-1), .int 9, .int 0]) (rest := []) (ls' := [.ref 41, .int 0, .int 9, .int (-1)]) (pm_q187_1 (Nat.le_of_ble_eq_true rfl)) rfl (Or.inl rfl) pm_M183 T1895.2.1 rfl (by decide) (Nat.lt_of_lt_of_le (by decide) T1895.1) rfl rfl (Nat.le_of_ble_eq_true rfl) rfl rfl ?_
        obtain ⟨f1914, e1915, b1916⟩ := T1895.2.2.2.1 52 (by decide) (by decide)
        refine rf_c183_0_9 (d := d + 0) T1895  (fun m1919 w1920 h1921 T1922 F1923 W1924 X1925 => ?_) (fun m1928 w1929 h1930 T1931 F1932 W1933 X1934 X1935 X1936 X1937 X1938 => ?_) (fun m1941 w1942 h1943 T1944 F1945 W1946 X1947 X1948 X1949 B1950 B1951 => ?_)
        · have F1952 := F1900.trans F1923 (by decide)
          have W1953 : rf_W [10, 12, 13, 14, 16, 17, 18, 22] m m1919 := W1903.trans W1924 (by decide)
          have B1954 : sf_B 0 600 (m1919 10) := T1922.2.2.1 10
          have B1955 : sf_B 0 4 (m1919 17) := T1922.2.2.1 17
          have B1956 : sf_B 0 1 (m1919 22) := T1922.2.2.1 22
          show pm_R _ 187 152 [.ref 41, .long a0, pm_no, .int a1] [.int 0] _ _
          have R1957 : (m 10).toInt ≤ (m1919 10).toInt := (sf_aux70 _ _ _ R1906 X1925)
          refine pm_R_br pm_M187 (pc' := 176) (st' := []) (pm_q187_1 (Nat.le_of_ble_eq_true rfl)) rfl ?_
          refine pm_R_op pm_M187 (pc' := 177) (st' := [.int 0]) (pm_q187_1 (Nat.le_of_ble_eq_true rfl)) rfl rfl ?_
          exact pm_R_ret pm_M187 (r := some (.int 0)) (pm_q187_1 (Nat.le_of_ble_eq_true rfl)) rfl (K0 m1919 w1920 h1921 T1922 F1952 W1953 (sf_aux51 _ _ R1957))
        · have F1958 := F1900.trans F1932 (by decide)
          have W1959 : rf_W [10, 12, 13, 14, 16, 17, 18, 22] m m1928 := W1903.trans W1933 (by decide)
          have B1960 : sf_B 0 600 (m1928 10) := T1931.2.2.1 10
          have B1961 : sf_B 0 4 (m1928 17) := T1931.2.2.1 17
          have B1962 : sf_B 0 1 (m1928 22) := T1931.2.2.1 22
          show pm_R _ 187 152 [.ref 41, .long a0, pm_no, .int a1] [.int 1] _ _
          have R1963 : (m 10).toInt ≤ (m1928 10).toInt := (sf_aux70 _ _ _ R1906 X1938)
          obtain ⟨v1964, B1965, e1966⟩ := X1934 _ e1915
          refine pm_R_br pm_M187 (pc' := 155) (st' := []) (pm_q187_1 (Nat.le_of_ble_eq_true rfl)) rfl ?_
          refine pm_R_lo pm_M187 (pc' := 156) (pm_q187_1 (Nat.le_of_ble_eq_true rfl)) rfl rfl ?_
          refine pm_R_op pm_M187 (pc' := 157) (st' := [.int 1, .ref 41]) (pm_q187_1 (Nat.le_of_ble_eq_true rfl)) rfl rfl ?_
          refine pm_R_op pm_M187 (pc' := 158) (st' := [.int 5, .int 1, .ref 41]) (pm_q187_1 (Nat.le_of_ble_eq_true rfl)) rfl rfl ?_
          refine pm_R_op pm_M187 (pc' := 159) (st' := [.int (-1), .int 5, .int 1, .ref 41]) (pm_q187_1 (Nat.le_of_ble_eq_true rfl)) rfl rfl ?_
          refine pm_R_cv pm_M187 (pc' := 162) (a := 41) (ra := [.int (-1), .int 5, .int 1]) (rest := []) (ls' := [.ref 41, .int 1, .int 5, .int (-1)]) (pm_q187_1 (Nat.le_of_ble_eq_true rfl)) rfl (Or.inl rfl) pm_M183 T1931.2.1 rfl (by decide) (Nat.lt_of_lt_of_le (by decide) T1931.1) rfl rfl (Nat.le_of_ble_eq_true rfl) rfl rfl ?_
          refine rf_c183_1_5 (d := d + 0) T1931  (fun m1969 w1970 h1971 T1972 F1973 W1974 X1975 => ?_) (fun m1978 w1979 h1980 T1981 F1982 W1983 X1984 X1985 X1986 X1987 X1988 => ?_) (fun m1991 w1992 h1993 T1994 F1995 W1996 X1997 X1998 X1999 B2000 B2001 => ?_)
          · have F2002 := F1958.trans F1973 (by decide)
            have W2003 : rf_W [10, 12, 13, 14, 16, 17, 18, 22] m m1969 := W1959.trans W1974 (by decide)
            have B2004 : sf_B 0 600 (m1969 10) := T1972.2.2.1 10
            have B2005 : sf_B 0 4 (m1969 17) := T1972.2.2.1 17
            have B2006 : sf_B 0 1 (m1969 22) := T1972.2.2.1 22
            show pm_R _ 187 162 [.ref 41, .long a0, pm_no, .int a1] [.int 0] _ _
            have R2007 : (m 10).toInt ≤ (m1969 10).toInt := (sf_aux70 _ _ _ R1963 X1975)
            refine pm_R_br pm_M187 (pc' := 176) (st' := []) (pm_q187_1 (Nat.le_of_ble_eq_true rfl)) rfl ?_
            refine pm_R_op pm_M187 (pc' := 177) (st' := [.int 0]) (pm_q187_1 (Nat.le_of_ble_eq_true rfl)) rfl rfl ?_
            exact pm_R_ret pm_M187 (r := some (.int 0)) (pm_q187_1 (Nat.le_of_ble_eq_true rfl)) rfl (K0 m1969 w1970 h1971 T1972 F2002 W2003 (sf_aux51 _ _ R2007))
          · have F2008 := F1958.trans F1982 (by decide)
            have W2009 : rf_W [10, 12, 13, 14, 16, 17, 18, 22] m m1978 := W1959.trans W1983 (by decide)
            have B2010 : sf_B 0 600 (m1978 10) := T1981.2.2.1 10
            have B2011 : sf_B 0 4 (m1978 17) := T1981.2.2.1 17
            have B2012 : sf_B 0 1 (m1978 22) := T1981.2.2.1 22
            show pm_R _ 187 162 [.ref 41, .long a0, pm_no, .int a1] [.int 1] _ _
            have R2013 : (m 10).toInt ≤ (m1978 10).toInt := (sf_aux70 _ _ _ R1963 X1988)
            obtain ⟨v2014, B2015, e2016⟩ := X1984 _ e1966
            refine pm_R_br pm_M187 (pc' := 165) (st' := []) (pm_q187_1 (Nat.le_of_ble_eq_true rfl)) rfl ?_
            refine pm_R_lo pm_M187 (pc' := 166) (pm_q187_1 (Nat.le_of_ble_eq_true rfl)) rfl rfl ?_
            refine pm_R_op pm_M187 (pc' := 167) (st' := [.int 2, .ref 41]) (pm_q187_1 (Nat.le_of_ble_eq_true rfl)) rfl rfl ?_
            refine pm_R_op pm_M187 (pc' := 169) (st' := [.int 49, .int 2, .ref 41]) (pm_q187_1 (Nat.le_of_ble_eq_true rfl)) rfl rfl ?_
            refine pm_R_op pm_M187 (pc' := 170) (st' := [.int (-1), .int 49, .int 2, .ref 41]) (pm_q187_1 (Nat.le_of_ble_eq_true rfl)) rfl rfl ?_
            refine pm_R_cv pm_M187 (pc' := 173) (a := 41) (ra := [.int (-1), .int 49, .int 2]) (rest := []) (ls' := [.ref 41, .int 2, .int 49, .int (-1)]) (pm_q187_1 (Nat.le_of_ble_eq_true rfl)) rfl (Or.inl rfl) pm_M183 T1981.2.1 rfl (by decide) (Nat.lt_of_lt_of_le (by decide) T1981.1) rfl rfl (Nat.le_of_ble_eq_true rfl) rfl rfl ?_
            refine rf_c183_2_49 (d := d + 0) T1981  (fun m2019 w2020 h2021 T2022 F2023 W2024 X2025 => ?_) (fun m2028 w2029 h2030 T2031 F2032 W2033 X2034 X2035 X2036 X2037 X2038 => ?_) (fun m2041 w2042 h2043 T2044 F2045 W2046 X2047 X2048 X2049 B2050 B2051 => ?_)
            · have F2052 := F2008.trans F2023 (by decide)
              have W2053 : rf_W [10, 12, 13, 14, 16, 17, 18, 22] m m2019 := W2009.trans W2024 (by decide)
              have B2054 : sf_B 0 600 (m2019 10) := T2022.2.2.1 10
              have B2055 : sf_B 0 4 (m2019 17) := T2022.2.2.1 17
              have B2056 : sf_B 0 1 (m2019 22) := T2022.2.2.1 22
              show pm_R _ 187 173 [.ref 41, .long a0, pm_no, .int a1] [.int 0] _ _
              have R2057 : (m 10).toInt ≤ (m2019 10).toInt := (sf_aux70 _ _ _ R2013 X2025)
              refine pm_R_br pm_M187 (pc' := 176) (st' := []) (pm_q187_1 (Nat.le_of_ble_eq_true rfl)) rfl ?_
              refine pm_R_op pm_M187 (pc' := 177) (st' := [.int 0]) (pm_q187_1 (Nat.le_of_ble_eq_true rfl)) rfl rfl ?_
              exact pm_R_ret pm_M187 (r := some (.int 0)) (pm_q187_1 (Nat.le_of_ble_eq_true rfl)) rfl (K0 m2019 w2020 h2021 T2022 F2052 W2053 (sf_aux51 _ _ R2057))
            · have F2058 := F2008.trans F2032 (by decide)
              have W2059 : rf_W [10, 12, 13, 14, 16, 17, 18, 22] m m2028 := W2009.trans W2033 (by decide)
              have B2060 : sf_B 0 600 (m2028 10) := T2031.2.2.1 10
              have B2061 : sf_B 0 4 (m2028 17) := T2031.2.2.1 17
              have B2062 : sf_B 0 1 (m2028 22) := T2031.2.2.1 22
              show pm_R _ 187 173 [.ref 41, .long a0, pm_no, .int a1] [.int 1] _ _
              have R2063 : (m 10).toInt ≤ (m2028 10).toInt := (sf_aux70 _ _ _ R2013 X2038)
              obtain ⟨v2064, B2065, e2066⟩ := X2034 _ e2016
              refine pm_R_br pm_M187 (pc' := 178) (st' := []) (pm_q187_1 (Nat.le_of_ble_eq_true rfl)) rfl ?_
              refine pm_R_lo pm_M187 (pc' := 179) (pm_q187_1 (Nat.le_of_ble_eq_true rfl)) rfl rfl ?_
              refine pm_R_op pm_M187 (pc' := 180) (st' := [.int 1, .ref 41]) (pm_q187_1 (Nat.le_of_ble_eq_true rfl)) rfl rfl ?_
              refine pm_R_op pm_M187 (pc' := 182) (st' := [.int 42, .int 1, .ref 41]) (pm_q187_1 (Nat.le_of_ble_eq_true rfl)) rfl rfl ?_
              refine pm_R_op pm_M187 (pc' := 183) (st' := [.int 3, .int 42, .int 1, .ref 41]) (pm_q187_1 (Nat.le_of_ble_eq_true rfl)) rfl rfl ?_
              refine pm_R_op pm_M187 (pc' := 185) (st' := [.int 16, .int 3, .int 42, .int 1, .ref 41]) (pm_q187_1 (Nat.le_of_ble_eq_true rfl)) rfl rfl ?_
              refine pm_R_op pm_M187 (pc' := 186) (st' := [.int 0, .int 16, .int 3, .int 42, .int 1, .ref 41]) (pm_q187_1 (Nat.le_of_ble_eq_true rfl)) rfl rfl ?_
              refine pm_R_cv pm_M187 (pc' := 189) (a := 41) (ra := [.int 0, .int 16, .int 3, .int 42, .int 1]) (rest := []) (ls' := [.ref 41, .int 1, .int 42, .int 3, .int 16, .int 0, pm_no, pm_no]) (pm_q187_1 (Nat.le_of_ble_eq_true rfl)) rfl (Or.inl rfl) pm_M185 T2031.2.1 rfl (by decide) (Nat.lt_of_lt_of_le (by decide) T2031.1) rfl rfl (Nat.le_of_ble_eq_true rfl) rfl rfl ?_
              have e2067 := (F2032.cell (by decide) (F1982.cell (by decide) (F1932.cell (by decide) (F1896.cell (by decide) e3))))
              refine rf_c185_s (d := d + 2) T2031 (⟨f2, e2067, ct4, fun z => (bd5 (sf_aux71 _ _ _ _ _ ek1902 X1935 X1985 X2035 z))⟩) (fun _ g eg => by rw [e2066] at eg; cases eg; exact ⟨sf_eqL (Eq.trans (sf_upd_nec (k := Int32.toNatClampNeg 2) (j := Int32.toNatClampNeg 0) (by decide)) (Eq.trans (sf_upd_nec (k := Int32.toNatClampNeg 1) (j := Int32.toNatClampNeg 0) (by decide)) sf_upd_eq)) B1965, sf_eqL (Eq.trans (sf_upd_nec (k := Int32.toNatClampNeg 2) (j := Int32.toNatClampNeg 1) (by decide)) sf_upd_eq) B2015, sf_eqL sf_upd_eq B2065⟩) (fun m2070 w2071 h2072 T2073 F2074 W2075 X2076 => ?_)
              have F2077 := F2058.trans F2074 (by decide)
              have B2078 : sf_B 0 600 (m2070 10) := by rw [W2075 10 (by decide)]; exact B2060
              have ek2079 : (m2070 10).toInt = ((m2028 10)).toInt := by rw [W2075 10 (by decide)]
              have B2080 : sf_B 0 4 (m2070 17) := by rw [W2075 17 (by decide)]; exact (sf_eqT X2035 (sf_eqT X1985 (sf_eqT X1935 B1901)))
              have ek2081 : (m2070 17).toInt = ((m1978 17)).toInt := by rw [W2075 17 (by decide)]; exact X2035
              have B2082 : sf_B 0 1 (m2070 22) := by rw [W2075 22 (by decide)]; exact (sf_eqT X2036 (sf_eqT X1986 (sf_eqT X1936 B1905)))
              have ek2083 : (m2070 22).toInt = ((m1978 22)).toInt := by rw [W2075 22 (by decide)]; exact X2036
              have W2084 : rf_W [10, 12, 13, 14, 16, 17, 18, 22] m m2070 := W2059.trans W2075 (by decide)
              show pm_R _ 187 189 [.ref 41, .long a0, pm_no, .int a1] [] _ _
              obtain ⟨f2085, e2086, ct2087, bd2088⟩ := X2076
              refine pm_R_op pm_M187 (pc' := 190) (st' := [.int 1]) (pm_q187_1 (Nat.le_of_ble_eq_true rfl)) rfl rfl ?_
              exact pm_R_ret pm_M187 (r := some (.int 1)) (pm_q187_1 (Nat.le_of_ble_eq_true rfl)) rfl (K1 m2070 w2071 h2072 T2073 F2077 W2084 (⟨f2085, e2086, ct2087, fun z => (bd2088 z)⟩) (sf_aux39 _ _ _ ek2079 R2063))
            · have F2089 := F2008.trans F2045 (by decide)
              have W2090 : rf_W [10, 12, 13, 14, 16, 17, 18, 22] m m2041 := W2009.trans W2046 (by decide)
              have B2091 : sf_B 0 600 (m2041 10) := T2044.2.2.1 10
              have B2092 : sf_B 0 4 (m2041 17) := T2044.2.2.1 17
              have B2093 : sf_B 0 1 (m2041 22) := T2044.2.2.1 22
              show pm_R _ 187 173 [.ref 41, .long a0, pm_no, .int a1] [.int 1] _ _
              have R2094 : (m 10).toInt ≤ (m2041 10).toInt := (sf_aux70 _ _ _ R2013 X2049)
              obtain ⟨v2095, B2096, e2097⟩ := X2047 _ e2016
              refine pm_R_br pm_M187 (pc' := 178) (st' := []) (pm_q187_1 (Nat.le_of_ble_eq_true rfl)) rfl ?_
              refine pm_R_lo pm_M187 (pc' := 179) (pm_q187_1 (Nat.le_of_ble_eq_true rfl)) rfl rfl ?_
              refine pm_R_op pm_M187 (pc' := 180) (st' := [.int 1, .ref 41]) (pm_q187_1 (Nat.le_of_ble_eq_true rfl)) rfl rfl ?_
              refine pm_R_op pm_M187 (pc' := 182) (st' := [.int 42, .int 1, .ref 41]) (pm_q187_1 (Nat.le_of_ble_eq_true rfl)) rfl rfl ?_
              refine pm_R_op pm_M187 (pc' := 183) (st' := [.int 3, .int 42, .int 1, .ref 41]) (pm_q187_1 (Nat.le_of_ble_eq_true rfl)) rfl rfl ?_
              refine pm_R_op pm_M187 (pc' := 185) (st' := [.int 16, .int 3, .int 42, .int 1, .ref 41]) (pm_q187_1 (Nat.le_of_ble_eq_true rfl)) rfl rfl ?_
              refine pm_R_op pm_M187 (pc' := 186) (st' := [.int 0, .int 16, .int 3, .int 42, .int 1, .ref 41]) (pm_q187_1 (Nat.le_of_ble_eq_true rfl)) rfl rfl ?_
              refine pm_R_cv pm_M187 (pc' := 189) (a := 41) (ra := [.int 0, .int 16, .int 3, .int 42, .int 1]) (rest := []) (ls' := [.ref 41, .int 1, .int 42, .int 3, .int 16, .int 0, pm_no, pm_no]) (pm_q187_1 (Nat.le_of_ble_eq_true rfl)) rfl (Or.inl rfl) pm_M185 T2044.2.1 rfl (by decide) (Nat.lt_of_lt_of_le (by decide) T2044.1) rfl rfl (Nat.le_of_ble_eq_true rfl) rfl rfl ?_
              have e2098 := (F2045.cell (by decide) (F1982.cell (by decide) (F1932.cell (by decide) (F1896.cell (by decide) e3))))
              refine rf_c185_s (d := d + 2) T2044 (⟨f2, e2098, ct4, fun z => (sf_pos B2050 (by decide) z)⟩) (fun z => sf_pos B2050 (by decide) z) (fun m2101 w2102 h2103 T2104 F2105 W2106 X2107 => ?_)
              have F2108 := F2089.trans F2105 (by decide)
              have B2109 : sf_B 0 600 (m2101 10) := by rw [W2106 10 (by decide)]; exact B2091
              have ek2110 : (m2101 10).toInt = ((m2041 10)).toInt := by rw [W2106 10 (by decide)]
              have B2111 : sf_B 1 4 (m2101 17) := by rw [W2106 17 (by decide)]; exact B2050
              have ek2112 : (m2101 17).toInt = ((m2041 17)).toInt := by rw [W2106 17 (by decide)]
              have B2113 : sf_B 0 0 (m2101 22) := by rw [W2106 22 (by decide)]; exact B2051
              have ek2114 : (m2101 22).toInt = ((m2041 22)).toInt := by rw [W2106 22 (by decide)]
              have W2115 : rf_W [10, 12, 13, 14, 16, 17, 18, 22] m m2101 := W2090.trans W2106 (by decide)
              show pm_R _ 187 189 [.ref 41, .long a0, pm_no, .int a1] [] _ _
              obtain ⟨f2116, e2117, ct2118, bd2119⟩ := X2107
              refine pm_R_op pm_M187 (pc' := 190) (st' := [.int 1]) (pm_q187_1 (Nat.le_of_ble_eq_true rfl)) rfl rfl ?_
              exact pm_R_ret pm_M187 (r := some (.int 1)) (pm_q187_1 (Nat.le_of_ble_eq_true rfl)) rfl (K1 m2101 w2102 h2103 T2104 F2108 W2115 (⟨f2116, e2117, ct2118, fun z => (sf_pos B2111 (by decide) z)⟩) (sf_aux39 _ _ _ ek2110 R2094))
          · have F2120 := F1958.trans F1995 (by decide)
            have W2121 : rf_W [10, 12, 13, 14, 16, 17, 18, 22] m m1991 := W1959.trans W1996 (by decide)
            have B2122 : sf_B 0 600 (m1991 10) := T1994.2.2.1 10
            have B2123 : sf_B 0 4 (m1991 17) := T1994.2.2.1 17
            have B2124 : sf_B 0 1 (m1991 22) := T1994.2.2.1 22
            show pm_R _ 187 162 [.ref 41, .long a0, pm_no, .int a1] [.int 1] _ _
            have R2125 : (m 10).toInt ≤ (m1991 10).toInt := (sf_aux70 _ _ _ R1963 X1999)
            obtain ⟨v2126, B2127, e2128⟩ := X1997 _ e1966
            refine pm_R_br pm_M187 (pc' := 165) (st' := []) (pm_q187_1 (Nat.le_of_ble_eq_true rfl)) rfl ?_
            refine pm_R_lo pm_M187 (pc' := 166) (pm_q187_1 (Nat.le_of_ble_eq_true rfl)) rfl rfl ?_
            refine pm_R_op pm_M187 (pc' := 167) (st' := [.int 2, .ref 41]) (pm_q187_1 (Nat.le_of_ble_eq_true rfl)) rfl rfl ?_
            refine pm_R_op pm_M187 (pc' := 169) (st' := [.int 49, .int 2, .ref 41]) (pm_q187_1 (Nat.le_of_ble_eq_true rfl)) rfl rfl ?_
            refine pm_R_op pm_M187 (pc' := 170) (st' := [.int (-1), .int 49, .int 2, .ref 41]) (pm_q187_1 (Nat.le_of_ble_eq_true rfl)) rfl rfl ?_
            refine pm_R_cv pm_M187 (pc' := 173) (a := 41) (ra := [.int (-1), .int 49, .int 2]) (rest := []) (ls' := [.ref 41, .int 2, .int 49, .int (-1)]) (pm_q187_1 (Nat.le_of_ble_eq_true rfl)) rfl (Or.inl rfl) pm_M183 T1994.2.1 rfl (by decide) (Nat.lt_of_lt_of_le (by decide) T1994.1) rfl rfl (Nat.le_of_ble_eq_true rfl) rfl rfl ?_
            refine rf_c183_2_49 (d := d + 0) T1994  (fun m2131 w2132 h2133 T2134 F2135 W2136 X2137 => ?_) (fun m2140 w2141 h2142 T2143 F2144 W2145 X2146 X2147 X2148 X2149 X2150 => ?_) (fun m2153 w2154 h2155 T2156 F2157 W2158 X2159 X2160 X2161 B2162 B2163 => ?_)
            · have F2164 := F2120.trans F2135 (by decide)
              have W2165 : rf_W [10, 12, 13, 14, 16, 17, 18, 22] m m2131 := W2121.trans W2136 (by decide)
              have B2166 : sf_B 0 600 (m2131 10) := T2134.2.2.1 10
              have B2167 : sf_B 0 4 (m2131 17) := T2134.2.2.1 17
              have B2168 : sf_B 0 1 (m2131 22) := T2134.2.2.1 22
              show pm_R _ 187 173 [.ref 41, .long a0, pm_no, .int a1] [.int 0] _ _
              have R2169 : (m 10).toInt ≤ (m2131 10).toInt := (sf_aux70 _ _ _ R2125 X2137)
              refine pm_R_br pm_M187 (pc' := 176) (st' := []) (pm_q187_1 (Nat.le_of_ble_eq_true rfl)) rfl ?_
              refine pm_R_op pm_M187 (pc' := 177) (st' := [.int 0]) (pm_q187_1 (Nat.le_of_ble_eq_true rfl)) rfl rfl ?_
              exact pm_R_ret pm_M187 (r := some (.int 0)) (pm_q187_1 (Nat.le_of_ble_eq_true rfl)) rfl (K0 m2131 w2132 h2133 T2134 F2164 W2165 (sf_aux51 _ _ R2169))
            · have F2170 := F2120.trans F2144 (by decide)
              have W2171 : rf_W [10, 12, 13, 14, 16, 17, 18, 22] m m2140 := W2121.trans W2145 (by decide)
              have B2172 : sf_B 0 600 (m2140 10) := T2143.2.2.1 10
              have B2173 : sf_B 0 4 (m2140 17) := T2143.2.2.1 17
              have B2174 : sf_B 0 1 (m2140 22) := T2143.2.2.1 22
              show pm_R _ 187 173 [.ref 41, .long a0, pm_no, .int a1] [.int 1] _ _
              have R2175 : (m 10).toInt ≤ (m2140 10).toInt := (sf_aux70 _ _ _ R2125 X2150)
              obtain ⟨v2176, B2177, e2178⟩ := X2146 _ e2128
              refine pm_R_br pm_M187 (pc' := 178) (st' := []) (pm_q187_1 (Nat.le_of_ble_eq_true rfl)) rfl ?_
              refine pm_R_lo pm_M187 (pc' := 179) (pm_q187_1 (Nat.le_of_ble_eq_true rfl)) rfl rfl ?_
              refine pm_R_op pm_M187 (pc' := 180) (st' := [.int 1, .ref 41]) (pm_q187_1 (Nat.le_of_ble_eq_true rfl)) rfl rfl ?_
              refine pm_R_op pm_M187 (pc' := 182) (st' := [.int 42, .int 1, .ref 41]) (pm_q187_1 (Nat.le_of_ble_eq_true rfl)) rfl rfl ?_
              refine pm_R_op pm_M187 (pc' := 183) (st' := [.int 3, .int 42, .int 1, .ref 41]) (pm_q187_1 (Nat.le_of_ble_eq_true rfl)) rfl rfl ?_
              refine pm_R_op pm_M187 (pc' := 185) (st' := [.int 16, .int 3, .int 42, .int 1, .ref 41]) (pm_q187_1 (Nat.le_of_ble_eq_true rfl)) rfl rfl ?_
              refine pm_R_op pm_M187 (pc' := 186) (st' := [.int 0, .int 16, .int 3, .int 42, .int 1, .ref 41]) (pm_q187_1 (Nat.le_of_ble_eq_true rfl)) rfl rfl ?_
              refine pm_R_cv pm_M187 (pc' := 189) (a := 41) (ra := [.int 0, .int 16, .int 3, .int 42, .int 1]) (rest := []) (ls' := [.ref 41, .int 1, .int 42, .int 3, .int 16, .int 0, pm_no, pm_no]) (pm_q187_1 (Nat.le_of_ble_eq_true rfl)) rfl (Or.inl rfl) pm_M185 T2143.2.1 rfl (by decide) (Nat.lt_of_lt_of_le (by decide) T2143.1) rfl rfl (Nat.le_of_ble_eq_true rfl) rfl rfl ?_
              have e2179 := (F2144.cell (by decide) (F1995.cell (by decide) (F1932.cell (by decide) (F1896.cell (by decide) e3))))
              refine rf_c185_s (d := d + 2) T2143 (⟨f2, e2179, ct4, fun z => (sf_pos (sf_eqT X2147 B2000) (by decide) z)⟩) (fun z => sf_pos (sf_eqT X2147 B2000) (by decide) z) (fun m2182 w2183 h2184 T2185 F2186 W2187 X2188 => ?_)
              have F2189 := F2170.trans F2186 (by decide)
              have B2190 : sf_B 0 600 (m2182 10) := by rw [W2187 10 (by decide)]; exact B2172
              have ek2191 : (m2182 10).toInt = ((m2140 10)).toInt := by rw [W2187 10 (by decide)]
              have B2192 : sf_B 1 4 (m2182 17) := by rw [W2187 17 (by decide)]; exact (sf_eqT X2147 B2000)
              have ek2193 : (m2182 17).toInt = ((m1991 17)).toInt := by rw [W2187 17 (by decide)]; exact X2147
              have B2194 : sf_B 0 0 (m2182 22) := by rw [W2187 22 (by decide)]; exact (sf_eqT X2148 B2001)
              have ek2195 : (m2182 22).toInt = ((m1991 22)).toInt := by rw [W2187 22 (by decide)]; exact X2148
              have W2196 : rf_W [10, 12, 13, 14, 16, 17, 18, 22] m m2182 := W2171.trans W2187 (by decide)
              show pm_R _ 187 189 [.ref 41, .long a0, pm_no, .int a1] [] _ _
              obtain ⟨f2197, e2198, ct2199, bd2200⟩ := X2188
              refine pm_R_op pm_M187 (pc' := 190) (st' := [.int 1]) (pm_q187_1 (Nat.le_of_ble_eq_true rfl)) rfl rfl ?_
              exact pm_R_ret pm_M187 (r := some (.int 1)) (pm_q187_1 (Nat.le_of_ble_eq_true rfl)) rfl (K1 m2182 w2183 h2184 T2185 F2189 W2196 (⟨f2197, e2198, ct2199, fun z => (sf_pos B2192 (by decide) z)⟩) (sf_aux39 _ _ _ ek2191 R2175))
            · have F2201 := F2120.trans F2157 (by decide)
              have W2202 : rf_W [10, 12, 13, 14, 16, 17, 18, 22] m m2153 := W2121.trans W2158 (by decide)
              have B2203 : sf_B 0 600 (m2153 10) := T2156.2.2.1 10
              have B2204 : sf_B 0 4 (m2153 17) := T2156.2.2.1 17
              have B2205 : sf_B 0 1 (m2153 22) := T2156.2.2.1 22
              show pm_R _ 187 173 [.ref 41, .long a0, pm_no, .int a1] [.int 1] _ _
              have R2206 : (m 10).toInt ≤ (m2153 10).toInt := (sf_aux70 _ _ _ R2125 X2161)
              obtain ⟨v2207, B2208, e2209⟩ := X2159 _ e2128
              refine pm_R_br pm_M187 (pc' := 178) (st' := []) (pm_q187_1 (Nat.le_of_ble_eq_true rfl)) rfl ?_
              refine pm_R_lo pm_M187 (pc' := 179) (pm_q187_1 (Nat.le_of_ble_eq_true rfl)) rfl rfl ?_
              refine pm_R_op pm_M187 (pc' := 180) (st' := [.int 1, .ref 41]) (pm_q187_1 (Nat.le_of_ble_eq_true rfl)) rfl rfl ?_
              refine pm_R_op pm_M187 (pc' := 182) (st' := [.int 42, .int 1, .ref 41]) (pm_q187_1 (Nat.le_of_ble_eq_true rfl)) rfl rfl ?_
              refine pm_R_op pm_M187 (pc' := 183) (st' := [.int 3, .int 42, .int 1, .ref 41]) (pm_q187_1 (Nat.le_of_ble_eq_true rfl)) rfl rfl ?_
              refine pm_R_op pm_M187 (pc' := 185) (st' := [.int 16, .int 3, .int 42, .int 1, .ref 41]) (pm_q187_1 (Nat.le_of_ble_eq_true rfl)) rfl rfl ?_
              refine pm_R_op pm_M187 (pc' := 186) (st' := [.int 0, .int 16, .int 3, .int 42, .int 1, .ref 41]) (pm_q187_1 (Nat.le_of_ble_eq_true rfl)) rfl rfl ?_
              refine pm_R_cv pm_M187 (pc' := 189) (a := 41) (ra := [.int 0, .int 16, .int 3, .int 42, .int 1]) (rest := []) (ls' := [.ref 41, .int 1, .int 42, .int 3, .int 16, .int 0, pm_no, pm_no]) (pm_q187_1 (Nat.le_of_ble_eq_true rfl)) rfl (Or.inl rfl) pm_M185 T2156.2.1 rfl (by decide) (Nat.lt_of_lt_of_le (by decide) T2156.1) rfl rfl (Nat.le_of_ble_eq_true rfl) rfl rfl ?_
              have e2210 := (F2157.cell (by decide) (F1995.cell (by decide) (F1932.cell (by decide) (F1896.cell (by decide) e3))))
              refine rf_c185_s (d := d + 2) T2156 (⟨f2, e2210, ct4, fun z => (sf_pos B2162 (by decide) z)⟩) (fun z => sf_pos B2162 (by decide) z) (fun m2213 w2214 h2215 T2216 F2217 W2218 X2219 => ?_)
              have F2220 := F2201.trans F2217 (by decide)
              have B2221 : sf_B 0 600 (m2213 10) := by rw [W2218 10 (by decide)]; exact B2203
              have ek2222 : (m2213 10).toInt = ((m2153 10)).toInt := by rw [W2218 10 (by decide)]
              have B2223 : sf_B 1 4 (m2213 17) := by rw [W2218 17 (by decide)]; exact B2162
              have ek2224 : (m2213 17).toInt = ((m2153 17)).toInt := by rw [W2218 17 (by decide)]
              have B2225 : sf_B 0 0 (m2213 22) := by rw [W2218 22 (by decide)]; exact B2163
              have ek2226 : (m2213 22).toInt = ((m2153 22)).toInt := by rw [W2218 22 (by decide)]
              have W2227 : rf_W [10, 12, 13, 14, 16, 17, 18, 22] m m2213 := W2202.trans W2218 (by decide)
              show pm_R _ 187 189 [.ref 41, .long a0, pm_no, .int a1] [] _ _
              obtain ⟨f2228, e2229, ct2230, bd2231⟩ := X2219
              refine pm_R_op pm_M187 (pc' := 190) (st' := [.int 1]) (pm_q187_1 (Nat.le_of_ble_eq_true rfl)) rfl rfl ?_
              exact pm_R_ret pm_M187 (r := some (.int 1)) (pm_q187_1 (Nat.le_of_ble_eq_true rfl)) rfl (K1 m2213 w2214 h2215 T2216 F2220 W2227 (⟨f2228, e2229, ct2230, fun z => (sf_pos B2223 (by decide) z)⟩) (sf_aux39 _ _ _ ek2222 R2206))
        · have F2232 := F1900.trans F1945 (by decide)
          have W2233 : rf_W [10, 12, 13, 14, 16, 17, 18, 22] m m1941 := W1903.trans W1946 (by decide)
          have B2234 : sf_B 0 600 (m1941 10) := T1944.2.2.1 10
          have B2235 : sf_B 0 4 (m1941 17) := T1944.2.2.1 17
          have B2236 : sf_B 0 1 (m1941 22) := T1944.2.2.1 22
          show pm_R _ 187 152 [.ref 41, .long a0, pm_no, .int a1] [.int 1] _ _
          have R2237 : (m 10).toInt ≤ (m1941 10).toInt := (sf_aux70 _ _ _ R1906 X1949)
          obtain ⟨v2238, B2239, e2240⟩ := X1947 _ e1915
          refine pm_R_br pm_M187 (pc' := 155) (st' := []) (pm_q187_1 (Nat.le_of_ble_eq_true rfl)) rfl ?_
          refine pm_R_lo pm_M187 (pc' := 156) (pm_q187_1 (Nat.le_of_ble_eq_true rfl)) rfl rfl ?_
          refine pm_R_op pm_M187 (pc' := 157) (st' := [.int 1, .ref 41]) (pm_q187_1 (Nat.le_of_ble_eq_true rfl)) rfl rfl ?_
          refine pm_R_op pm_M187 (pc' := 158) (st' := [.int 5, .int 1, .ref 41]) (pm_q187_1 (Nat.le_of_ble_eq_true rfl)) rfl rfl ?_
          refine pm_R_op pm_M187 (pc' := 159) (st' := [.int (-1), .int 5, .int 1, .ref 41]) (pm_q187_1 (Nat.le_of_ble_eq_true rfl)) rfl rfl ?_
          refine pm_R_cv pm_M187 (pc' := 162) (a := 41) (ra := [.int (-1), .int 5, .int 1]) (rest := []) (ls' := [.ref 41, .int 1, .int 5, .int (-1)]) (pm_q187_1 (Nat.le_of_ble_eq_true rfl)) rfl (Or.inl rfl) pm_M183 T1944.2.1 rfl (by decide) (Nat.lt_of_lt_of_le (by decide) T1944.1) rfl rfl (Nat.le_of_ble_eq_true rfl) rfl rfl ?_
          refine rf_c183_1_5 (d := d + 0) T1944  (fun m2243 w2244 h2245 T2246 F2247 W2248 X2249 => ?_) (fun m2252 w2253 h2254 T2255 F2256 W2257 X2258 X2259 X2260 X2261 X2262 => ?_) (fun m2265 w2266 h2267 T2268 F2269 W2270 X2271 X2272 X2273 B2274 B2275 => ?_)
          · have F2276 := F2232.trans F2247 (by decide)
            have W2277 : rf_W [10, 12, 13, 14, 16, 17, 18, 22] m m2243 := W2233.trans W2248 (by decide)
            have B2278 : sf_B 0 600 (m2243 10) := T2246.2.2.1 10
            have B2279 : sf_B 0 4 (m2243 17) := T2246.2.2.1 17
            have B2280 : sf_B 0 1 (m2243 22) := T2246.2.2.1 22
            show pm_R _ 187 162 [.ref 41, .long a0, pm_no, .int a1] [.int 0] _ _
            have R2281 : (m 10).toInt ≤ (m2243 10).toInt := (sf_aux70 _ _ _ R2237 X2249)
            refine pm_R_br pm_M187 (pc' := 176) (st' := []) (pm_q187_1 (Nat.le_of_ble_eq_true rfl)) rfl ?_
            refine pm_R_op pm_M187 (pc' := 177) (st' := [.int 0]) (pm_q187_1 (Nat.le_of_ble_eq_true rfl)) rfl rfl ?_
            exact pm_R_ret pm_M187 (r := some (.int 0)) (pm_q187_1 (Nat.le_of_ble_eq_true rfl)) rfl (K0 m2243 w2244 h2245 T2246 F2276 W2277 (sf_aux51 _ _ R2281))
          · have F2282 := F2232.trans F2256 (by decide)
            have W2283 : rf_W [10, 12, 13, 14, 16, 17, 18, 22] m m2252 := W2233.trans W2257 (by decide)
            have B2284 : sf_B 0 600 (m2252 10) := T2255.2.2.1 10
            have B2285 : sf_B 0 4 (m2252 17) := T2255.2.2.1 17
            have B2286 : sf_B 0 1 (m2252 22) := T2255.2.2.1 22
            show pm_R _ 187 162 [.ref 41, .long a0, pm_no, .int a1] [.int 1] _ _
            have R2287 : (m 10).toInt ≤ (m2252 10).toInt := (sf_aux70 _ _ _ R2237 X2262)
            obtain ⟨v2288, B2289, e2290⟩ := X2258 _ e2240
            refine pm_R_br pm_M187 (pc' := 165) (st' := []) (pm_q187_1 (Nat.le_of_ble_eq_true rfl)) rfl ?_
            refine pm_R_lo pm_M187 (pc' := 166) (pm_q187_1 (Nat.le_of_ble_eq_true rfl)) rfl rfl ?_
            refine pm_R_op pm_M187 (pc' := 167) (st' := [.int 2, .ref 41]) (pm_q187_1 (Nat.le_of_ble_eq_true rfl)) rfl rfl ?_
            refine pm_R_op pm_M187 (pc' := 169) (st' := [.int 49, .int 2, .ref 41]) (pm_q187_1 (Nat.le_of_ble_eq_true rfl)) rfl rfl ?_
            refine pm_R_op pm_M187 (pc' := 170) (st' := [.int (-1), .int 49, .int 2, .ref 41]) (pm_q187_1 (Nat.le_of_ble_eq_true rfl)) rfl rfl ?_
            refine pm_R_cv pm_M187 (pc' := 173) (a := 41) (ra := [.int (-1), .int 49, .int 2]) (rest := []) (ls' := [.ref 41, .int 2, .int 49, .int (-1)]) (pm_q187_1 (Nat.le_of_ble_eq_true rfl)) rfl (Or.inl rfl) pm_M183 T2255.2.1 rfl (by decide) (Nat.lt_of_lt_of_le (by decide) T2255.1) rfl rfl (Nat.le_of_ble_eq_true rfl) rfl rfl ?_
            refine rf_c183_2_49 (d := d + 0) T2255  (fun m2293 w2294 h2295 T2296 F2297 W2298 X2299 => ?_) (fun m2302 w2303 h2304 T2305 F2306 W2307 X2308 X2309 X2310 X2311 X2312 => ?_) (fun m2315 w2316 h2317 T2318 F2319 W2320 X2321 X2322 X2323 B2324 B2325 => ?_)
            · have F2326 := F2282.trans F2297 (by decide)
              have W2327 : rf_W [10, 12, 13, 14, 16, 17, 18, 22] m m2293 := W2283.trans W2298 (by decide)
              have B2328 : sf_B 0 600 (m2293 10) := T2296.2.2.1 10
              have B2329 : sf_B 0 4 (m2293 17) := T2296.2.2.1 17
              have B2330 : sf_B 0 1 (m2293 22) := T2296.2.2.1 22
              show pm_R _ 187 173 [.ref 41, .long a0, pm_no, .int a1] [.int 0] _ _
              have R2331 : (m 10).toInt ≤ (m2293 10).toInt := (sf_aux70 _ _ _ R2287 X2299)
              refine pm_R_br pm_M187 (pc' := 176) (st' := []) (pm_q187_1 (Nat.le_of_ble_eq_true rfl)) rfl ?_
              refine pm_R_op pm_M187 (pc' := 177) (st' := [.int 0]) (pm_q187_1 (Nat.le_of_ble_eq_true rfl)) rfl rfl ?_
              exact pm_R_ret pm_M187 (r := some (.int 0)) (pm_q187_1 (Nat.le_of_ble_eq_true rfl)) rfl (K0 m2293 w2294 h2295 T2296 F2326 W2327 (sf_aux51 _ _ R2331))
            · have F2332 := F2282.trans F2306 (by decide)
              have W2333 : rf_W [10, 12, 13, 14, 16, 17, 18, 22] m m2302 := W2283.trans W2307 (by decide)
              have B2334 : sf_B 0 600 (m2302 10) := T2305.2.2.1 10
              have B2335 : sf_B 0 4 (m2302 17) := T2305.2.2.1 17
              have B2336 : sf_B 0 1 (m2302 22) := T2305.2.2.1 22
              show pm_R _ 187 173 [.ref 41, .long a0, pm_no, .int a1] [.int 1] _ _
              have R2337 : (m 10).toInt ≤ (m2302 10).toInt := (sf_aux70 _ _ _ R2287 X2312)
              obtain ⟨v2338, B2339, e2340⟩ := X2308 _ e2290
              refine pm_R_br pm_M187 (pc' := 178) (st' := []) (pm_q187_1 (Nat.le_of_ble_eq_true rfl)) rfl ?_
              refine pm_R_lo pm_M187 (pc' := 179) (pm_q187_1 (Nat.le_of_ble_eq_true rfl)) rfl rfl ?_
              refine pm_R_op pm_M187 (pc' := 180) (st' := [.int 1, .ref 41]) (pm_q187_1 (Nat.le_of_ble_eq_true rfl)) rfl rfl ?_
              refine pm_R_op pm_M187 (pc' := 182) (st' := [.int 42, .int 1, .ref 41]) (pm_q187_1 (Nat.le_of_ble_eq_true rfl)) rfl rfl ?_
              refine pm_R_op pm_M187 (pc' := 183) (st' := [.int 3, .int 42, .int 1, .ref 41]) (pm_q187_1 (Nat.le_of_ble_eq_true rfl)) rfl rfl ?_
              refine pm_R_op pm_M187 (pc' := 185) (st' := [.int 16, .int 3, .int 42, .int 1, .ref 41]) (pm_q187_1 (Nat.le_of_ble_eq_true rfl)) rfl rfl ?_
              refine pm_R_op pm_M187 (pc' := 186) (st' := [.int 0, .int 16, .int 3, .int 42, .int 1, .ref 41]) (pm_q187_1 (Nat.le_of_ble_eq_true rfl)) rfl rfl ?_
              refine pm_R_cv pm_M187 (pc' := 189) (a := 41) (ra := [.int 0, .int 16, .int 3, .int 42, .int 1]) (rest := []) (ls' := [.ref 41, .int 1, .int 42, .int 3, .int 16, .int 0, pm_no, pm_no]) (pm_q187_1 (Nat.le_of_ble_eq_true rfl)) rfl (Or.inl rfl) pm_M185 T2305.2.1 rfl (by decide) (Nat.lt_of_lt_of_le (by decide) T2305.1) rfl rfl (Nat.le_of_ble_eq_true rfl) rfl rfl ?_
              have e2341 := (F2306.cell (by decide) (F2256.cell (by decide) (F1945.cell (by decide) (F1896.cell (by decide) e3))))
              refine rf_c185_s (d := d + 2) T2305 (⟨f2, e2341, ct4, fun z => (sf_pos (sf_eqT X2309 (sf_eqT X2259 B1950)) (by decide) z)⟩) (fun z => sf_pos (sf_eqT X2309 (sf_eqT X2259 B1950)) (by decide) z) (fun m2344 w2345 h2346 T2347 F2348 W2349 X2350 => ?_)
              have F2351 := F2332.trans F2348 (by decide)
              have B2352 : sf_B 0 600 (m2344 10) := by rw [W2349 10 (by decide)]; exact B2334
              have ek2353 : (m2344 10).toInt = ((m2302 10)).toInt := by rw [W2349 10 (by decide)]
              have B2354 : sf_B 1 4 (m2344 17) := by rw [W2349 17 (by decide)]; exact (sf_eqT X2309 (sf_eqT X2259 B1950))
              have ek2355 : (m2344 17).toInt = ((m2252 17)).toInt := by rw [W2349 17 (by decide)]; exact X2309
              have B2356 : sf_B 0 0 (m2344 22) := by rw [W2349 22 (by decide)]; exact (sf_eqT X2310 (sf_eqT X2260 B1951))
              have ek2357 : (m2344 22).toInt = ((m2252 22)).toInt := by rw [W2349 22 (by decide)]; exact X2310
              have W2358 : rf_W [10, 12, 13, 14, 16, 17, 18, 22] m m2344 := W2333.trans W2349 (by decide)
              show pm_R _ 187 189 [.ref 41, .long a0, pm_no, .int a1] [] _ _
              obtain ⟨f2359, e2360, ct2361, bd2362⟩ := X2350
              refine pm_R_op pm_M187 (pc' := 190) (st' := [.int 1]) (pm_q187_1 (Nat.le_of_ble_eq_true rfl)) rfl rfl ?_
              exact pm_R_ret pm_M187 (r := some (.int 1)) (pm_q187_1 (Nat.le_of_ble_eq_true rfl)) rfl (K1 m2344 w2345 h2346 T2347 F2351 W2358 (⟨f2359, e2360, ct2361, fun z => (sf_pos B2354 (by decide) z)⟩) (sf_aux39 _ _ _ ek2353 R2337))
            · have F2363 := F2282.trans F2319 (by decide)
              have W2364 : rf_W [10, 12, 13, 14, 16, 17, 18, 22] m m2315 := W2283.trans W2320 (by decide)
              have B2365 : sf_B 0 600 (m2315 10) := T2318.2.2.1 10
              have B2366 : sf_B 0 4 (m2315 17) := T2318.2.2.1 17
              have B2367 : sf_B 0 1 (m2315 22) := T2318.2.2.1 22
              show pm_R _ 187 173 [.ref 41, .long a0, pm_no, .int a1] [.int 1] _ _
              have R2368 : (m 10).toInt ≤ (m2315 10).toInt := (sf_aux70 _ _ _ R2287 X2323)
              obtain ⟨v2369, B2370, e2371⟩ := X2321 _ e2290
              refine pm_R_br pm_M187 (pc' := 178) (st' := []) (pm_q187_1 (Nat.le_of_ble_eq_true rfl)) rfl ?_
              refine pm_R_lo pm_M187 (pc' := 179) (pm_q187_1 (Nat.le_of_ble_eq_true rfl)) rfl rfl ?_
              refine pm_R_op pm_M187 (pc' := 180) (st' := [.int 1, .ref 41]) (pm_q187_1 (Nat.le_of_ble_eq_true rfl)) rfl rfl ?_
              refine pm_R_op pm_M187 (pc' := 182) (st' := [.int 42, .int 1, .ref 41]) (pm_q187_1 (Nat.le_of_ble_eq_true rfl)) rfl rfl ?_
              refine pm_R_op pm_M187 (pc' := 183) (st' := [.int 3, .int 42, .int 1, .ref 41]) (pm_q187_1 (Nat.le_of_ble_eq_true rfl)) rfl rfl ?_
              refine pm_R_op pm_M187 (pc' := 185) (st' := [.int 16, .int 3, .int 42, .int 1, .ref 41]) (pm_q187_1 (Nat.le_of_ble_eq_true rfl)) rfl rfl ?_
              refine pm_R_op pm_M187 (pc' := 186) (st' := [.int 0, .int 16, .int 3, .int 42, .int 1, .ref 41]) (pm_q187_1 (Nat.le_of_ble_eq_true rfl)) rfl rfl ?_
              refine pm_R_cv pm_M187 (pc' := 189) (a := 41) (ra := [.int 0, .int 16, .int 3, .int 42, .int 1]) (rest := []) (ls' := [.ref 41, .int 1, .int 42, .int 3, .int 16, .int 0, pm_no, pm_no]) (pm_q187_1 (Nat.le_of_ble_eq_true rfl)) rfl (Or.inl rfl) pm_M185 T2318.2.1 rfl (by decide) (Nat.lt_of_lt_of_le (by decide) T2318.1) rfl rfl (Nat.le_of_ble_eq_true rfl) rfl rfl ?_
              have e2372 := (F2319.cell (by decide) (F2256.cell (by decide) (F1945.cell (by decide) (F1896.cell (by decide) e3))))
              refine rf_c185_s (d := d + 2) T2318 (⟨f2, e2372, ct4, fun z => (sf_pos B2324 (by decide) z)⟩) (fun z => sf_pos B2324 (by decide) z) (fun m2375 w2376 h2377 T2378 F2379 W2380 X2381 => ?_)
              have F2382 := F2363.trans F2379 (by decide)
              have B2383 : sf_B 0 600 (m2375 10) := by rw [W2380 10 (by decide)]; exact B2365
              have ek2384 : (m2375 10).toInt = ((m2315 10)).toInt := by rw [W2380 10 (by decide)]
              have B2385 : sf_B 1 4 (m2375 17) := by rw [W2380 17 (by decide)]; exact B2324
              have ek2386 : (m2375 17).toInt = ((m2315 17)).toInt := by rw [W2380 17 (by decide)]
              have B2387 : sf_B 0 0 (m2375 22) := by rw [W2380 22 (by decide)]; exact B2325
              have ek2388 : (m2375 22).toInt = ((m2315 22)).toInt := by rw [W2380 22 (by decide)]
              have W2389 : rf_W [10, 12, 13, 14, 16, 17, 18, 22] m m2375 := W2364.trans W2380 (by decide)
              show pm_R _ 187 189 [.ref 41, .long a0, pm_no, .int a1] [] _ _
              obtain ⟨f2390, e2391, ct2392, bd2393⟩ := X2381
              refine pm_R_op pm_M187 (pc' := 190) (st' := [.int 1]) (pm_q187_1 (Nat.le_of_ble_eq_true rfl)) rfl rfl ?_
              exact pm_R_ret pm_M187 (r := some (.int 1)) (pm_q187_1 (Nat.le_of_ble_eq_true rfl)) rfl (K1 m2375 w2376 h2377 T2378 F2382 W2389 (⟨f2390, e2391, ct2392, fun z => (sf_pos B2385 (by decide) z)⟩) (sf_aux39 _ _ _ ek2384 R2368))
          · have F2394 := F2232.trans F2269 (by decide)
            have W2395 : rf_W [10, 12, 13, 14, 16, 17, 18, 22] m m2265 := W2233.trans W2270 (by decide)
            have B2396 : sf_B 0 600 (m2265 10) := T2268.2.2.1 10
            have B2397 : sf_B 0 4 (m2265 17) := T2268.2.2.1 17
            have B2398 : sf_B 0 1 (m2265 22) := T2268.2.2.1 22
            show pm_R _ 187 162 [.ref 41, .long a0, pm_no, .int a1] [.int 1] _ _
            have R2399 : (m 10).toInt ≤ (m2265 10).toInt := (sf_aux70 _ _ _ R2237 X2273)
            obtain ⟨v2400, B2401, e2402⟩ := X2271 _ e2240
            refine pm_R_br pm_M187 (pc' := 165) (st' := []) (pm_q187_1 (Nat.le_of_ble_eq_true rfl)) rfl ?_
            refine pm_R_lo pm_M187 (pc' := 166) (pm_q187_1 (Nat.le_of_ble_eq_true rfl)) rfl rfl ?_
            refine pm_R_op pm_M187 (pc' := 167) (st' := [.int 2, .ref 41]) (pm_q187_1 (Nat.le_of_ble_eq_true rfl)) rfl rfl ?_
            refine pm_R_op pm_M187 (pc' := 169) (st' := [.int 49, .int 2, .ref 41]) (pm_q187_1 (Nat.le_of_ble_eq_true rfl)) rfl rfl ?_
            refine pm_R_op pm_M187 (pc' := 170) (st' := [.int (-1), .int 49, .int 2, .ref 41]) (pm_q187_1 (Nat.le_of_ble_eq_true rfl)) rfl rfl ?_
            refine pm_R_cv pm_M187 (pc' := 173) (a := 41) (ra := [.int (-1), .int 49, .int 2]) (rest := []) (ls' := [.ref 41, .int 2, .int 49, .int (-1)]) (pm_q187_1 (Nat.le_of_ble_eq_true rfl)) rfl (Or.inl rfl) pm_M183 T2268.2.1 rfl (by decide) (Nat.lt_of_lt_of_le (by decide) T2268.1) rfl rfl (Nat.le_of_ble_eq_true rfl) rfl rfl ?_
            refine rf_c183_2_49 (d := d + 0) T2268  (fun m2405 w2406 h2407 T2408 F2409 W2410 X2411 => ?_) (fun m2414 w2415 h2416 T2417 F2418 W2419 X2420 X2421 X2422 X2423 X2424 => ?_) (fun m2427 w2428 h2429 T2430 F2431 W2432 X2433 X2434 X2435 B2436 B2437 => ?_)
            · have F2438 := F2394.trans F2409 (by decide)
              have W2439 : rf_W [10, 12, 13, 14, 16, 17, 18, 22] m m2405 := W2395.trans W2410 (by decide)
              have B2440 : sf_B 0 600 (m2405 10) := T2408.2.2.1 10
              have B2441 : sf_B 0 4 (m2405 17) := T2408.2.2.1 17
              have B2442 : sf_B 0 1 (m2405 22) := T2408.2.2.1 22
              show pm_R _ 187 173 [.ref 41, .long a0, pm_no, .int a1] [.int 0] _ _
              have R2443 : (m 10).toInt ≤ (m2405 10).toInt := (sf_aux70 _ _ _ R2399 X2411)
              refine pm_R_br pm_M187 (pc' := 176) (st' := []) (pm_q187_1 (Nat.le_of_ble_eq_true rfl)) rfl ?_
              refine pm_R_op pm_M187 (pc' := 177) (st' := [.int 0]) (pm_q187_1 (Nat.le_of_ble_eq_true rfl)) rfl rfl ?_
              exact pm_R_ret pm_M187 (r := some (.int 0)) (pm_q187_1 (Nat.le_of_ble_eq_true rfl)) rfl (K0 m2405 w2406 h2407 T2408 F2438 W2439 (sf_aux51 _ _ R2443))
            · have F2444 := F2394.trans F2418 (by decide)
              have W2445 : rf_W [10, 12, 13, 14, 16, 17, 18, 22] m m2414 := W2395.trans W2419 (by decide)
              have B2446 : sf_B 0 600 (m2414 10) := T2417.2.2.1 10
              have B2447 : sf_B 0 4 (m2414 17) := T2417.2.2.1 17
              have B2448 : sf_B 0 1 (m2414 22) := T2417.2.2.1 22
              show pm_R _ 187 173 [.ref 41, .long a0, pm_no, .int a1] [.int 1] _ _
              have R2449 : (m 10).toInt ≤ (m2414 10).toInt := (sf_aux70 _ _ _ R2399 X2424)
              obtain ⟨v2450, B2451, e2452⟩ := X2420 _ e2402
              refine pm_R_br pm_M187 (pc' := 178) (st' := []) (pm_q187_1 (Nat.le_of_ble_eq_true rfl)) rfl ?_
              refine pm_R_lo pm_M187 (pc' := 179) (pm_q187_1 (Nat.le_of_ble_eq_true rfl)) rfl rfl ?_
              refine pm_R_op pm_M187 (pc' := 180) (st' := [.int 1, .ref 41]) (pm_q187_1 (Nat.le_of_ble_eq_true rfl)) rfl rfl ?_
              refine pm_R_op pm_M187 (pc' := 182) (st' := [.int 42, .int 1, .ref 41]) (pm_q187_1 (Nat.le_of_ble_eq_true rfl)) rfl rfl ?_
              refine pm_R_op pm_M187 (pc' := 183) (st' := [.int 3, .int 42, .int 1, .ref 41]) (pm_q187_1 (Nat.le_of_ble_eq_true rfl)) rfl rfl ?_
              refine pm_R_op pm_M187 (pc' := 185) (st' := [.int 16, .int 3, .int 42, .int 1, .ref 41]) (pm_q187_1 (Nat.le_of_ble_eq_true rfl)) rfl rfl ?_
              refine pm_R_op pm_M187 (pc' := 186) (st' := [.int 0, .int 16, .int 3, .int 42, .int 1, .ref 41]) (pm_q187_1 (Nat.le_of_ble_eq_true rfl)) rfl rfl ?_
              refine pm_R_cv pm_M187 (pc' := 189) (a := 41) (ra := [.int 0, .int 16, .int 3, .int 42, .int 1]) (rest := []) (ls' := [.ref 41, .int 1, .int 42, .int 3, .int 16, .int 0, pm_no, pm_no]) (pm_q187_1 (Nat.le_of_ble_eq_true rfl)) rfl (Or.inl rfl) pm_M185 T2417.2.1 rfl (by decide) (Nat.lt_of_lt_of_le (by decide) T2417.1) rfl rfl (Nat.le_of_ble_eq_true rfl) rfl rfl ?_
              have e2453 := (F2418.cell (by decide) (F2269.cell (by decide) (F1945.cell (by decide) (F1896.cell (by decide) e3))))
              refine rf_c185_s (d := d + 2) T2417 (⟨f2, e2453, ct4, fun z => (sf_pos (sf_eqT X2421 B2274) (by decide) z)⟩) (fun z => sf_pos (sf_eqT X2421 B2274) (by decide) z) (fun m2456 w2457 h2458 T2459 F2460 W2461 X2462 => ?_)
              have F2463 := F2444.trans F2460 (by decide)
              have B2464 : sf_B 0 600 (m2456 10) := by rw [W2461 10 (by decide)]; exact B2446
              have ek2465 : (m2456 10).toInt = ((m2414 10)).toInt := by rw [W2461 10 (by decide)]
              have B2466 : sf_B 1 4 (m2456 17) := by rw [W2461 17 (by decide)]; exact (sf_eqT X2421 B2274)
              have ek2467 : (m2456 17).toInt = ((m2265 17)).toInt := by rw [W2461 17 (by decide)]; exact X2421
              have B2468 : sf_B 0 0 (m2456 22) := by rw [W2461 22 (by decide)]; exact (sf_eqT X2422 B2275)
              have ek2469 : (m2456 22).toInt = ((m2265 22)).toInt := by rw [W2461 22 (by decide)]; exact X2422
              have W2470 : rf_W [10, 12, 13, 14, 16, 17, 18, 22] m m2456 := W2445.trans W2461 (by decide)
              show pm_R _ 187 189 [.ref 41, .long a0, pm_no, .int a1] [] _ _
              obtain ⟨f2471, e2472, ct2473, bd2474⟩ := X2462
              refine pm_R_op pm_M187 (pc' := 190) (st' := [.int 1]) (pm_q187_1 (Nat.le_of_ble_eq_true rfl)) rfl rfl ?_
              exact pm_R_ret pm_M187 (r := some (.int 1)) (pm_q187_1 (Nat.le_of_ble_eq_true rfl)) rfl (K1 m2456 w2457 h2458 T2459 F2463 W2470 (⟨f2471, e2472, ct2473, fun z => (sf_pos B2466 (by decide) z)⟩) (sf_aux39 _ _ _ ek2465 R2449))
            · have F2475 := F2394.trans F2431 (by decide)
              have W2476 : rf_W [10, 12, 13, 14, 16, 17, 18, 22] m m2427 := W2395.trans W2432 (by decide)
              have B2477 : sf_B 0 600 (m2427 10) := T2430.2.2.1 10
              have B2478 : sf_B 0 4 (m2427 17) := T2430.2.2.1 17
              have B2479 : sf_B 0 1 (m2427 22) := T2430.2.2.1 22
              show pm_R _ 187 173 [.ref 41, .long a0, pm_no, .int a1] [.int 1] _ _
              have R2480 : (m 10).toInt ≤ (m2427 10).toInt := (sf_aux70 _ _ _ R2399 X2435)
              obtain ⟨v2481, B2482, e2483⟩ := X2433 _ e2402
              refine pm_R_br pm_M187 (pc' := 178) (st' := []) (pm_q187_1 (Nat.le_of_ble_eq_true rfl)) rfl ?_
              refine pm_R_lo pm_M187 (pc' := 179) (pm_q187_1 (Nat.le_of_ble_eq_true rfl)) rfl rfl ?_
              refine pm_R_op pm_M187 (pc' := 180) (st' := [.int 1, .ref 41]) (pm_q187_1 (Nat.le_of_ble_eq_true rfl)) rfl rfl ?_
              refine pm_R_op pm_M187 (pc' := 182) (st' := [.int 42, .int 1, .ref 41]) (pm_q187_1 (Nat.le_of_ble_eq_true rfl)) rfl rfl ?_
              refine pm_R_op pm_M187 (pc' := 183) (st' := [.int 3, .int 42, .int 1, .ref 41]) (pm_q187_1 (Nat.le_of_ble_eq_true rfl)) rfl rfl ?_
              refine pm_R_op pm_M187 (pc' := 185) (st' := [.int 16, .int 3, .int 42, .int 1, .ref 41]) (pm_q187_1 (Nat.le_of_ble_eq_true rfl)) rfl rfl ?_
              refine pm_R_op pm_M187 (pc' := 186) (st' := [.int 0, .int 16, .int 3, .int 42, .int 1, .ref 41]) (pm_q187_1 (Nat.le_of_ble_eq_true rfl)) rfl rfl ?_
              refine pm_R_cv pm_M187 (pc' := 189) (a := 41) (ra := [.int 0, .int 16, .int 3, .int 42, .int 1]) (rest := []) (ls' := [.ref 41, .int 1, .int 42, .int 3, .int 16, .int 0, pm_no, pm_no]) (pm_q187_1 (Nat.le_of_ble_eq_true rfl)) rfl (Or.inl rfl) pm_M185 T2430.2.1 rfl (by decide) (Nat.lt_of_lt_of_le (by decide) T2430.1) rfl rfl (Nat.le_of_ble_eq_true rfl) rfl rfl ?_
              have e2484 := (F2431.cell (by decide) (F2269.cell (by decide) (F1945.cell (by decide) (F1896.cell (by decide) e3))))
              refine rf_c185_s (d := d + 2) T2430 (⟨f2, e2484, ct4, fun z => (sf_pos B2436 (by decide) z)⟩) (fun z => sf_pos B2436 (by decide) z) (fun m2487 w2488 h2489 T2490 F2491 W2492 X2493 => ?_)
              have F2494 := F2475.trans F2491 (by decide)
              have B2495 : sf_B 0 600 (m2487 10) := by rw [W2492 10 (by decide)]; exact B2477
              have ek2496 : (m2487 10).toInt = ((m2427 10)).toInt := by rw [W2492 10 (by decide)]
              have B2497 : sf_B 1 4 (m2487 17) := by rw [W2492 17 (by decide)]; exact B2436
              have ek2498 : (m2487 17).toInt = ((m2427 17)).toInt := by rw [W2492 17 (by decide)]
              have B2499 : sf_B 0 0 (m2487 22) := by rw [W2492 22 (by decide)]; exact B2437
              have ek2500 : (m2487 22).toInt = ((m2427 22)).toInt := by rw [W2492 22 (by decide)]
              have W2501 : rf_W [10, 12, 13, 14, 16, 17, 18, 22] m m2487 := W2476.trans W2492 (by decide)
              show pm_R _ 187 189 [.ref 41, .long a0, pm_no, .int a1] [] _ _
              obtain ⟨f2502, e2503, ct2504, bd2505⟩ := X2493
              refine pm_R_op pm_M187 (pc' := 190) (st' := [.int 1]) (pm_q187_1 (Nat.le_of_ble_eq_true rfl)) rfl rfl ?_
              exact pm_R_ret pm_M187 (r := some (.int 1)) (pm_q187_1 (Nat.le_of_ble_eq_true rfl)) rfl (K1 m2487 w2488 h2489 T2490 F2494 W2501 (⟨f2502, e2503, ct2504, fun z => (sf_pos B2497 (by decide) z)⟩) (sf_aux39 _ _ _ ek2496 R2480))
      · have B2506 : sf_B 16 16 (f2 1) := sf_eqL (Classical.not_not.mp c1888) sf_k16
        refine pm_R_lo pm_M187 (pc' := 68) rfl rfl rfl ?_
        refine pm_R_op pm_M187 (pc' := 69) (st' := [.int 3, .ref 41]) rfl rfl rfl ?_
        refine pm_R_lo pm_M187 (pc' := 70) rfl rfl rfl ?_
        refine pm_R_cv pm_M187 (pc' := 73) (a := 41) (ra := [.int a1, .int 3]) (rest := []) (ls' := [.ref 41, .int 3, .int a1]) rfl rfl (Or.inl rfl) pm_M182 T.2.1 rfl (by decide) (Nat.lt_of_lt_of_le (by decide) T.1) rfl rfl (Nat.le_of_ble_eq_true rfl) rfl rfl ?_
        refine rf_c182 (d := d + 2) T (sf_weak sf_k3 (by decide) (by decide)) Ba1 (fun m2509 w2510 h2511 T2512 F2513 W2514 B2515 => ?_)
        have F2516 := (rf_G.refl [41, 51, 52] h).trans F2513 (by decide)
        have B2517 : sf_B 0 600 (m2509 10) := by rw [W2514 10 (by decide)]; exact B1
        have ek2518 : (m2509 10).toInt = ((m 10)).toInt := by rw [W2514 10 (by decide)]
        have W2519 : rf_W [10, 12, 13, 14, 16, 17, 18, 22] m m2509 := (rf_W.refl [10, 12, 13, 14, 16, 17, 18, 22] m).trans W2514 (by decide)
        have B2520 : sf_B 0 4 (m2509 17) := T2512.2.2.1 17
        have B2521 : sf_B 0 1 (m2509 22) := T2512.2.2.1 22
        show pm_R _ 187 73 [.ref 41, .long a0, pm_no, .int a1] [] _ _
        refine pm_R_lo pm_M187 (pc' := 74) rfl rfl rfl ?_
        refine pm_R_cv pm_M187 (pc' := 77) (a := 41) (ra := []) (rest := []) (ls' := [.ref 41, pm_no, pm_no]) rfl rfl (Or.inl rfl) pm_M179 T2512.2.1 rfl (by decide) (Nat.lt_of_lt_of_le (by decide) T2512.1) rfl rfl (Nat.le_of_ble_eq_true rfl) rfl rfl ?_
        refine rf_c179 (d := d + 1) T2512  (fun m2524 w2525 h2526 T2527 F2528 W2529 X2530 X2531 => ?_)
        have F2532 := F2516.trans F2528 (by decide)
        have B2533 : sf_B 1 4 (m2524 17) := by rw [W2529 17 (by decide)]; exact B2515
        have ek2534 : (m2524 17).toInt = ((m2509 17)).toInt := by rw [W2529 17 (by decide)]
        have B2535 : sf_B 0 1 (m2524 22) := by rw [W2529 22 (by decide)]; exact B2521
        have ek2536 : (m2524 22).toInt = ((m2509 22)).toInt := by rw [W2529 22 (by decide)]
        have W2537 : rf_W [10, 12, 13, 14, 16, 17, 18, 22] m m2524 := W2519.trans W2529 (by decide)
        have B2538 : sf_B 0 600 (m2524 10) := T2527.2.2.1 10
        show pm_R _ 187 77 [.ref 41, .long a0, pm_no, .int a1] [] _ _
        have R2539 : (m 10).toInt ≤ (m2524 10).toInt := (sf_aux53 _ _ _ ek2518 X2530)
        refine pm_R_lo pm_M187 (pc' := 78) rfl rfl rfl ?_
        refine pm_R_ldc2 pm_M187 (pc' := 81) rfl rfl rfl ?_
        refine pm_R_op pm_M187 (pc' := 82) (st' := [.int z7]) rfl (by show some (Value.int (lg_cmp a0 1920298085) :: _) = _; rw [← e8]) rfl ?_
        refine pm_R_ifc pm_M187 (t := 136) (pc' := 85) rfl rfl rfl (fun c2542 => ?_) (fun c2542 => absurd (Classical.not_not.mp c2542) c9)
        have k2543 := sf_lneC e8 c2542
        refine pm_R_lo pm_M187 (pc' := 137) (pm_q187_1 (Nat.le_of_ble_eq_true rfl)) rfl rfl ?_
        refine pm_R_ldc2 pm_M187 (pc' := 140) (pm_q187_1 (Nat.le_of_ble_eq_true rfl)) rfl rfl ?_
        refine pm_R_op pm_M187 (pc' := 141) (st' := [.int z1874]) (pm_q187_1 (Nat.le_of_ble_eq_true rfl)) (by show some (Value.int (lg_cmp a0 1936287598) :: _) = _; rw [← e1875]) rfl ?_
        refine pm_R_ifc pm_M187 (t := 191) (pc' := 144) (pm_q187_1 (Nat.le_of_ble_eq_true rfl)) rfl rfl (fun c2546 => absurd (sf_pt2 B1877 sf_k0) c2546) (fun c2546 => ?_)
        refine pm_R_lo pm_M187 (pc' := 145) (pm_q187_1 (Nat.le_of_ble_eq_true rfl)) rfl rfl ?_
        refine pm_R_op pm_M187 (pc' := 146) (st' := [.int 0, .ref 41]) (pm_q187_1 (Nat.le_of_ble_eq_true rfl)) rfl rfl ?_
        refine pm_R_op pm_M187 (pc' := 148) (st' := [.int 9, .int 0, .ref 41]) (pm_q187_1 (Nat.le_of_ble_eq_true rfl)) rfl rfl ?_
        refine pm_R_op pm_M187 (pc' := 149) (st' := [.int (-1), .int 9, .int 0, .ref 41]) (pm_q187_1 (Nat.le_of_ble_eq_true rfl)) rfl rfl ?_
        refine pm_R_cv pm_M187 (pc' := 152) (a := 41) (ra := [.int (-1), .int 9, .int 0]) (rest := []) (ls' := [.ref 41, .int 0, .int 9, .int (-1)]) (pm_q187_1 (Nat.le_of_ble_eq_true rfl)) rfl (Or.inl rfl) pm_M183 T2527.2.1 rfl (by decide) (Nat.lt_of_lt_of_le (by decide) T2527.1) rfl rfl (Nat.le_of_ble_eq_true rfl) rfl rfl ?_
        obtain ⟨f2547, e2548, b2549⟩ := T2527.2.2.2.1 52 (by decide) (by decide)
        refine rf_c183_0_9 (d := d + 0) T2527  (fun m2552 w2553 h2554 T2555 F2556 W2557 X2558 => ?_) (fun m2561 w2562 h2563 T2564 F2565 W2566 X2567 X2568 X2569 X2570 X2571 => ?_) (fun m2574 w2575 h2576 T2577 F2578 W2579 X2580 X2581 X2582 B2583 B2584 => ?_)
        · have F2585 := F2532.trans F2556 (by decide)
          have W2586 : rf_W [10, 12, 13, 14, 16, 17, 18, 22] m m2552 := W2537.trans W2557 (by decide)
          have B2587 : sf_B 0 600 (m2552 10) := T2555.2.2.1 10
          have B2588 : sf_B 0 4 (m2552 17) := T2555.2.2.1 17
          have B2589 : sf_B 0 1 (m2552 22) := T2555.2.2.1 22
          show pm_R _ 187 152 [.ref 41, .long a0, pm_no, .int a1] [.int 0] _ _
          have R2590 : (m 10).toInt ≤ (m2552 10).toInt := (sf_aux70 _ _ _ R2539 X2558)
          refine pm_R_br pm_M187 (pc' := 176) (st' := []) (pm_q187_1 (Nat.le_of_ble_eq_true rfl)) rfl ?_
          refine pm_R_op pm_M187 (pc' := 177) (st' := [.int 0]) (pm_q187_1 (Nat.le_of_ble_eq_true rfl)) rfl rfl ?_
          exact pm_R_ret pm_M187 (r := some (.int 0)) (pm_q187_1 (Nat.le_of_ble_eq_true rfl)) rfl (K0 m2552 w2553 h2554 T2555 F2585 W2586 (sf_aux51 _ _ R2590))
        · have F2591 := F2532.trans F2565 (by decide)
          have W2592 : rf_W [10, 12, 13, 14, 16, 17, 18, 22] m m2561 := W2537.trans W2566 (by decide)
          have B2593 : sf_B 0 600 (m2561 10) := T2564.2.2.1 10
          have B2594 : sf_B 0 4 (m2561 17) := T2564.2.2.1 17
          have B2595 : sf_B 0 1 (m2561 22) := T2564.2.2.1 22
          show pm_R _ 187 152 [.ref 41, .long a0, pm_no, .int a1] [.int 1] _ _
          have R2596 : (m 10).toInt ≤ (m2561 10).toInt := (sf_aux70 _ _ _ R2539 X2571)
          obtain ⟨v2597, B2598, e2599⟩ := X2567 _ e2548
          refine pm_R_br pm_M187 (pc' := 155) (st' := []) (pm_q187_1 (Nat.le_of_ble_eq_true rfl)) rfl ?_
          refine pm_R_lo pm_M187 (pc' := 156) (pm_q187_1 (Nat.le_of_ble_eq_true rfl)) rfl rfl ?_
          refine pm_R_op pm_M187 (pc' := 157) (st' := [.int 1, .ref 41]) (pm_q187_1 (Nat.le_of_ble_eq_true rfl)) rfl rfl ?_
          refine pm_R_op pm_M187 (pc' := 158) (st' := [.int 5, .int 1, .ref 41]) (pm_q187_1 (Nat.le_of_ble_eq_true rfl)) rfl rfl ?_
          refine pm_R_op pm_M187 (pc' := 159) (st' := [.int (-1), .int 5, .int 1, .ref 41]) (pm_q187_1 (Nat.le_of_ble_eq_true rfl)) rfl rfl ?_
          refine pm_R_cv pm_M187 (pc' := 162) (a := 41) (ra := [.int (-1), .int 5, .int 1]) (rest := []) (ls' := [.ref 41, .int 1, .int 5, .int (-1)]) (pm_q187_1 (Nat.le_of_ble_eq_true rfl)) rfl (Or.inl rfl) pm_M183 T2564.2.1 rfl (by decide) (Nat.lt_of_lt_of_le (by decide) T2564.1) rfl rfl (Nat.le_of_ble_eq_true rfl) rfl rfl ?_
          refine rf_c183_1_5 (d := d + 0) T2564  (fun m2602 w2603 h2604 T2605 F2606 W2607 X2608 => ?_) (fun m2611 w2612 h2613 T2614 F2615 W2616 X2617 X2618 X2619 X2620 X2621 => ?_) (fun m2624 w2625 h2626 T2627 F2628 W2629 X2630 X2631 X2632 B2633 B2634 => ?_)
          · have F2635 := F2591.trans F2606 (by decide)
            have W2636 : rf_W [10, 12, 13, 14, 16, 17, 18, 22] m m2602 := W2592.trans W2607 (by decide)
            have B2637 : sf_B 0 600 (m2602 10) := T2605.2.2.1 10
            have B2638 : sf_B 0 4 (m2602 17) := T2605.2.2.1 17
            have B2639 : sf_B 0 1 (m2602 22) := T2605.2.2.1 22
            show pm_R _ 187 162 [.ref 41, .long a0, pm_no, .int a1] [.int 0] _ _
            have R2640 : (m 10).toInt ≤ (m2602 10).toInt := (sf_aux70 _ _ _ R2596 X2608)
            refine pm_R_br pm_M187 (pc' := 176) (st' := []) (pm_q187_1 (Nat.le_of_ble_eq_true rfl)) rfl ?_
            refine pm_R_op pm_M187 (pc' := 177) (st' := [.int 0]) (pm_q187_1 (Nat.le_of_ble_eq_true rfl)) rfl rfl ?_
            exact pm_R_ret pm_M187 (r := some (.int 0)) (pm_q187_1 (Nat.le_of_ble_eq_true rfl)) rfl (K0 m2602 w2603 h2604 T2605 F2635 W2636 (sf_aux51 _ _ R2640))
          · have F2641 := F2591.trans F2615 (by decide)
            have W2642 : rf_W [10, 12, 13, 14, 16, 17, 18, 22] m m2611 := W2592.trans W2616 (by decide)
            have B2643 : sf_B 0 600 (m2611 10) := T2614.2.2.1 10
            have B2644 : sf_B 0 4 (m2611 17) := T2614.2.2.1 17
            have B2645 : sf_B 0 1 (m2611 22) := T2614.2.2.1 22
            show pm_R _ 187 162 [.ref 41, .long a0, pm_no, .int a1] [.int 1] _ _
            have R2646 : (m 10).toInt ≤ (m2611 10).toInt := (sf_aux70 _ _ _ R2596 X2621)
            obtain ⟨v2647, B2648, e2649⟩ := X2617 _ e2599
            refine pm_R_br pm_M187 (pc' := 165) (st' := []) (pm_q187_1 (Nat.le_of_ble_eq_true rfl)) rfl ?_
            refine pm_R_lo pm_M187 (pc' := 166) (pm_q187_1 (Nat.le_of_ble_eq_true rfl)) rfl rfl ?_
            refine pm_R_op pm_M187 (pc' := 167) (st' := [.int 2, .ref 41]) (pm_q187_1 (Nat.le_of_ble_eq_true rfl)) rfl rfl ?_
            refine pm_R_op pm_M187 (pc' := 169) (st' := [.int 49, .int 2, .ref 41]) (pm_q187_1 (Nat.le_of_ble_eq_true rfl)) rfl rfl ?_
            refine pm_R_op pm_M187 (pc' := 170) (st' := [.int (-1), .int 49, .int 2, .ref 41]) (pm_q187_1 (Nat.le_of_ble_eq_true rfl)) rfl rfl ?_
            refine pm_R_cv pm_M187 (pc' := 173) (a := 41) (ra := [.int (-1), .int 49, .int 2]) (rest := []) (ls' := [.ref 41, .int 2, .int 49, .int (-1)]) (pm_q187_1 (Nat.le_of_ble_eq_true rfl)) rfl (Or.inl rfl) pm_M183 T2614.2.1 rfl (by decide) (Nat.lt_of_lt_of_le (by decide) T2614.1) rfl rfl (Nat.le_of_ble_eq_true rfl) rfl rfl ?_
            refine rf_c183_2_49 (d := d + 0) T2614  (fun m2652 w2653 h2654 T2655 F2656 W2657 X2658 => ?_) (fun m2661 w2662 h2663 T2664 F2665 W2666 X2667 X2668 X2669 X2670 X2671 => ?_) (fun m2674 w2675 h2676 T2677 F2678 W2679 X2680 X2681 X2682 B2683 B2684 => ?_)
            · have F2685 := F2641.trans F2656 (by decide)
              have W2686 : rf_W [10, 12, 13, 14, 16, 17, 18, 22] m m2652 := W2642.trans W2657 (by decide)
              have B2687 : sf_B 0 600 (m2652 10) := T2655.2.2.1 10
              have B2688 : sf_B 0 4 (m2652 17) := T2655.2.2.1 17
              have B2689 : sf_B 0 1 (m2652 22) := T2655.2.2.1 22
              show pm_R _ 187 173 [.ref 41, .long a0, pm_no, .int a1] [.int 0] _ _
              have R2690 : (m 10).toInt ≤ (m2652 10).toInt := (sf_aux70 _ _ _ R2646 X2658)
              refine pm_R_br pm_M187 (pc' := 176) (st' := []) (pm_q187_1 (Nat.le_of_ble_eq_true rfl)) rfl ?_
              refine pm_R_op pm_M187 (pc' := 177) (st' := [.int 0]) (pm_q187_1 (Nat.le_of_ble_eq_true rfl)) rfl rfl ?_
              exact pm_R_ret pm_M187 (r := some (.int 0)) (pm_q187_1 (Nat.le_of_ble_eq_true rfl)) rfl (K0 m2652 w2653 h2654 T2655 F2685 W2686 (sf_aux51 _ _ R2690))
            · have F2691 := F2641.trans F2665 (by decide)
              have W2692 : rf_W [10, 12, 13, 14, 16, 17, 18, 22] m m2661 := W2642.trans W2666 (by decide)
              have B2693 : sf_B 0 600 (m2661 10) := T2664.2.2.1 10
              have B2694 : sf_B 0 4 (m2661 17) := T2664.2.2.1 17
              have B2695 : sf_B 0 1 (m2661 22) := T2664.2.2.1 22
              show pm_R _ 187 173 [.ref 41, .long a0, pm_no, .int a1] [.int 1] _ _
              have R2696 : (m 10).toInt ≤ (m2661 10).toInt := (sf_aux70 _ _ _ R2646 X2671)
              obtain ⟨v2697, B2698, e2699⟩ := X2667 _ e2649
              refine pm_R_br pm_M187 (pc' := 178) (st' := []) (pm_q187_1 (Nat.le_of_ble_eq_true rfl)) rfl ?_
              refine pm_R_lo pm_M187 (pc' := 179) (pm_q187_1 (Nat.le_of_ble_eq_true rfl)) rfl rfl ?_
              refine pm_R_op pm_M187 (pc' := 180) (st' := [.int 1, .ref 41]) (pm_q187_1 (Nat.le_of_ble_eq_true rfl)) rfl rfl ?_
              refine pm_R_op pm_M187 (pc' := 182) (st' := [.int 42, .int 1, .ref 41]) (pm_q187_1 (Nat.le_of_ble_eq_true rfl)) rfl rfl ?_
              refine pm_R_op pm_M187 (pc' := 183) (st' := [.int 3, .int 42, .int 1, .ref 41]) (pm_q187_1 (Nat.le_of_ble_eq_true rfl)) rfl rfl ?_
              refine pm_R_op pm_M187 (pc' := 185) (st' := [.int 16, .int 3, .int 42, .int 1, .ref 41]) (pm_q187_1 (Nat.le_of_ble_eq_true rfl)) rfl rfl ?_
              refine pm_R_op pm_M187 (pc' := 186) (st' := [.int 0, .int 16, .int 3, .int 42, .int 1, .ref 41]) (pm_q187_1 (Nat.le_of_ble_eq_true rfl)) rfl rfl ?_
              refine pm_R_cv pm_M187 (pc' := 189) (a := 41) (ra := [.int 0, .int 16, .int 3, .int 42, .int 1]) (rest := []) (ls' := [.ref 41, .int 1, .int 42, .int 3, .int 16, .int 0, pm_no, pm_no]) (pm_q187_1 (Nat.le_of_ble_eq_true rfl)) rfl (Or.inl rfl) pm_M185 T2664.2.1 rfl (by decide) (Nat.lt_of_lt_of_le (by decide) T2664.1) rfl rfl (Nat.le_of_ble_eq_true rfl) rfl rfl ?_
              have e2700 := (F2665.cell (by decide) (F2615.cell (by decide) (F2565.cell (by decide) (F2528.cell (by decide) (F2513.cell (by decide) e3)))))
              refine rf_c185_s (d := d + 2) T2664 (⟨f2, e2700, ct4, fun z => (sf_pos (sf_eqT X2668 (sf_eqT X2618 (sf_eqT X2568 B2533))) (by decide) z)⟩) (fun z => sf_pos (sf_eqT X2668 (sf_eqT X2618 (sf_eqT X2568 B2533))) (by decide) z) (fun m2703 w2704 h2705 T2706 F2707 W2708 X2709 => ?_)
              have F2710 := F2691.trans F2707 (by decide)
              have B2711 : sf_B 0 600 (m2703 10) := by rw [W2708 10 (by decide)]; exact B2693
              have ek2712 : (m2703 10).toInt = ((m2661 10)).toInt := by rw [W2708 10 (by decide)]
              have B2713 : sf_B 1 4 (m2703 17) := by rw [W2708 17 (by decide)]; exact (sf_eqT X2668 (sf_eqT X2618 (sf_eqT X2568 B2533)))
              have ek2714 : (m2703 17).toInt = ((m2611 17)).toInt := by rw [W2708 17 (by decide)]; exact X2668
              have B2715 : sf_B 0 1 (m2703 22) := by rw [W2708 22 (by decide)]; exact (sf_eqT X2669 (sf_eqT X2619 (sf_eqT X2569 B2535)))
              have ek2716 : (m2703 22).toInt = ((m2611 22)).toInt := by rw [W2708 22 (by decide)]; exact X2669
              have W2717 : rf_W [10, 12, 13, 14, 16, 17, 18, 22] m m2703 := W2692.trans W2708 (by decide)
              show pm_R _ 187 189 [.ref 41, .long a0, pm_no, .int a1] [] _ _
              obtain ⟨f2718, e2719, ct2720, bd2721⟩ := X2709
              refine pm_R_op pm_M187 (pc' := 190) (st' := [.int 1]) (pm_q187_1 (Nat.le_of_ble_eq_true rfl)) rfl rfl ?_
              exact pm_R_ret pm_M187 (r := some (.int 1)) (pm_q187_1 (Nat.le_of_ble_eq_true rfl)) rfl (K1 m2703 w2704 h2705 T2706 F2710 W2717 (⟨f2718, e2719, ct2720, fun z => (sf_pos B2713 (by decide) z)⟩) (sf_aux39 _ _ _ ek2712 R2696))
            · have F2722 := F2641.trans F2678 (by decide)
              have W2723 : rf_W [10, 12, 13, 14, 16, 17, 18, 22] m m2674 := W2642.trans W2679 (by decide)
              have B2724 : sf_B 0 600 (m2674 10) := T2677.2.2.1 10
              have B2725 : sf_B 0 4 (m2674 17) := T2677.2.2.1 17
              have B2726 : sf_B 0 1 (m2674 22) := T2677.2.2.1 22
              show pm_R _ 187 173 [.ref 41, .long a0, pm_no, .int a1] [.int 1] _ _
              have R2727 : (m 10).toInt ≤ (m2674 10).toInt := (sf_aux70 _ _ _ R2646 X2682)
              obtain ⟨v2728, B2729, e2730⟩ := X2680 _ e2649
              refine pm_R_br pm_M187 (pc' := 178) (st' := []) (pm_q187_1 (Nat.le_of_ble_eq_true rfl)) rfl ?_
              refine pm_R_lo pm_M187 (pc' := 179) (pm_q187_1 (Nat.le_of_ble_eq_true rfl)) rfl rfl ?_
              refine pm_R_op pm_M187 (pc' := 180) (st' := [.int 1, .ref 41]) (pm_q187_1 (Nat.le_of_ble_eq_true rfl)) rfl rfl ?_
              refine pm_R_op pm_M187 (pc' := 182) (st' := [.int 42, .int 1, .ref 41]) (pm_q187_1 (Nat.le_of_ble_eq_true rfl)) rfl rfl ?_
              refine pm_R_op pm_M187 (pc' := 183) (st' := [.int 3, .int 42, .int 1, .ref 41]) (pm_q187_1 (Nat.le_of_ble_eq_true rfl)) rfl rfl ?_
              refine pm_R_op pm_M187 (pc' := 185) (st' := [.int 16, .int 3, .int 42, .int 1, .ref 41]) (pm_q187_1 (Nat.le_of_ble_eq_true rfl)) rfl rfl ?_
              refine pm_R_op pm_M187 (pc' := 186) (st' := [.int 0, .int 16, .int 3, .int 42, .int 1, .ref 41]) (pm_q187_1 (Nat.le_of_ble_eq_true rfl)) rfl rfl ?_
              refine pm_R_cv pm_M187 (pc' := 189) (a := 41) (ra := [.int 0, .int 16, .int 3, .int 42, .int 1]) (rest := []) (ls' := [.ref 41, .int 1, .int 42, .int 3, .int 16, .int 0, pm_no, pm_no]) (pm_q187_1 (Nat.le_of_ble_eq_true rfl)) rfl (Or.inl rfl) pm_M185 T2677.2.1 rfl (by decide) (Nat.lt_of_lt_of_le (by decide) T2677.1) rfl rfl (Nat.le_of_ble_eq_true rfl) rfl rfl ?_
              have e2731 := (F2678.cell (by decide) (F2615.cell (by decide) (F2565.cell (by decide) (F2528.cell (by decide) (F2513.cell (by decide) e3)))))
              refine rf_c185_s (d := d + 2) T2677 (⟨f2, e2731, ct4, fun z => (sf_pos B2683 (by decide) z)⟩) (fun z => sf_pos B2683 (by decide) z) (fun m2734 w2735 h2736 T2737 F2738 W2739 X2740 => ?_)
              have F2741 := F2722.trans F2738 (by decide)
              have B2742 : sf_B 0 600 (m2734 10) := by rw [W2739 10 (by decide)]; exact B2724
              have ek2743 : (m2734 10).toInt = ((m2674 10)).toInt := by rw [W2739 10 (by decide)]
              have B2744 : sf_B 1 4 (m2734 17) := by rw [W2739 17 (by decide)]; exact B2683
              have ek2745 : (m2734 17).toInt = ((m2674 17)).toInt := by rw [W2739 17 (by decide)]
              have B2746 : sf_B 0 0 (m2734 22) := by rw [W2739 22 (by decide)]; exact B2684
              have ek2747 : (m2734 22).toInt = ((m2674 22)).toInt := by rw [W2739 22 (by decide)]
              have W2748 : rf_W [10, 12, 13, 14, 16, 17, 18, 22] m m2734 := W2723.trans W2739 (by decide)
              show pm_R _ 187 189 [.ref 41, .long a0, pm_no, .int a1] [] _ _
              obtain ⟨f2749, e2750, ct2751, bd2752⟩ := X2740
              refine pm_R_op pm_M187 (pc' := 190) (st' := [.int 1]) (pm_q187_1 (Nat.le_of_ble_eq_true rfl)) rfl rfl ?_
              exact pm_R_ret pm_M187 (r := some (.int 1)) (pm_q187_1 (Nat.le_of_ble_eq_true rfl)) rfl (K1 m2734 w2735 h2736 T2737 F2741 W2748 (⟨f2749, e2750, ct2751, fun z => (sf_pos B2744 (by decide) z)⟩) (sf_aux39 _ _ _ ek2743 R2727))
          · have F2753 := F2591.trans F2628 (by decide)
            have W2754 : rf_W [10, 12, 13, 14, 16, 17, 18, 22] m m2624 := W2592.trans W2629 (by decide)
            have B2755 : sf_B 0 600 (m2624 10) := T2627.2.2.1 10
            have B2756 : sf_B 0 4 (m2624 17) := T2627.2.2.1 17
            have B2757 : sf_B 0 1 (m2624 22) := T2627.2.2.1 22
            show pm_R _ 187 162 [.ref 41, .long a0, pm_no, .int a1] [.int 1] _ _
            have R2758 : (m 10).toInt ≤ (m2624 10).toInt := (sf_aux70 _ _ _ R2596 X2632)
            obtain ⟨v2759, B2760, e2761⟩ := X2630 _ e2599
            refine pm_R_br pm_M187 (pc' := 165) (st' := []) (pm_q187_1 (Nat.le_of_ble_eq_true rfl)) rfl ?_
            refine pm_R_lo pm_M187 (pc' := 166) (pm_q187_1 (Nat.le_of_ble_eq_true rfl)) rfl rfl ?_
            refine pm_R_op pm_M187 (pc' := 167) (st' := [.int 2, .ref 41]) (pm_q187_1 (Nat.le_of_ble_eq_true rfl)) rfl rfl ?_
            refine pm_R_op pm_M187 (pc' := 169) (st' := [.int 49, .int 2, .ref 41]) (pm_q187_1 (Nat.le_of_ble_eq_true rfl)) rfl rfl ?_
            refine pm_R_op pm_M187 (pc' := 170) (st' := [.int (-1), .int 49, .int 2, .ref 41]) (pm_q187_1 (Nat.le_of_ble_eq_true rfl)) rfl rfl ?_
            refine pm_R_cv pm_M187 (pc' := 173) (a := 41) (ra := [.int (-1), .int 49, .int 2]) (rest := []) (ls' := [.ref 41, .int 2, .int 49, .int (-1)]) (pm_q187_1 (Nat.le_of_ble_eq_true rfl)) rfl (Or.inl rfl) pm_M183 T2627.2.1 rfl (by decide) (Nat.lt_of_lt_of_le (by decide) T2627.1) rfl rfl (Nat.le_of_ble_eq_true rfl) rfl rfl ?_
            refine rf_c183_2_49 (d := d + 0) T2627  (fun m2764 w2765 h2766 T2767 F2768 W2769 X2770 => ?_) (fun m2773 w2774 h2775 T2776 F2777 W2778 X2779 X2780 X2781 X2782 X2783 => ?_) (fun m2786 w2787 h2788 T2789 F2790 W2791 X2792 X2793 X2794 B2795 B2796 => ?_)
            · have F2797 := F2753.trans F2768 (by decide)
              have W2798 : rf_W [10, 12, 13, 14, 16, 17, 18, 22] m m2764 := W2754.trans W2769 (by decide)
              have B2799 : sf_B 0 600 (m2764 10) := T2767.2.2.1 10
              have B2800 : sf_B 0 4 (m2764 17) := T2767.2.2.1 17
              have B2801 : sf_B 0 1 (m2764 22) := T2767.2.2.1 22
              show pm_R _ 187 173 [.ref 41, .long a0, pm_no, .int a1] [.int 0] _ _
              have R2802 : (m 10).toInt ≤ (m2764 10).toInt := (sf_aux70 _ _ _ R2758 X2770)
              refine pm_R_br pm_M187 (pc' := 176) (st' := []) (pm_q187_1 (Nat.le_of_ble_eq_true rfl)) rfl ?_
              refine pm_R_op pm_M187 (pc' := 177) (st' := [.int 0]) (pm_q187_1 (Nat.le_of_ble_eq_true rfl)) rfl rfl ?_
              exact pm_R_ret pm_M187 (r := some (.int 0)) (pm_q187_1 (Nat.le_of_ble_eq_true rfl)) rfl (K0 m2764 w2765 h2766 T2767 F2797 W2798 (sf_aux51 _ _ R2802))
            · have F2803 := F2753.trans F2777 (by decide)
              have W2804 : rf_W [10, 12, 13, 14, 16, 17, 18, 22] m m2773 := W2754.trans W2778 (by decide)
              have B2805 : sf_B 0 600 (m2773 10) := T2776.2.2.1 10
              have B2806 : sf_B 0 4 (m2773 17) := T2776.2.2.1 17
              have B2807 : sf_B 0 1 (m2773 22) := T2776.2.2.1 22
              show pm_R _ 187 173 [.ref 41, .long a0, pm_no, .int a1] [.int 1] _ _
              have R2808 : (m 10).toInt ≤ (m2773 10).toInt := (sf_aux70 _ _ _ R2758 X2783)
              obtain ⟨v2809, B2810, e2811⟩ := X2779 _ e2761
              refine pm_R_br pm_M187 (pc' := 178) (st' := []) (pm_q187_1 (Nat.le_of_ble_eq_true rfl)) rfl ?_
              refine pm_R_lo pm_M187 (pc' := 179) (pm_q187_1 (Nat.le_of_ble_eq_true rfl)) rfl rfl ?_
              refine pm_R_op pm_M187 (pc' := 180) (st' := [.int 1, .ref 41]) (pm_q187_1 (Nat.le_of_ble_eq_true rfl)) rfl rfl ?_
              refine pm_R_op pm_M187 (pc' := 182) (st' := [.int 42, .int 1, .ref 41]) (pm_q187_1 (Nat.le_of_ble_eq_true rfl)) rfl rfl ?_
              refine pm_R_op pm_M187 (pc' := 183) (st' := [.int 3, .int 42, .int 1, .ref 41]) (pm_q187_1 (Nat.le_of_ble_eq_true rfl)) rfl rfl ?_
              refine pm_R_op pm_M187 (pc' := 185) (st' := [.int 16, .int 3, .int 42, .int 1, .ref 41]) (pm_q187_1 (Nat.le_of_ble_eq_true rfl)) rfl rfl ?_
              refine pm_R_op pm_M187 (pc' := 186) (st' := [.int 0, .int 16, .int 3, .int 42, .int 1, .ref 41]) (pm_q187_1 (Nat.le_of_ble_eq_true rfl)) rfl rfl ?_
              refine pm_R_cv pm_M187 (pc' := 189) (a := 41) (ra := [.int 0, .int 16, .int 3, .int 42, .int 1]) (rest := []) (ls' := [.ref 41, .int 1, .int 42, .int 3, .int 16, .int 0, pm_no, pm_no]) (pm_q187_1 (Nat.le_of_ble_eq_true rfl)) rfl (Or.inl rfl) pm_M185 T2776.2.1 rfl (by decide) (Nat.lt_of_lt_of_le (by decide) T2776.1) rfl rfl (Nat.le_of_ble_eq_true rfl) rfl rfl ?_
              have e2812 := (F2777.cell (by decide) (F2628.cell (by decide) (F2565.cell (by decide) (F2528.cell (by decide) (F2513.cell (by decide) e3)))))
              refine rf_c185_s (d := d + 2) T2776 (⟨f2, e2812, ct4, fun z => (sf_pos (sf_eqT X2780 B2633) (by decide) z)⟩) (fun z => sf_pos (sf_eqT X2780 B2633) (by decide) z) (fun m2815 w2816 h2817 T2818 F2819 W2820 X2821 => ?_)
              have F2822 := F2803.trans F2819 (by decide)
              have B2823 : sf_B 0 600 (m2815 10) := by rw [W2820 10 (by decide)]; exact B2805
              have ek2824 : (m2815 10).toInt = ((m2773 10)).toInt := by rw [W2820 10 (by decide)]
              have B2825 : sf_B 1 4 (m2815 17) := by rw [W2820 17 (by decide)]; exact (sf_eqT X2780 B2633)
              have ek2826 : (m2815 17).toInt = ((m2624 17)).toInt := by rw [W2820 17 (by decide)]; exact X2780
              have B2827 : sf_B 0 0 (m2815 22) := by rw [W2820 22 (by decide)]; exact (sf_eqT X2781 B2634)
              have ek2828 : (m2815 22).toInt = ((m2624 22)).toInt := by rw [W2820 22 (by decide)]; exact X2781
              have W2829 : rf_W [10, 12, 13, 14, 16, 17, 18, 22] m m2815 := W2804.trans W2820 (by decide)
              show pm_R _ 187 189 [.ref 41, .long a0, pm_no, .int a1] [] _ _
              obtain ⟨f2830, e2831, ct2832, bd2833⟩ := X2821
              refine pm_R_op pm_M187 (pc' := 190) (st' := [.int 1]) (pm_q187_1 (Nat.le_of_ble_eq_true rfl)) rfl rfl ?_
              exact pm_R_ret pm_M187 (r := some (.int 1)) (pm_q187_1 (Nat.le_of_ble_eq_true rfl)) rfl (K1 m2815 w2816 h2817 T2818 F2822 W2829 (⟨f2830, e2831, ct2832, fun z => (sf_pos B2825 (by decide) z)⟩) (sf_aux39 _ _ _ ek2824 R2808))
            · have F2834 := F2753.trans F2790 (by decide)
              have W2835 : rf_W [10, 12, 13, 14, 16, 17, 18, 22] m m2786 := W2754.trans W2791 (by decide)
              have B2836 : sf_B 0 600 (m2786 10) := T2789.2.2.1 10
              have B2837 : sf_B 0 4 (m2786 17) := T2789.2.2.1 17
              have B2838 : sf_B 0 1 (m2786 22) := T2789.2.2.1 22
              show pm_R _ 187 173 [.ref 41, .long a0, pm_no, .int a1] [.int 1] _ _
              have R2839 : (m 10).toInt ≤ (m2786 10).toInt := (sf_aux70 _ _ _ R2758 X2794)
              obtain ⟨v2840, B2841, e2842⟩ := X2792 _ e2761
              refine pm_R_br pm_M187 (pc' := 178) (st' := []) (pm_q187_1 (Nat.le_of_ble_eq_true rfl)) rfl ?_
              refine pm_R_lo pm_M187 (pc' := 179) (pm_q187_1 (Nat.le_of_ble_eq_true rfl)) rfl rfl ?_
              refine pm_R_op pm_M187 (pc' := 180) (st' := [.int 1, .ref 41]) (pm_q187_1 (Nat.le_of_ble_eq_true rfl)) rfl rfl ?_
              refine pm_R_op pm_M187 (pc' := 182) (st' := [.int 42, .int 1, .ref 41]) (pm_q187_1 (Nat.le_of_ble_eq_true rfl)) rfl rfl ?_
              refine pm_R_op pm_M187 (pc' := 183) (st' := [.int 3, .int 42, .int 1, .ref 41]) (pm_q187_1 (Nat.le_of_ble_eq_true rfl)) rfl rfl ?_
              refine pm_R_op pm_M187 (pc' := 185) (st' := [.int 16, .int 3, .int 42, .int 1, .ref 41]) (pm_q187_1 (Nat.le_of_ble_eq_true rfl)) rfl rfl ?_
              refine pm_R_op pm_M187 (pc' := 186) (st' := [.int 0, .int 16, .int 3, .int 42, .int 1, .ref 41]) (pm_q187_1 (Nat.le_of_ble_eq_true rfl)) rfl rfl ?_
              refine pm_R_cv pm_M187 (pc' := 189) (a := 41) (ra := [.int 0, .int 16, .int 3, .int 42, .int 1]) (rest := []) (ls' := [.ref 41, .int 1, .int 42, .int 3, .int 16, .int 0, pm_no, pm_no]) (pm_q187_1 (Nat.le_of_ble_eq_true rfl)) rfl (Or.inl rfl) pm_M185 T2789.2.1 rfl (by decide) (Nat.lt_of_lt_of_le (by decide) T2789.1) rfl rfl (Nat.le_of_ble_eq_true rfl) rfl rfl ?_
              have e2843 := (F2790.cell (by decide) (F2628.cell (by decide) (F2565.cell (by decide) (F2528.cell (by decide) (F2513.cell (by decide) e3)))))
              refine rf_c185_s (d := d + 2) T2789 (⟨f2, e2843, ct4, fun z => (sf_pos B2795 (by decide) z)⟩) (fun z => sf_pos B2795 (by decide) z) (fun m2846 w2847 h2848 T2849 F2850 W2851 X2852 => ?_)
              have F2853 := F2834.trans F2850 (by decide)
              have B2854 : sf_B 0 600 (m2846 10) := by rw [W2851 10 (by decide)]; exact B2836
              have ek2855 : (m2846 10).toInt = ((m2786 10)).toInt := by rw [W2851 10 (by decide)]
              have B2856 : sf_B 1 4 (m2846 17) := by rw [W2851 17 (by decide)]; exact B2795
              have ek2857 : (m2846 17).toInt = ((m2786 17)).toInt := by rw [W2851 17 (by decide)]
              have B2858 : sf_B 0 0 (m2846 22) := by rw [W2851 22 (by decide)]; exact B2796
              have ek2859 : (m2846 22).toInt = ((m2786 22)).toInt := by rw [W2851 22 (by decide)]
              have W2860 : rf_W [10, 12, 13, 14, 16, 17, 18, 22] m m2846 := W2835.trans W2851 (by decide)
              show pm_R _ 187 189 [.ref 41, .long a0, pm_no, .int a1] [] _ _
              obtain ⟨f2861, e2862, ct2863, bd2864⟩ := X2852
              refine pm_R_op pm_M187 (pc' := 190) (st' := [.int 1]) (pm_q187_1 (Nat.le_of_ble_eq_true rfl)) rfl rfl ?_
              exact pm_R_ret pm_M187 (r := some (.int 1)) (pm_q187_1 (Nat.le_of_ble_eq_true rfl)) rfl (K1 m2846 w2847 h2848 T2849 F2853 W2860 (⟨f2861, e2862, ct2863, fun z => (sf_pos B2856 (by decide) z)⟩) (sf_aux39 _ _ _ ek2855 R2839))
        · have F2865 := F2532.trans F2578 (by decide)
          have W2866 : rf_W [10, 12, 13, 14, 16, 17, 18, 22] m m2574 := W2537.trans W2579 (by decide)
          have B2867 : sf_B 0 600 (m2574 10) := T2577.2.2.1 10
          have B2868 : sf_B 0 4 (m2574 17) := T2577.2.2.1 17
          have B2869 : sf_B 0 1 (m2574 22) := T2577.2.2.1 22
          show pm_R _ 187 152 [.ref 41, .long a0, pm_no, .int a1] [.int 1] _ _
          have R2870 : (m 10).toInt ≤ (m2574 10).toInt := (sf_aux70 _ _ _ R2539 X2582)
          obtain ⟨v2871, B2872, e2873⟩ := X2580 _ e2548
          refine pm_R_br pm_M187 (pc' := 155) (st' := []) (pm_q187_1 (Nat.le_of_ble_eq_true rfl)) rfl ?_
          refine pm_R_lo pm_M187 (pc' := 156) (pm_q187_1 (Nat.le_of_ble_eq_true rfl)) rfl rfl ?_
          refine pm_R_op pm_M187 (pc' := 157) (st' := [.int 1, .ref 41]) (pm_q187_1 (Nat.le_of_ble_eq_true rfl)) rfl rfl ?_
          refine pm_R_op pm_M187 (pc' := 158) (st' := [.int 5, .int 1, .ref 41]) (pm_q187_1 (Nat.le_of_ble_eq_true rfl)) rfl rfl ?_
          refine pm_R_op pm_M187 (pc' := 159) (st' := [.int (-1), .int 5, .int 1, .ref 41]) (pm_q187_1 (Nat.le_of_ble_eq_true rfl)) rfl rfl ?_
          refine pm_R_cv pm_M187 (pc' := 162) (a := 41) (ra := [.int (-1), .int 5, .int 1]) (rest := []) (ls' := [.ref 41, .int 1, .int 5, .int (-1)]) (pm_q187_1 (Nat.le_of_ble_eq_true rfl)) rfl (Or.inl rfl) pm_M183 T2577.2.1 rfl (by decide) (Nat.lt_of_lt_of_le (by decide) T2577.1) rfl rfl (Nat.le_of_ble_eq_true rfl) rfl rfl ?_
          refine rf_c183_1_5 (d := d + 0) T2577  (fun m2876 w2877 h2878 T2879 F2880 W2881 X2882 => ?_) (fun m2885 w2886 h2887 T2888 F2889 W2890 X2891 X2892 X2893 X2894 X2895 => ?_) (fun m2898 w2899 h2900 T2901 F2902 W2903 X2904 X2905 X2906 B2907 B2908 => ?_)
          · have F2909 := F2865.trans F2880 (by decide)
            have W2910 : rf_W [10, 12, 13, 14, 16, 17, 18, 22] m m2876 := W2866.trans W2881 (by decide)
            have B2911 : sf_B 0 600 (m2876 10) := T2879.2.2.1 10
            have B2912 : sf_B 0 4 (m2876 17) := T2879.2.2.1 17
            have B2913 : sf_B 0 1 (m2876 22) := T2879.2.2.1 22
            show pm_R _ 187 162 [.ref 41, .long a0, pm_no, .int a1] [.int 0] _ _
            have R2914 : (m 10).toInt ≤ (m2876 10).toInt := (sf_aux70 _ _ _ R2870 X2882)
            refine pm_R_br pm_M187 (pc' := 176) (st' := []) (pm_q187_1 (Nat.le_of_ble_eq_true rfl)) rfl ?_
            refine pm_R_op pm_M187 (pc' := 177) (st' := [.int 0]) (pm_q187_1 (Nat.le_of_ble_eq_true rfl)) rfl rfl ?_
            exact pm_R_ret pm_M187 (r := some (.int 0)) (pm_q187_1 (Nat.le_of_ble_eq_true rfl)) rfl (K0 m2876 w2877 h2878 T2879 F2909 W2910 (sf_aux51 _ _ R2914))
          · have F2915 := F2865.trans F2889 (by decide)
            have W2916 : rf_W [10, 12, 13, 14, 16, 17, 18, 22] m m2885 := W2866.trans W2890 (by decide)
            have B2917 : sf_B 0 600 (m2885 10) := T2888.2.2.1 10
            have B2918 : sf_B 0 4 (m2885 17) := T2888.2.2.1 17
            have B2919 : sf_B 0 1 (m2885 22) := T2888.2.2.1 22
            show pm_R _ 187 162 [.ref 41, .long a0, pm_no, .int a1] [.int 1] _ _
            have R2920 : (m 10).toInt ≤ (m2885 10).toInt := (sf_aux70 _ _ _ R2870 X2895)
            obtain ⟨v2921, B2922, e2923⟩ := X2891 _ e2873
            refine pm_R_br pm_M187 (pc' := 165) (st' := []) (pm_q187_1 (Nat.le_of_ble_eq_true rfl)) rfl ?_
            refine pm_R_lo pm_M187 (pc' := 166) (pm_q187_1 (Nat.le_of_ble_eq_true rfl)) rfl rfl ?_
            refine pm_R_op pm_M187 (pc' := 167) (st' := [.int 2, .ref 41]) (pm_q187_1 (Nat.le_of_ble_eq_true rfl)) rfl rfl ?_
            refine pm_R_op pm_M187 (pc' := 169) (st' := [.int 49, .int 2, .ref 41]) (pm_q187_1 (Nat.le_of_ble_eq_true rfl)) rfl rfl ?_
            refine pm_R_op pm_M187 (pc' := 170) (st' := [.int (-1), .int 49, .int 2, .ref 41]) (pm_q187_1 (Nat.le_of_ble_eq_true rfl)) rfl rfl ?_
            refine pm_R_cv pm_M187 (pc' := 173) (a := 41) (ra := [.int (-1), .int 49, .int 2]) (rest := []) (ls' := [.ref 41, .int 2, .int 49, .int (-1)]) (pm_q187_1 (Nat.le_of_ble_eq_true rfl)) rfl (Or.inl rfl) pm_M183 T2888.2.1 rfl (by decide) (Nat.lt_of_lt_of_le (by decide) T2888.1) rfl rfl (Nat.le_of_ble_eq_true rfl) rfl rfl ?_
            refine rf_c183_2_49 (d := d + 0) T2888  (fun m2926 w2927 h2928 T2929 F2930 W2931 X2932 => ?_) (fun m2935 w2936 h2937 T2938 F2939 W2940 X2941 X2942 X2943 X2944 X2945 => ?_) (fun m2948 w2949 h2950 T2951 F2952 W2953 X2954 X2955 X2956 B2957 B2958 => ?_)
            · have F2959 := F2915.trans F2930 (by decide)
              have W2960 : rf_W [10, 12, 13, 14, 16, 17, 18, 22] m m2926 := W2916.trans W2931 (by decide)
              have B2961 : sf_B 0 600 (m2926 10) := T2929.2.2.1 10
              have B2962 : sf_B 0 4 (m2926 17) := T2929.2.2.1 17
              have B2963 : sf_B 0 1 (m2926 22) := T2929.2.2.1 22
              show pm_R _ 187 173 [.ref 41, .long a0, pm_no, .int a1] [.int 0] _ _
              have R2964 : (m 10).toInt ≤ (m2926 10).toInt := (sf_aux70 _ _ _ R2920 X2932)
              refine pm_R_br pm_M187 (pc' := 176) (st' := []) (pm_q187_1 (Nat.le_of_ble_eq_true rfl)) rfl ?_
              refine pm_R_op pm_M187 (pc' := 177) (st' := [.int 0]) (pm_q187_1 (Nat.le_of_ble_eq_true rfl)) rfl rfl ?_
              exact pm_R_ret pm_M187 (r := some (.int 0)) (pm_q187_1 (Nat.le_of_ble_eq_true rfl)) rfl (K0 m2926 w2927 h2928 T2929 F2959 W2960 (sf_aux51 _ _ R2964))
            · have F2965 := F2915.trans F2939 (by decide)
              have W2966 : rf_W [10, 12, 13, 14, 16, 17, 18, 22] m m2935 := W2916.trans W2940 (by decide)
              have B2967 : sf_B 0 600 (m2935 10) := T2938.2.2.1 10
              have B2968 : sf_B 0 4 (m2935 17) := T2938.2.2.1 17
              have B2969 : sf_B 0 1 (m2935 22) := T2938.2.2.1 22
              show pm_R _ 187 173 [.ref 41, .long a0, pm_no, .int a1] [.int 1] _ _
              have R2970 : (m 10).toInt ≤ (m2935 10).toInt := (sf_aux70 _ _ _ R2920 X2945)
              obtain ⟨v2971, B2972, e2973⟩ := X2941 _ e2923
              refine pm_R_br pm_M187 (pc' := 178) (st' := []) (pm_q187_1 (Nat.le_of_ble_eq_true rfl)) rfl ?_
              refine pm_R_lo pm_M187 (pc' := 179) (pm_q187_1 (Nat.le_of_ble_eq_true rfl)) rfl rfl ?_
              refine pm_R_op pm_M187 (pc' := 180) (st' := [.int 1, .ref 41]) (pm_q187_1 (Nat.le_of_ble_eq_true rfl)) rfl rfl ?_
              refine pm_R_op pm_M187 (pc' := 182) (st' := [.int 42, .int 1, .ref 41]) (pm_q187_1 (Nat.le_of_ble_eq_true rfl)) rfl rfl ?_
              refine pm_R_op pm_M187 (pc' := 183) (st' := [.int 3, .int 42, .int 1, .ref 41]) (pm_q187_1 (Nat.le_of_ble_eq_true rfl)) rfl rfl ?_
              refine pm_R_op pm_M187 (pc' := 185) (st' := [.int 16, .int 3, .int 42, .int 1, .ref 41]) (pm_q187_1 (Nat.le_of_ble_eq_true rfl)) rfl rfl ?_
              refine pm_R_op pm_M187 (pc' := 186) (st' := [.int 0, .int 16, .int 3, .int 42, .int 1, .ref 41]) (pm_q187_1 (Nat.le_of_ble_eq_true rfl)) rfl rfl ?_
              refine pm_R_cv pm_M187 (pc' := 189) (a := 41) (ra := [.int 0, .int 16, .int 3, .int 42, .int 1]) (rest := []) (ls' := [.ref 41, .int 1, .int 42, .int 3, .int 16, .int 0, pm_no, pm_no]) (pm_q187_1 (Nat.le_of_ble_eq_true rfl)) rfl (Or.inl rfl) pm_M185 T2938.2.1 rfl (by decide) (Nat.lt_of_lt_of_le (by decide) T2938.1) rfl rfl (Nat.le_of_ble_eq_true rfl) rfl rfl ?_
              have e2974 := (F2939.cell (by decide) (F2889.cell (by decide) (F2578.cell (by decide) (F2528.cell (by decide) (F2513.cell (by decide) e3)))))
              refine rf_c185_s (d := d + 2) T2938 (⟨f2, e2974, ct4, fun z => (sf_pos (sf_eqT X2942 (sf_eqT X2892 B2583)) (by decide) z)⟩) (fun z => sf_pos (sf_eqT X2942 (sf_eqT X2892 B2583)) (by decide) z) (fun m2977 w2978 h2979 T2980 F2981 W2982 X2983 => ?_)
              have F2984 := F2965.trans F2981 (by decide)
              have B2985 : sf_B 0 600 (m2977 10) := by rw [W2982 10 (by decide)]; exact B2967
              have ek2986 : (m2977 10).toInt = ((m2935 10)).toInt := by rw [W2982 10 (by decide)]
              have B2987 : sf_B 1 4 (m2977 17) := by rw [W2982 17 (by decide)]; exact (sf_eqT X2942 (sf_eqT X2892 B2583))
              have ek2988 : (m2977 17).toInt = ((m2885 17)).toInt := by rw [W2982 17 (by decide)]; exact X2942
              have B2989 : sf_B 0 0 (m2977 22) := by rw [W2982 22 (by decide)]; exact (sf_eqT X2943 (sf_eqT X2893 B2584))
              have ek2990 : (m2977 22).toInt = ((m2885 22)).toInt := by rw [W2982 22 (by decide)]; exact X2943
              have W2991 : rf_W [10, 12, 13, 14, 16, 17, 18, 22] m m2977 := W2966.trans W2982 (by decide)
              show pm_R _ 187 189 [.ref 41, .long a0, pm_no, .int a1] [] _ _
              obtain ⟨f2992, e2993, ct2994, bd2995⟩ := X2983
              refine pm_R_op pm_M187 (pc' := 190) (st' := [.int 1]) (pm_q187_1 (Nat.le_of_ble_eq_true rfl)) rfl rfl ?_
              exact pm_R_ret pm_M187 (r := some (.int 1)) (pm_q187_1 (Nat.le_of_ble_eq_true rfl)) rfl (K1 m2977 w2978 h2979 T2980 F2984 W2991 (⟨f2992, e2993, ct2994, fun z => (sf_pos B2987 (by decide) z)⟩) (sf_aux39 _ _ _ ek2986 R2970))
            · have F2996 := F2915.trans F2952 (by decide)
              have W2997 : rf_W [10, 12, 13, 14, 16, 17, 18, 22] m m2948 := W2916.trans W2953 (by decide)
              have B2998 : sf_B 0 600 (m2948 10) := T2951.2.2.1 10
              have B2999 : sf_B 0 4 (m2948 17) := T2951.2.2.1 17
              have B3000 : sf_B 0 1 (m2948 22) := T2951.2.2.1 22
              show pm_R _ 187 173 [.ref 41, .long a0, pm_no, .int a1] [.int 1] _ _
              have R3001 : (m 10).toInt ≤ (m2948 10).toInt := (sf_aux70 _ _ _ R2920 X2956)
              obtain ⟨v3002, B3003, e3004⟩ := X2954 _ e2923
              refine pm_R_br pm_M187 (pc' := 178) (st' := []) (pm_q187_1 (Nat.le_of_ble_eq_true rfl)) rfl ?_
              refine pm_R_lo pm_M187 (pc' := 179) (pm_q187_1 (Nat.le_of_ble_eq_true rfl)) rfl rfl ?_
              refine pm_R_op pm_M187 (pc' := 180) (st' := [.int 1, .ref 41]) (pm_q187_1 (Nat.le_of_ble_eq_true rfl)) rfl rfl ?_
              refine pm_R_op pm_M187 (pc' := 182) (st' := [.int 42, .int 1, .ref 41]) (pm_q187_1 (Nat.le_of_ble_eq_true rfl)) rfl rfl ?_
              refine pm_R_op pm_M187 (pc' := 183) (st' := [.int 3, .int 42, .int 1, .ref 41]) (pm_q187_1 (Nat.le_of_ble_eq_true rfl)) rfl rfl ?_
              refine pm_R_op pm_M187 (pc' := 185) (st' := [.int 16, .int 3, .int 42, .int 1, .ref 41]) (pm_q187_1 (Nat.le_of_ble_eq_true rfl)) rfl rfl ?_
              refine pm_R_op pm_M187 (pc' := 186) (st' := [.int 0, .int 16, .int 3, .int 42, .int 1, .ref 41]) (pm_q187_1 (Nat.le_of_ble_eq_true rfl)) rfl rfl ?_
              refine pm_R_cv pm_M187 (pc' := 189) (a := 41) (ra := [.int 0, .int 16, .int 3, .int 42, .int 1]) (rest := []) (ls' := [.ref 41, .int 1, .int 42, .int 3, .int 16, .int 0, pm_no, pm_no]) (pm_q187_1 (Nat.le_of_ble_eq_true rfl)) rfl (Or.inl rfl) pm_M185 T2951.2.1 rfl (by decide) (Nat.lt_of_lt_of_le (by decide) T2951.1) rfl rfl (Nat.le_of_ble_eq_true rfl) rfl rfl ?_
              have e3005 := (F2952.cell (by decide) (F2889.cell (by decide) (F2578.cell (by decide) (F2528.cell (by decide) (F2513.cell (by decide) e3)))))
              refine rf_c185_s (d := d + 2) T2951 (⟨f2, e3005, ct4, fun z => (sf_pos B2957 (by decide) z)⟩) (fun z => sf_pos B2957 (by decide) z) (fun m3008 w3009 h3010 T3011 F3012 W3013 X3014 => ?_)
              have F3015 := F2996.trans F3012 (by decide)
              have B3016 : sf_B 0 600 (m3008 10) := by rw [W3013 10 (by decide)]; exact B2998
              have ek3017 : (m3008 10).toInt = ((m2948 10)).toInt := by rw [W3013 10 (by decide)]
              have B3018 : sf_B 1 4 (m3008 17) := by rw [W3013 17 (by decide)]; exact B2957
              have ek3019 : (m3008 17).toInt = ((m2948 17)).toInt := by rw [W3013 17 (by decide)]
              have B3020 : sf_B 0 0 (m3008 22) := by rw [W3013 22 (by decide)]; exact B2958
              have ek3021 : (m3008 22).toInt = ((m2948 22)).toInt := by rw [W3013 22 (by decide)]
              have W3022 : rf_W [10, 12, 13, 14, 16, 17, 18, 22] m m3008 := W2997.trans W3013 (by decide)
              show pm_R _ 187 189 [.ref 41, .long a0, pm_no, .int a1] [] _ _
              obtain ⟨f3023, e3024, ct3025, bd3026⟩ := X3014
              refine pm_R_op pm_M187 (pc' := 190) (st' := [.int 1]) (pm_q187_1 (Nat.le_of_ble_eq_true rfl)) rfl rfl ?_
              exact pm_R_ret pm_M187 (r := some (.int 1)) (pm_q187_1 (Nat.le_of_ble_eq_true rfl)) rfl (K1 m3008 w3009 h3010 T3011 F3015 W3022 (⟨f3023, e3024, ct3025, fun z => (sf_pos B3018 (by decide) z)⟩) (sf_aux39 _ _ _ ek3017 R3001))
          · have F3027 := F2865.trans F2902 (by decide)
            have W3028 : rf_W [10, 12, 13, 14, 16, 17, 18, 22] m m2898 := W2866.trans W2903 (by decide)
            have B3029 : sf_B 0 600 (m2898 10) := T2901.2.2.1 10
            have B3030 : sf_B 0 4 (m2898 17) := T2901.2.2.1 17
            have B3031 : sf_B 0 1 (m2898 22) := T2901.2.2.1 22
            show pm_R _ 187 162 [.ref 41, .long a0, pm_no, .int a1] [.int 1] _ _
            have R3032 : (m 10).toInt ≤ (m2898 10).toInt := (sf_aux70 _ _ _ R2870 X2906)
            obtain ⟨v3033, B3034, e3035⟩ := X2904 _ e2873
            refine pm_R_br pm_M187 (pc' := 165) (st' := []) (pm_q187_1 (Nat.le_of_ble_eq_true rfl)) rfl ?_
            refine pm_R_lo pm_M187 (pc' := 166) (pm_q187_1 (Nat.le_of_ble_eq_true rfl)) rfl rfl ?_
            refine pm_R_op pm_M187 (pc' := 167) (st' := [.int 2, .ref 41]) (pm_q187_1 (Nat.le_of_ble_eq_true rfl)) rfl rfl ?_
            refine pm_R_op pm_M187 (pc' := 169) (st' := [.int 49, .int 2, .ref 41]) (pm_q187_1 (Nat.le_of_ble_eq_true rfl)) rfl rfl ?_
            refine pm_R_op pm_M187 (pc' := 170) (st' := [.int (-1), .int 49, .int 2, .ref 41]) (pm_q187_1 (Nat.le_of_ble_eq_true rfl)) rfl rfl ?_
            refine pm_R_cv pm_M187 (pc' := 173) (a := 41) (ra := [.int (-1), .int 49, .int 2]) (rest := []) (ls' := [.ref 41, .int 2, .int 49, .int (-1)]) (pm_q187_1 (Nat.le_of_ble_eq_true rfl)) rfl (Or.inl rfl) pm_M183 T2901.2.1 rfl (by decide) (Nat.lt_of_lt_of_le (by decide) T2901.1) rfl rfl (Nat.le_of_ble_eq_true rfl) rfl rfl ?_
            refine rf_c183_2_49 (d := d + 0) T2901  (fun m3038 w3039 h3040 T3041 F3042 W3043 X3044 => ?_) (fun m3047 w3048 h3049 T3050 F3051 W3052 X3053 X3054 X3055 X3056 X3057 => ?_) (fun m3060 w3061 h3062 T3063 F3064 W3065 X3066 X3067 X3068 B3069 B3070 => ?_)
            · have F3071 := F3027.trans F3042 (by decide)
              have W3072 : rf_W [10, 12, 13, 14, 16, 17, 18, 22] m m3038 := W3028.trans W3043 (by decide)
              have B3073 : sf_B 0 600 (m3038 10) := T3041.2.2.1 10
              have B3074 : sf_B 0 4 (m3038 17) := T3041.2.2.1 17
              have B3075 : sf_B 0 1 (m3038 22) := T3041.2.2.1 22
              show pm_R _ 187 173 [.ref 41, .long a0, pm_no, .int a1] [.int 0] _ _
              have R3076 : (m 10).toInt ≤ (m3038 10).toInt := (sf_aux70 _ _ _ R3032 X3044)
              refine pm_R_br pm_M187 (pc' := 176) (st' := []) (pm_q187_1 (Nat.le_of_ble_eq_true rfl)) rfl ?_
              refine pm_R_op pm_M187 (pc' := 177) (st' := [.int 0]) (pm_q187_1 (Nat.le_of_ble_eq_true rfl)) rfl rfl ?_
              exact pm_R_ret pm_M187 (r := some (.int 0)) (pm_q187_1 (Nat.le_of_ble_eq_true rfl)) rfl (K0 m3038 w3039 h3040 T3041 F3071 W3072 (sf_aux51 _ _ R3076))
            · have F3077 := F3027.trans F3051 (by decide)
              have W3078 : rf_W [10, 12, 13, 14, 16, 17, 18, 22] m m3047 := W3028.trans W3052 (by decide)
              have B3079 : sf_B 0 600 (m3047 10) := T3050.2.2.1 10
              have B3080 : sf_B 0 4 (m3047 17) := T3050.2.2.1 17
              have B3081 : sf_B 0 1 (m3047 22) := T3050.2.2.1 22
              show pm_R _ 187 173 [.ref 41, .long a0, pm_no, .int a1] [.int 1] _ _
              have R3082 : (m 10).toInt ≤ (m3047 10).toInt := (sf_aux70 _ _ _ R3032 X3057)
              obtain ⟨v3083, B3084, e3085⟩ := X3053 _ e3035
              refine pm_R_br pm_M187 (pc' := 178) (st' := []) (pm_q187_1 (Nat.le_of_ble_eq_true rfl)) rfl ?_
              refine pm_R_lo pm_M187 (pc' := 179) (pm_q187_1 (Nat.le_of_ble_eq_true rfl)) rfl rfl ?_
              refine pm_R_op pm_M187 (pc' := 180) (st' := [.int 1, .ref 41]) (pm_q187_1 (Nat.le_of_ble_eq_true rfl)) rfl rfl ?_
              refine pm_R_op pm_M187 (pc' := 182) (st' := [.int 42, .int 1, .ref 41]) (pm_q187_1 (Nat.le_of_ble_eq_true rfl)) rfl rfl ?_
              refine pm_R_op pm_M187 (pc' := 183) (st' := [.int 3, .int 42, .int 1, .ref 41]) (pm_q187_1 (Nat.le_of_ble_eq_true rfl)) rfl rfl ?_
              refine pm_R_op pm_M187 (pc' := 185) (st' := [.int 16, .int 3, .int 42, .int 1, .ref 41]) (pm_q187_1 (Nat.le_of_ble_eq_true rfl)) rfl rfl ?_
              refine pm_R_op pm_M187 (pc' := 186) (st' := [.int 0, .int 16, .int 3, .int 42, .int 1, .ref 41]) (pm_q187_1 (Nat.le_of_ble_eq_true rfl)) rfl rfl ?_
              refine pm_R_cv pm_M187 (pc' := 189) (a := 41) (ra := [.int 0, .int 16, .int 3, .int 42, .int 1]) (rest := []) (ls' := [.ref 41, .int 1, .int 42, .int 3, .int 16, .int 0, pm_no, pm_no]) (pm_q187_1 (Nat.le_of_ble_eq_true rfl)) rfl (Or.inl rfl) pm_M185 T3050.2.1 rfl (by decide) (Nat.lt_of_lt_of_le (by decide) T3050.1) rfl rfl (Nat.le_of_ble_eq_true rfl) rfl rfl ?_
              have e3086 := (F3051.cell (by decide) (F2902.cell (by decide) (F2578.cell (by decide) (F2528.cell (by decide) (F2513.cell (by decide) e3)))))
              refine rf_c185_s (d := d + 2) T3050 (⟨f2, e3086, ct4, fun z => (sf_pos (sf_eqT X3054 B2907) (by decide) z)⟩) (fun z => sf_pos (sf_eqT X3054 B2907) (by decide) z) (fun m3089 w3090 h3091 T3092 F3093 W3094 X3095 => ?_)
              have F3096 := F3077.trans F3093 (by decide)
              have B3097 : sf_B 0 600 (m3089 10) := by rw [W3094 10 (by decide)]; exact B3079
              have ek3098 : (m3089 10).toInt = ((m3047 10)).toInt := by rw [W3094 10 (by decide)]
              have B3099 : sf_B 1 4 (m3089 17) := by rw [W3094 17 (by decide)]; exact (sf_eqT X3054 B2907)
              have ek3100 : (m3089 17).toInt = ((m2898 17)).toInt := by rw [W3094 17 (by decide)]; exact X3054
              have B3101 : sf_B 0 0 (m3089 22) := by rw [W3094 22 (by decide)]; exact (sf_eqT X3055 B2908)
              have ek3102 : (m3089 22).toInt = ((m2898 22)).toInt := by rw [W3094 22 (by decide)]; exact X3055
              have W3103 : rf_W [10, 12, 13, 14, 16, 17, 18, 22] m m3089 := W3078.trans W3094 (by decide)
              show pm_R _ 187 189 [.ref 41, .long a0, pm_no, .int a1] [] _ _
              obtain ⟨f3104, e3105, ct3106, bd3107⟩ := X3095
              refine pm_R_op pm_M187 (pc' := 190) (st' := [.int 1]) (pm_q187_1 (Nat.le_of_ble_eq_true rfl)) rfl rfl ?_
              exact pm_R_ret pm_M187 (r := some (.int 1)) (pm_q187_1 (Nat.le_of_ble_eq_true rfl)) rfl (K1 m3089 w3090 h3091 T3092 F3096 W3103 (⟨f3104, e3105, ct3106, fun z => (sf_pos B3099 (by decide) z)⟩) (sf_aux39 _ _ _ ek3098 R3082))
            · have F3108 := F3027.trans F3064 (by decide)
              have W3109 : rf_W [10, 12, 13, 14, 16, 17, 18, 22] m m3060 := W3028.trans W3065 (by decide)
              have B3110 : sf_B 0 600 (m3060 10) := T3063.2.2.1 10
              have B3111 : sf_B 0 4 (m3060 17) := T3063.2.2.1 17
              have B3112 : sf_B 0 1 (m3060 22) := T3063.2.2.1 22
              show pm_R _ 187 173 [.ref 41, .long a0, pm_no, .int a1] [.int 1] _ _
              have R3113 : (m 10).toInt ≤ (m3060 10).toInt := (sf_aux70 _ _ _ R3032 X3068)
              obtain ⟨v3114, B3115, e3116⟩ := X3066 _ e3035
              refine pm_R_br pm_M187 (pc' := 178) (st' := []) (pm_q187_1 (Nat.le_of_ble_eq_true rfl)) rfl ?_
              refine pm_R_lo pm_M187 (pc' := 179) (pm_q187_1 (Nat.le_of_ble_eq_true rfl)) rfl rfl ?_
              refine pm_R_op pm_M187 (pc' := 180) (st' := [.int 1, .ref 41]) (pm_q187_1 (Nat.le_of_ble_eq_true rfl)) rfl rfl ?_
              refine pm_R_op pm_M187 (pc' := 182) (st' := [.int 42, .int 1, .ref 41]) (pm_q187_1 (Nat.le_of_ble_eq_true rfl)) rfl rfl ?_
              refine pm_R_op pm_M187 (pc' := 183) (st' := [.int 3, .int 42, .int 1, .ref 41]) (pm_q187_1 (Nat.le_of_ble_eq_true rfl)) rfl rfl ?_
              refine pm_R_op pm_M187 (pc' := 185) (st' := [.int 16, .int 3, .int 42, .int 1, .ref 41]) (pm_q187_1 (Nat.le_of_ble_eq_true rfl)) rfl rfl ?_
              refine pm_R_op pm_M187 (pc' := 186) (st' := [.int 0, .int 16, .int 3, .int 42, .int 1, .ref 41]) (pm_q187_1 (Nat.le_of_ble_eq_true rfl)) rfl rfl ?_
              refine pm_R_cv pm_M187 (pc' := 189) (a := 41) (ra := [.int 0, .int 16, .int 3, .int 42, .int 1]) (rest := []) (ls' := [.ref 41, .int 1, .int 42, .int 3, .int 16, .int 0, pm_no, pm_no]) (pm_q187_1 (Nat.le_of_ble_eq_true rfl)) rfl (Or.inl rfl) pm_M185 T3063.2.1 rfl (by decide) (Nat.lt_of_lt_of_le (by decide) T3063.1) rfl rfl (Nat.le_of_ble_eq_true rfl) rfl rfl ?_
              have e3117 := (F3064.cell (by decide) (F2902.cell (by decide) (F2578.cell (by decide) (F2528.cell (by decide) (F2513.cell (by decide) e3)))))
              refine rf_c185_s (d := d + 2) T3063 (⟨f2, e3117, ct4, fun z => (sf_pos B3069 (by decide) z)⟩) (fun z => sf_pos B3069 (by decide) z) (fun m3120 w3121 h3122 T3123 F3124 W3125 X3126 => ?_)
              have F3127 := F3108.trans F3124 (by decide)
              have B3128 : sf_B 0 600 (m3120 10) := by rw [W3125 10 (by decide)]; exact B3110
              have ek3129 : (m3120 10).toInt = ((m3060 10)).toInt := by rw [W3125 10 (by decide)]
              have B3130 : sf_B 1 4 (m3120 17) := by rw [W3125 17 (by decide)]; exact B3069
              have ek3131 : (m3120 17).toInt = ((m3060 17)).toInt := by rw [W3125 17 (by decide)]
              have B3132 : sf_B 0 0 (m3120 22) := by rw [W3125 22 (by decide)]; exact B3070
              have ek3133 : (m3120 22).toInt = ((m3060 22)).toInt := by rw [W3125 22 (by decide)]
              have W3134 : rf_W [10, 12, 13, 14, 16, 17, 18, 22] m m3120 := W3109.trans W3125 (by decide)
              show pm_R _ 187 189 [.ref 41, .long a0, pm_no, .int a1] [] _ _
              obtain ⟨f3135, e3136, ct3137, bd3138⟩ := X3126
              refine pm_R_op pm_M187 (pc' := 190) (st' := [.int 1]) (pm_q187_1 (Nat.le_of_ble_eq_true rfl)) rfl rfl ?_
              exact pm_R_ret pm_M187 (r := some (.int 1)) (pm_q187_1 (Nat.le_of_ble_eq_true rfl)) rfl (K1 m3120 w3121 h3122 T3123 F3127 W3134 (⟨f3135, e3136, ct3137, fun z => (sf_pos B3130 (by decide) z)⟩) (sf_aux39 _ _ _ ek3129 R3113))
    · have k3139 := sf_lneC e1875 c1876
      refine pm_R_lo pm_M187 (pc' := 17) rfl rfl rfl ?_
      refine pm_R_ldc2 pm_M187 (pc' := 20) rfl rfl rfl ?_
      refine sf_R_lcmp pm_M187 (pc' := 21) rfl rfl (fun z3140 e3141 => ?_)
      refine pm_R_ifc pm_M187 (t := 29) (pc' := 24) rfl rfl rfl (fun c3142 => ?_) (fun c3142 => ?_)
      · have B3143 : sf_B 0 0 z3140 := sf_eqL c3142 sf_k0
        have B3144 : lf_B 1852137842 1852137842 a0 := lf_eqB e3141 B3143 (⟨by decide, by decide⟩ : lf_B 1852137842 1852137842 1852137842)
        refine pm_R_lo pm_M187 (pc' := 30) rfl rfl rfl ?_
        refine pm_R_ldc2 pm_M187 (pc' := 33) rfl rfl rfl ?_
        refine pm_R_op pm_M187 (pc' := 34) (st' := [.int z7]) rfl (by show some (Value.int (lg_cmp a0 1920298085) :: _) = _; rw [← e8]) rfl ?_
        refine pm_R_ifc pm_M187 (t := 48) (pc' := 37) rfl rfl rfl (fun c3147 => ?_) (fun c3147 => absurd (Classical.not_not.mp c3147) c9)
        have k3148 := sf_lneC e8 c3147
        refine pm_R_lo pm_M187 (pc' := 49) rfl rfl rfl ?_
        refine pm_R_ldc2 pm_M187 (pc' := 52) rfl rfl rfl ?_
        refine pm_R_op pm_M187 (pc' := 53) (st' := [.int z1874]) rfl (by show some (Value.int (lg_cmp a0 1936287598) :: _) = _; rw [← e1875]) rfl ?_
        refine pm_R_ifc pm_M187 (t := 73) (pc' := 56) rfl rfl rfl (fun c3151 => ?_) (fun c3151 => absurd (Classical.not_not.mp c3151) c1876)
        have k3152 := sf_lneC e1875 c3151
        refine pm_R_lo pm_M187 (pc' := 74) rfl rfl rfl ?_
        refine pm_R_cv pm_M187 (pc' := 77) (a := 41) (ra := []) (rest := []) (ls' := [.ref 41, pm_no, pm_no]) rfl rfl (Or.inl rfl) pm_M179 T.2.1 rfl (by decide) (Nat.lt_of_lt_of_le (by decide) T.1) rfl rfl (Nat.le_of_ble_eq_true rfl) rfl rfl ?_
        refine rf_c179 (d := d + 1) T  (fun m3155 w3156 h3157 T3158 F3159 W3160 X3161 X3162 => ?_)
        have F3163 := (rf_G.refl [41, 51, 52] h).trans F3159 (by decide)
        have B3164 : sf_B 0 4 (m3155 17) := by rw [W3160 17 (by decide)]; exact B6
        have ek3165 : (m3155 17).toInt = ((m 17)).toInt := by rw [W3160 17 (by decide)]
        have W3166 : rf_W [10, 12, 13, 14, 16, 17, 18, 22] m m3155 := (rf_W.refl [10, 12, 13, 14, 16, 17, 18, 22] m).trans W3160 (by decide)
        have B3167 : sf_B 0 600 (m3155 10) := T3158.2.2.1 10
        have B3168 : sf_B 0 1 (m3155 22) := T3158.2.2.1 22
        show pm_R _ 187 77 [.ref 41, .long a0, pm_no, .int a1] [] _ _
        have R3169 : (m 10).toInt ≤ (m3155 10).toInt := (sf_aux51 _ _ X3161)
        refine pm_R_lo pm_M187 (pc' := 78) rfl rfl rfl ?_
        refine pm_R_ldc2 pm_M187 (pc' := 81) rfl rfl rfl ?_
        refine pm_R_op pm_M187 (pc' := 82) (st' := [.int z7]) rfl (by show some (Value.int (lg_cmp a0 1920298085) :: _) = _; rw [← e8]) rfl ?_
        refine pm_R_ifc pm_M187 (t := 136) (pc' := 85) rfl rfl rfl (fun c3172 => ?_) (fun c3172 => absurd (Classical.not_not.mp c3172) c9)
        have k3173 := sf_lneC e8 c3172
        refine pm_R_lo pm_M187 (pc' := 137) (pm_q187_1 (Nat.le_of_ble_eq_true rfl)) rfl rfl ?_
        refine pm_R_ldc2 pm_M187 (pc' := 140) (pm_q187_1 (Nat.le_of_ble_eq_true rfl)) rfl rfl ?_
        refine pm_R_op pm_M187 (pc' := 141) (st' := [.int z1874]) (pm_q187_1 (Nat.le_of_ble_eq_true rfl)) (by show some (Value.int (lg_cmp a0 1936287598) :: _) = _; rw [← e1875]) rfl ?_
        refine pm_R_ifc pm_M187 (t := 191) (pc' := 144) (pm_q187_1 (Nat.le_of_ble_eq_true rfl)) rfl rfl (fun c3176 => ?_) (fun c3176 => absurd (Classical.not_not.mp c3176) c1876)
        have k3177 := sf_lneC e1875 c3176
        refine pm_R_lo pm_M187 (pc' := 192) (pm_q187_1 (Nat.le_of_ble_eq_true rfl)) rfl rfl ?_
        refine pm_R_op pm_M187 (pc' := 193) (st' := [.int 0, .ref 41]) (pm_q187_1 (Nat.le_of_ble_eq_true rfl)) rfl rfl ?_
        refine pm_R_op pm_M187 (pc' := 195) (st' := [.int 9, .int 0, .ref 41]) (pm_q187_1 (Nat.le_of_ble_eq_true rfl)) rfl rfl ?_
        refine pm_R_op pm_M187 (pc' := 196) (st' := [.int (-1), .int 9, .int 0, .ref 41]) (pm_q187_1 (Nat.le_of_ble_eq_true rfl)) rfl rfl ?_
        refine pm_R_cv pm_M187 (pc' := 199) (a := 41) (ra := [.int (-1), .int 9, .int 0]) (rest := []) (ls' := [.ref 41, .int 0, .int 9, .int (-1)]) (pm_q187_1 (Nat.le_of_ble_eq_true rfl)) rfl (Or.inl rfl) pm_M183 T3158.2.1 rfl (by decide) (Nat.lt_of_lt_of_le (by decide) T3158.1) rfl rfl (Nat.le_of_ble_eq_true rfl) rfl rfl ?_
        obtain ⟨f3178, e3179, b3180⟩ := T3158.2.2.2.1 52 (by decide) (by decide)
        refine rf_c183_0_9 (d := d + 0) T3158  (fun m3183 w3184 h3185 T3186 F3187 W3188 X3189 => ?_) (fun m3192 w3193 h3194 T3195 F3196 W3197 X3198 X3199 X3200 X3201 X3202 => ?_) (fun m3205 w3206 h3207 T3208 F3209 W3210 X3211 X3212 X3213 B3214 B3215 => ?_)
        · have F3216 := F3163.trans F3187 (by decide)
          have W3217 : rf_W [10, 12, 13, 14, 16, 17, 18, 22] m m3183 := W3166.trans W3188 (by decide)
          have B3218 : sf_B 0 600 (m3183 10) := T3186.2.2.1 10
          have B3219 : sf_B 0 4 (m3183 17) := T3186.2.2.1 17
          have B3220 : sf_B 0 1 (m3183 22) := T3186.2.2.1 22
          show pm_R _ 187 199 [.ref 41, .long a0, pm_no, .int a1] [.int 0] _ _
          have R3221 : (m 10).toInt ≤ (m3183 10).toInt := (sf_aux70 _ _ _ R3169 X3189)
          refine pm_R_br pm_M187 (pc' := 218) (st' := []) (pm_q187_1 (Nat.le_of_ble_eq_true rfl)) rfl ?_
          refine pm_R_op pm_M187 (pc' := 219) (st' := [.int 0]) (pm_q187_2 (Nat.le_of_ble_eq_true rfl)) rfl rfl ?_
          exact pm_R_ret pm_M187 (r := some (.int 0)) (pm_q187_2 (Nat.le_of_ble_eq_true rfl)) rfl (K0 m3183 w3184 h3185 T3186 F3216 W3217 (sf_aux51 _ _ R3221))
        · have F3222 := F3163.trans F3196 (by decide)
          have W3223 : rf_W [10, 12, 13, 14, 16, 17, 18, 22] m m3192 := W3166.trans W3197 (by decide)
          have B3224 : sf_B 0 600 (m3192 10) := T3195.2.2.1 10
          have B3225 : sf_B 0 4 (m3192 17) := T3195.2.2.1 17
          have B3226 : sf_B 0 1 (m3192 22) := T3195.2.2.1 22
          show pm_R _ 187 199 [.ref 41, .long a0, pm_no, .int a1] [.int 1] _ _
          have R3227 : (m 10).toInt ≤ (m3192 10).toInt := (sf_aux70 _ _ _ R3169 X3202)
          obtain ⟨v3228, B3229, e3230⟩ := X3198 _ e3179
          refine pm_R_br pm_M187 (pc' := 202) (st' := []) (pm_q187_1 (Nat.le_of_ble_eq_true rfl)) rfl ?_
          refine pm_R_lo pm_M187 (pc' := 203) (pm_q187_1 (Nat.le_of_ble_eq_true rfl)) rfl rfl ?_
          refine pm_R_op pm_M187 (pc' := 204) (st' := [.int 1, .ref 41]) (pm_q187_1 (Nat.le_of_ble_eq_true rfl)) rfl rfl ?_
          refine pm_R_op pm_M187 (pc' := 206) (st' := [.int 9, .int 1, .ref 41]) (pm_q187_1 (Nat.le_of_ble_eq_true rfl)) rfl rfl ?_
          refine pm_R_lo pm_M187 (pc' := 207) (pm_q187_1 (Nat.le_of_ble_eq_true rfl)) rfl rfl ?_
          refine rf_R_get pm_M187 T3195 (pc' := 210) (v := .ref 52) (pm_q187_2 (Nat.le_of_ble_eq_true rfl)) rfl rfl rfl ?_
          refine pm_R_op pm_M187 (pc' := 211) (st' := [.int 0, .ref 52, .int 9, .int 1, .ref 41]) (pm_q187_2 (Nat.le_of_ble_eq_true rfl)) rfl rfl ?_
          refine pm_R_iald pm_M187 (pc' := 212) (v := v3228) (pm_q187_2 (Nat.le_of_ble_eq_true rfl)) e3230 (Nat.lt_of_lt_of_le (by decide) T3195.1) rfl sf_upd_eq rfl ?_
          refine pm_R_cv pm_M187 (pc' := 215) (a := 41) (ra := [.int v3228, .int 9, .int 1]) (rest := []) (ls' := [.ref 41, .int 1, .int 9, .int v3228]) (pm_q187_2 (Nat.le_of_ble_eq_true rfl)) rfl (Or.inl rfl) pm_M183 T3195.2.1 rfl (by decide) (Nat.lt_of_lt_of_le (by decide) T3195.1) rfl rfl (Nat.le_of_ble_eq_true rfl) rfl rfl ?_
          refine rf_c183_1_9 (d := d + 0) T3195  (fun m3235 w3236 h3237 T3238 F3239 W3240 X3241 => ?_) (fun m3244 w3245 h3246 T3247 F3248 W3249 X3250 X3251 X3252 X3253 X3254 => ?_) (fun m3257 w3258 h3259 T3260 F3261 W3262 X3263 X3264 X3265 B3266 B3267 => ?_)
          · have F3268 := F3222.trans F3239 (by decide)
            have W3269 : rf_W [10, 12, 13, 14, 16, 17, 18, 22] m m3235 := W3223.trans W3240 (by decide)
            have B3270 : sf_B 0 600 (m3235 10) := T3238.2.2.1 10
            have B3271 : sf_B 0 4 (m3235 17) := T3238.2.2.1 17
            have B3272 : sf_B 0 1 (m3235 22) := T3238.2.2.1 22
            show pm_R _ 187 215 [.ref 41, .long a0, pm_no, .int a1] [.int 0] _ _
            have R3273 : (m 10).toInt ≤ (m3235 10).toInt := (sf_aux70 _ _ _ R3227 X3241)
            refine pm_R_br pm_M187 (pc' := 218) (st' := []) (pm_q187_2 (Nat.le_of_ble_eq_true rfl)) rfl ?_
            refine pm_R_op pm_M187 (pc' := 219) (st' := [.int 0]) (pm_q187_2 (Nat.le_of_ble_eq_true rfl)) rfl rfl ?_
            exact pm_R_ret pm_M187 (r := some (.int 0)) (pm_q187_2 (Nat.le_of_ble_eq_true rfl)) rfl (K0 m3235 w3236 h3237 T3238 F3268 W3269 (sf_aux51 _ _ R3273))
          · have F3274 := F3222.trans F3248 (by decide)
            have W3275 : rf_W [10, 12, 13, 14, 16, 17, 18, 22] m m3244 := W3223.trans W3249 (by decide)
            have B3276 : sf_B 0 600 (m3244 10) := T3247.2.2.1 10
            have B3277 : sf_B 0 4 (m3244 17) := T3247.2.2.1 17
            have B3278 : sf_B 0 1 (m3244 22) := T3247.2.2.1 22
            show pm_R _ 187 215 [.ref 41, .long a0, pm_no, .int a1] [.int 1] _ _
            have R3279 : (m 10).toInt ≤ (m3244 10).toInt := (sf_aux70 _ _ _ R3227 X3254)
            obtain ⟨v3280, B3281, e3282⟩ := X3250 _ e3230
            refine pm_R_br pm_M187 (pc' := 220) (st' := []) (pm_q187_2 (Nat.le_of_ble_eq_true rfl)) rfl ?_
            refine pm_R_lo pm_M187 (pc' := 221) (pm_q187_2 (Nat.le_of_ble_eq_true rfl)) rfl rfl ?_
            refine rf_R_get pm_M187 T3247 (pc' := 224) (v := .int (m3155 22)) (pm_q187_2 (Nat.le_of_ble_eq_true rfl)) rfl (congrArg (fun z => some (Value.int z)) (Int32.toInt_inj.mp (sf_aux72 _ _ _ X3200 X3252))) rfl ?_
            refine pm_R_ifc pm_M187 (t := 252) (pc' := 227) (pm_q187_2 (Nat.le_of_ble_eq_true rfl)) rfl rfl (fun c3283 => ?_) (fun c3283 => ?_)
            · have B3284 : sf_B 0 0 (m3155 22) := sf_eqL c3283 sf_k0
              refine pm_R_op pm_M187 (pc' := 253) (st' := [.int 1]) (pm_q187_2 (Nat.le_of_ble_eq_true rfl)) rfl rfl ?_
              have e3285 := (F3248.cell (by decide) (F3196.cell (by decide) (F3159.cell (by decide) e3)))
              exact pm_R_ret pm_M187 (r := some (.int 1)) (pm_q187_2 (Nat.le_of_ble_eq_true rfl)) rfl (K1 m3244 w3245 h3246 T3247 F3274 W3275 (⟨f2, e3285, ct4, fun z => (bd5 (sf_aux73 _ _ _ _ ek3165 X3199 X3251 z))⟩) (sf_aux51 _ _ R3279))
            · have B3286 : sf_B 1 1 (m3155 22) := sf_neL0 c3283 sf_k0 B3168
              refine pm_R_lo pm_M187 (pc' := 228) (pm_q187_2 (Nat.le_of_ble_eq_true rfl)) rfl rfl ?_
              refine rf_R_get pm_M187 T3247 (pc' := 231) (v := .ref 51) (pm_q187_2 (Nat.le_of_ble_eq_true rfl)) rfl rfl rfl ?_
              refine pm_R_op pm_M187 (pc' := 233) (st' := [.int 90, .ref 51]) (pm_q187_2 (Nat.le_of_ble_eq_true rfl)) rfl rfl ?_
              refine pm_R_lo pm_M187 (pc' := 234) (pm_q187_2 (Nat.le_of_ble_eq_true rfl)) rfl rfl ?_
              refine rf_R_get pm_M187 T3247 (pc' := 237) (v := .ref 52) (pm_q187_2 (Nat.le_of_ble_eq_true rfl)) rfl rfl rfl ?_
              refine pm_R_op pm_M187 (pc' := 238) (st' := [.int 0, .ref 52, .int 90, .ref 51]) (pm_q187_2 (Nat.le_of_ble_eq_true rfl)) rfl rfl ?_
              refine pm_R_iald pm_M187 (pc' := 239) (v := v3228) (pm_q187_2 (Nat.le_of_ble_eq_true rfl)) e3282 (Nat.lt_of_lt_of_le (by decide) T3247.1) rfl (Eq.trans (sf_upd_nec (k := Int32.toNatClampNeg 1) (j := Int32.toNatClampNeg 0) (by decide)) sf_upd_eq) rfl ?_
              refine sf_R_iadd pm_M187 (pc' := 240) (pm_q187_2 (Nat.le_of_ble_eq_true rfl)) rfl sf_k90 B3229 (by decide) (by decide) (fun z3289 e3290 B3291 => ?_)
              refine pm_R_op pm_M187 (pc' := 241) (st' := [.int z3289, .ref 51, .int z3289, .ref 51]) (pm_q187_2 (Nat.le_of_ble_eq_true rfl)) rfl rfl ?_
              have e3292 := (F3248.cell (by decide) (F3196.cell (by decide) (F3159.cell (by decide) e3)))
              refine rf_R_ild pm_M187 T3247 (pc' := 242) (pm_q187_2 (Nat.le_of_ble_eq_true rfl)) e3292 (by decide) (sf_in B3291 (by decide) (by decide)) rfl (fun z3293 ez3294 => ?_)
              refine pm_R_op pm_M187 (pc' := 243) (st' := [.int 1, .int z3293, .int z3289, .ref 51]) (pm_q187_2 (Nat.le_of_ble_eq_true rfl)) rfl rfl ?_
              refine pm_R_lo pm_M187 (pc' := 244) (pm_q187_2 (Nat.le_of_ble_eq_true rfl)) rfl rfl ?_
              refine rf_R_get pm_M187 T3247 (pc' := 247) (v := .ref 52) (pm_q187_2 (Nat.le_of_ble_eq_true rfl)) rfl rfl rfl ?_
              refine pm_R_op pm_M187 (pc' := 248) (st' := [.int 1, .ref 52, .int 1, .int z3293, .int z3289, .ref 51]) (pm_q187_2 (Nat.le_of_ble_eq_true rfl)) rfl rfl ?_
              refine pm_R_iald pm_M187 (pc' := 249) (v := v3280) (pm_q187_2 (Nat.le_of_ble_eq_true rfl)) e3282 (Nat.lt_of_lt_of_le (by decide) T3247.1) rfl sf_upd_eq rfl ?_
              refine sf_R_iany pm_M187 (pc' := 250) (st := [.int z3293, .int z3289, .ref 51]) (pm_q187_2 (Nat.le_of_ble_eq_true rfl)) rfl rfl (fun z3300 => ?_)
              refine sf_R_iany pm_M187 (pc' := 251) (st := [.int z3289, .ref 51]) (pm_q187_2 (Nat.le_of_ble_eq_true rfl)) rfl rfl (fun z3304 => ?_)
              refine rf_R_ist pm_M187 T3247 (pc' := 252) (pm_q187_2 (Nat.le_of_ble_eq_true rfl)) e3292 (by decide) (by decide) (sf_in B3291 (by decide) (by decide)) ⟨_, rfl⟩ rfl (fun h3305 T3306 F3307 e3308 => ?_)
              have F3309 := F3274.trans F3307 (by decide)
              have ct3310 : rf_ct 0 (upd f2 (Int32.toNatClampNeg z3289) z3304) := ⟨(sf_eqL (Eq.trans (sf_upd_ne (j := Int32.toNatClampNeg 0) B3291 (by decide) (by decide)) rfl) ct4.1), (sf_eqL (Eq.trans (sf_upd_ne (j := Int32.toNatClampNeg 1) B3291 (by decide) (by decide)) rfl) ct4.2)⟩
              have bd3311 : (m3244 17).toInt = 0 → rf_bd 0 (upd f2 (Int32.toNatClampNeg z3289) z3304) := fun z => ((bd5 (sf_aux73 _ _ _ _ ek3165 X3199 X3251 z)).set (k := z3289) (sf_any _) (rf_w0n (sf_aux74 _ _ e3290) B3229).1 (rf_w0n (sf_aux74 _ _ e3290) B3229).2)
              refine pm_R_op pm_M187 (pc' := 253) (st' := [.int 1]) (pm_q187_2 (Nat.le_of_ble_eq_true rfl)) rfl rfl ?_
              exact pm_R_ret pm_M187 (r := some (.int 1)) (pm_q187_2 (Nat.le_of_ble_eq_true rfl)) rfl (K1 m3244 w3245 h3305 T3306 F3309 W3275 (⟨(upd f2 (Int32.toNatClampNeg z3289) z3304), e3308, ct3310, fun z => (bd3311 z)⟩) (sf_aux51 _ _ R3279))
          · have F3312 := F3222.trans F3261 (by decide)
            have W3313 : rf_W [10, 12, 13, 14, 16, 17, 18, 22] m m3257 := W3223.trans W3262 (by decide)
            have B3314 : sf_B 0 600 (m3257 10) := T3260.2.2.1 10
            have B3315 : sf_B 0 4 (m3257 17) := T3260.2.2.1 17
            have B3316 : sf_B 0 1 (m3257 22) := T3260.2.2.1 22
            show pm_R _ 187 215 [.ref 41, .long a0, pm_no, .int a1] [.int 1] _ _
            have R3317 : (m 10).toInt ≤ (m3257 10).toInt := (sf_aux70 _ _ _ R3227 X3265)
            obtain ⟨v3318, B3319, e3320⟩ := X3263 _ e3230
            refine pm_R_br pm_M187 (pc' := 220) (st' := []) (pm_q187_2 (Nat.le_of_ble_eq_true rfl)) rfl ?_
            refine pm_R_lo pm_M187 (pc' := 221) (pm_q187_2 (Nat.le_of_ble_eq_true rfl)) rfl rfl ?_
            refine rf_R_get pm_M187 T3260 (pc' := 224) (v := .int (m3257 22)) (pm_q187_2 (Nat.le_of_ble_eq_true rfl)) rfl rfl rfl ?_
            refine pm_R_ifc pm_M187 (t := 252) (pc' := 227) (pm_q187_2 (Nat.le_of_ble_eq_true rfl)) rfl rfl (fun c3321 => ?_) (fun c3321 => absurd (sf_pt2 B3267 sf_k0) c3321)
            refine pm_R_op pm_M187 (pc' := 253) (st' := [.int 1]) (pm_q187_2 (Nat.le_of_ble_eq_true rfl)) rfl rfl ?_
            have e3322 := (F3261.cell (by decide) (F3196.cell (by decide) (F3159.cell (by decide) e3)))
            exact pm_R_ret pm_M187 (r := some (.int 1)) (pm_q187_2 (Nat.le_of_ble_eq_true rfl)) rfl (K1 m3257 w3258 h3259 T3260 F3312 W3313 (⟨f2, e3322, ct4, fun z => (sf_pos B3266 (by decide) z)⟩) (sf_aux51 _ _ R3317))
        · have F3323 := F3163.trans F3209 (by decide)
          have W3324 : rf_W [10, 12, 13, 14, 16, 17, 18, 22] m m3205 := W3166.trans W3210 (by decide)
          have B3325 : sf_B 0 600 (m3205 10) := T3208.2.2.1 10
          have B3326 : sf_B 0 4 (m3205 17) := T3208.2.2.1 17
          have B3327 : sf_B 0 1 (m3205 22) := T3208.2.2.1 22
          show pm_R _ 187 199 [.ref 41, .long a0, pm_no, .int a1] [.int 1] _ _
          have R3328 : (m 10).toInt ≤ (m3205 10).toInt := (sf_aux70 _ _ _ R3169 X3213)
          obtain ⟨v3329, B3330, e3331⟩ := X3211 _ e3179
          refine pm_R_br pm_M187 (pc' := 202) (st' := []) (pm_q187_1 (Nat.le_of_ble_eq_true rfl)) rfl ?_
          refine pm_R_lo pm_M187 (pc' := 203) (pm_q187_1 (Nat.le_of_ble_eq_true rfl)) rfl rfl ?_
          refine pm_R_op pm_M187 (pc' := 204) (st' := [.int 1, .ref 41]) (pm_q187_1 (Nat.le_of_ble_eq_true rfl)) rfl rfl ?_
          refine pm_R_op pm_M187 (pc' := 206) (st' := [.int 9, .int 1, .ref 41]) (pm_q187_1 (Nat.le_of_ble_eq_true rfl)) rfl rfl ?_
          refine pm_R_lo pm_M187 (pc' := 207) (pm_q187_1 (Nat.le_of_ble_eq_true rfl)) rfl rfl ?_
          refine rf_R_get pm_M187 T3208 (pc' := 210) (v := .ref 52) (pm_q187_2 (Nat.le_of_ble_eq_true rfl)) rfl rfl rfl ?_
          refine pm_R_op pm_M187 (pc' := 211) (st' := [.int 0, .ref 52, .int 9, .int 1, .ref 41]) (pm_q187_2 (Nat.le_of_ble_eq_true rfl)) rfl rfl ?_
          refine pm_R_iald pm_M187 (pc' := 212) (v := v3329) (pm_q187_2 (Nat.le_of_ble_eq_true rfl)) e3331 (Nat.lt_of_lt_of_le (by decide) T3208.1) rfl sf_upd_eq rfl ?_
          refine pm_R_cv pm_M187 (pc' := 215) (a := 41) (ra := [.int v3329, .int 9, .int 1]) (rest := []) (ls' := [.ref 41, .int 1, .int 9, .int v3329]) (pm_q187_2 (Nat.le_of_ble_eq_true rfl)) rfl (Or.inl rfl) pm_M183 T3208.2.1 rfl (by decide) (Nat.lt_of_lt_of_le (by decide) T3208.1) rfl rfl (Nat.le_of_ble_eq_true rfl) rfl rfl ?_
          refine rf_c183_1_9 (d := d + 0) T3208  (fun m3336 w3337 h3338 T3339 F3340 W3341 X3342 => ?_) (fun m3345 w3346 h3347 T3348 F3349 W3350 X3351 X3352 X3353 X3354 X3355 => ?_) (fun m3358 w3359 h3360 T3361 F3362 W3363 X3364 X3365 X3366 B3367 B3368 => ?_)
          · have F3369 := F3323.trans F3340 (by decide)
            have W3370 : rf_W [10, 12, 13, 14, 16, 17, 18, 22] m m3336 := W3324.trans W3341 (by decide)
            have B3371 : sf_B 0 600 (m3336 10) := T3339.2.2.1 10
            have B3372 : sf_B 0 4 (m3336 17) := T3339.2.2.1 17
            have B3373 : sf_B 0 1 (m3336 22) := T3339.2.2.1 22
            show pm_R _ 187 215 [.ref 41, .long a0, pm_no, .int a1] [.int 0] _ _
            have R3374 : (m 10).toInt ≤ (m3336 10).toInt := (sf_aux70 _ _ _ R3328 X3342)
            refine pm_R_br pm_M187 (pc' := 218) (st' := []) (pm_q187_2 (Nat.le_of_ble_eq_true rfl)) rfl ?_
            refine pm_R_op pm_M187 (pc' := 219) (st' := [.int 0]) (pm_q187_2 (Nat.le_of_ble_eq_true rfl)) rfl rfl ?_
            exact pm_R_ret pm_M187 (r := some (.int 0)) (pm_q187_2 (Nat.le_of_ble_eq_true rfl)) rfl (K0 m3336 w3337 h3338 T3339 F3369 W3370 (sf_aux51 _ _ R3374))
          · have F3375 := F3323.trans F3349 (by decide)
            have W3376 : rf_W [10, 12, 13, 14, 16, 17, 18, 22] m m3345 := W3324.trans W3350 (by decide)
            have B3377 : sf_B 0 600 (m3345 10) := T3348.2.2.1 10
            have B3378 : sf_B 0 4 (m3345 17) := T3348.2.2.1 17
            have B3379 : sf_B 0 1 (m3345 22) := T3348.2.2.1 22
            show pm_R _ 187 215 [.ref 41, .long a0, pm_no, .int a1] [.int 1] _ _
            have R3380 : (m 10).toInt ≤ (m3345 10).toInt := (sf_aux70 _ _ _ R3328 X3355)
            obtain ⟨v3381, B3382, e3383⟩ := X3351 _ e3331
            refine pm_R_br pm_M187 (pc' := 220) (st' := []) (pm_q187_2 (Nat.le_of_ble_eq_true rfl)) rfl ?_
            refine pm_R_lo pm_M187 (pc' := 221) (pm_q187_2 (Nat.le_of_ble_eq_true rfl)) rfl rfl ?_
            refine rf_R_get pm_M187 T3348 (pc' := 224) (v := .int (m3205 22)) (pm_q187_2 (Nat.le_of_ble_eq_true rfl)) rfl (congrArg (fun z => some (Value.int z)) (Int32.toInt_inj.mp (sf_aux37 _ _ X3353))) rfl ?_
            refine pm_R_ifc pm_M187 (t := 252) (pc' := 227) (pm_q187_2 (Nat.le_of_ble_eq_true rfl)) rfl rfl (fun c3384 => ?_) (fun c3384 => absurd (sf_pt2 B3215 sf_k0) c3384)
            refine pm_R_op pm_M187 (pc' := 253) (st' := [.int 1]) (pm_q187_2 (Nat.le_of_ble_eq_true rfl)) rfl rfl ?_
            have e3385 := (F3349.cell (by decide) (F3209.cell (by decide) (F3159.cell (by decide) e3)))
            exact pm_R_ret pm_M187 (r := some (.int 1)) (pm_q187_2 (Nat.le_of_ble_eq_true rfl)) rfl (K1 m3345 w3346 h3347 T3348 F3375 W3376 (⟨f2, e3385, ct4, fun z => (sf_pos (sf_eqT X3352 B3214) (by decide) z)⟩) (sf_aux51 _ _ R3380))
          · have F3386 := F3323.trans F3362 (by decide)
            have W3387 : rf_W [10, 12, 13, 14, 16, 17, 18, 22] m m3358 := W3324.trans W3363 (by decide)
            have B3388 : sf_B 0 600 (m3358 10) := T3361.2.2.1 10
            have B3389 : sf_B 0 4 (m3358 17) := T3361.2.2.1 17
            have B3390 : sf_B 0 1 (m3358 22) := T3361.2.2.1 22
            show pm_R _ 187 215 [.ref 41, .long a0, pm_no, .int a1] [.int 1] _ _
            have R3391 : (m 10).toInt ≤ (m3358 10).toInt := (sf_aux70 _ _ _ R3328 X3366)
            obtain ⟨v3392, B3393, e3394⟩ := X3364 _ e3331
            refine pm_R_br pm_M187 (pc' := 220) (st' := []) (pm_q187_2 (Nat.le_of_ble_eq_true rfl)) rfl ?_
            refine pm_R_lo pm_M187 (pc' := 221) (pm_q187_2 (Nat.le_of_ble_eq_true rfl)) rfl rfl ?_
            refine rf_R_get pm_M187 T3361 (pc' := 224) (v := .int (m3358 22)) (pm_q187_2 (Nat.le_of_ble_eq_true rfl)) rfl rfl rfl ?_
            refine pm_R_ifc pm_M187 (t := 252) (pc' := 227) (pm_q187_2 (Nat.le_of_ble_eq_true rfl)) rfl rfl (fun c3395 => ?_) (fun c3395 => absurd (sf_pt2 B3368 sf_k0) c3395)
            refine pm_R_op pm_M187 (pc' := 253) (st' := [.int 1]) (pm_q187_2 (Nat.le_of_ble_eq_true rfl)) rfl rfl ?_
            have e3396 := (F3362.cell (by decide) (F3209.cell (by decide) (F3159.cell (by decide) e3)))
            exact pm_R_ret pm_M187 (r := some (.int 1)) (pm_q187_2 (Nat.le_of_ble_eq_true rfl)) rfl (K1 m3358 w3359 h3360 T3361 F3386 W3387 (⟨f2, e3396, ct4, fun z => (sf_pos B3367 (by decide) z)⟩) (sf_aux51 _ _ R3391))
      · have k3397 := sf_lneC e3141 c3142
        refine pm_R_lo pm_M187 (pc' := 25) rfl rfl rfl ?_
        refine pm_R_cv pm_M187 (pc' := 28) (a := 41) (ra := []) (rest := []) (ls' := [.ref 41]) rfl rfl (Or.inl rfl) pm_M184 T.2.1 rfl (by decide) (Nat.lt_of_lt_of_le (by decide) T.1) rfl rfl (Nat.le_of_ble_eq_true rfl) rfl rfl ?_
        refine pm_R_lo pm_M184 (pc' := 1) rfl rfl rfl ?_
        refine pm_R_lo pm_M184 (pc' := 2) rfl rfl rfl ?_
        have B3398 : sf_B 0 600 (m 12) := T.2.2.1 12
        refine rf_R_get pm_M184 T (pc' := 5) (v := .int (m 12)) rfl rfl rfl rfl ?_
        refine rf_R_put pm_M184 T (pc' := 8) rfl rfl rfl (by decide) rfl rfl B3398 rfl rfl (fun h3399 m3402 em3403 T3400 F3401 => ?_)
        have F3404 := (rf_G.refl [41, 51, 52] h).trans F3401 (by decide)
        have B3405 : sf_B 0 600 (m3402 10) := by rw [em3403]; exact B1
        have ek3406 : (m3402 10).toInt = ((m 10)).toInt := by rw [em3403]; rfl
        have B3407 : sf_B 0 4 (m3402 17) := by rw [em3403]; exact B6
        have ek3408 : (m3402 17).toInt = ((m 17)).toInt := by rw [em3403]; rfl
        have B3409 : sf_B 0 600 (m3402 16) := by rw [em3403]; exact B3398
        have ek3410 : (m3402 16).toInt = ((m 12)).toInt := by rw [em3403]; rfl
        have W3411 : rf_W [10, 12, 13, 14, 16, 17, 18, 22] m m3402 := by rw [em3403]; exact (rf_W.refl [10, 12, 13, 14, 16, 17, 18, 22] m).put (by decide)
        have B3412 : sf_B 0 1 (m3402 22) := T3400.2.2.1 22
        refine pm_R_op pm_M184 (pc' := 9) (st' := [.int 0]) rfl rfl rfl ?_
        refine pm_R_ret pm_M184 (r := some (.int 0)) rfl rfl ?_
        show pm_R _ 187 28 [.ref 41, .long a0, pm_no, .int a1] [.int 0] _ _
        exact pm_R_ret pm_M187 (r := some (.int 0)) rfl rfl (K0 m3402 w h3399 T3400 F3404 W3411 (sf_aux52 _ _ ek3406))
