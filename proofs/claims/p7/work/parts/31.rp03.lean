theorem sf_aux70 (v0 v1 v2 : Int) (q0 : v0 ≤ v1) (q1 : v1 ≤ v2) : v0 ≤ v2 := by omega
theorem sf_aux71 (v0 v1 v2 v3 v4 : Int) (q0 : v0 = v1) (q1 : v2 = v0) (q2 : v3 = v2) (q3 : v4 = v3) (q4 : v4 = 0) : v1 = 0 := by omega
theorem sf_aux72 (v0 v1 v2 : Int) (q0 : v0 = v1) (q1 : v2 = v0) : v2 = v1 := by omega
theorem sf_aux73 (v0 v1 v2 v3 : Int) (q0 : v0 = v1) (q1 : v2 = v0) (q2 : v3 = v2) (q3 : v3 = 0) : v1 = 0 := by omega
theorem sf_aux74 (v0 v1 : Int) (q0 : v0 = 90 + v1) : v0 = 90 + v1 := by omega
set_option maxRecDepth 100000 in
set_option maxHeartbeats 4000000 in
/-- SilentTableModel.listLine -/
theorem rf_c187 {d : Nat} {m : Nat → Int32} {w : Int64} {h : pm_H} {Q : Option Value → pm_H → Prop} {a0 : Int64} {a1 : Int32} (T : rf_T m w h) (Ba1 : sf_B 0 600 a1) (X : rf_I 0 (m 17) h) (K0 : ∀ (m_q : Nat → Int32) (w_q : Int64) (h_q : pm_H), rf_T m_q w_q h_q → rf_G [41, 51, 52] h h_q → rf_W [10, 12, 13, 14, 16, 17, 18, 22] m m_q → (m 10).toInt ≤ (m_q 10).toInt → Q (some (.int 0)) h_q) (K1 : ∀ (m_q : Nat → Int32) (w_q : Int64) (h_q : pm_H), rf_T m_q w_q h_q → rf_G [41, 51, 52] h h_q → rf_W [10, 12, 13, 14, 16, 17, 18, 22] m m_q → rf_I 0 (m_q 17) h_q → (m 10).toInt ≤ (m_q 10).toInt → Q (some (.int 1)) h_q) : pm_R (d + 3) 187 0 [.ref 41, .long a0, pm_no, .int a1] [] h Q := by
  have B1 : sf_B 0 600 (m 10) := T.2.2.1 10
  obtain ⟨f2, e3, ct4, bd5⟩ := X
  have B6 : sf_B 0 4 (m 17) := T.2.2.1 17
  refine pm_R_lo pm_M187 (pc_q := 1) rfl rfl rfl ?_
  refine pm_R_ldc2 pm_M187 (pc_q := 4) rfl rfl rfl ?_
  refine sf_R_lcmp pm_M187 (pc_q := 5) rfl rfl (fun z7 e8 => ?_)
  refine pm_R_ifc pm_M187 (t := 29) (pc_q := 8) rfl rfl rfl (fun c9 => ?_) (fun c9 => ?_)
  · have B10 : sf_B 0 0 z7 := sf_eqL c9 sf_k0
    have B11 : lf_B 1920298085 1920298085 a0 := lf_eqB e8 B10 (⟨by decide, by decide⟩ : lf_B 1920298085 1920298085 1920298085)
    refine pm_R_lo pm_M187 (pc_q := 30) rfl rfl rfl ?_
    refine pm_R_ldc2 pm_M187 (pc_q := 33) rfl rfl rfl ?_
    refine pm_R_op pm_M187 (pc_q := 34) (st_q := [.int z7]) rfl (by show some (Value.int (lg_cmp a0 1920298085) :: _) = _; rw [← e8]) rfl ?_
    refine pm_R_ifc pm_M187 (t := 48) (pc_q := 37) rfl rfl rfl (fun c14 => absurd (sf_pt2 B10 sf_k0) c14) (fun c14 => ?_)
    refine pm_R_lo pm_M187 (pc_q := 38) rfl rfl rfl ?_
    refine rf_R_get pm_M187 T (pc_q := 41) (v := .ref 51) rfl rfl rfl rfl ?_
    refine pm_R_op pm_M187 (pc_q := 42) (st_q := [.int 0, .ref 51]) rfl rfl rfl ?_
    refine pm_R_iald pm_M187 (pc_q := 43) (v := (f2 0)) rfl e3 (Nat.lt_of_lt_of_le (by decide) T.1) rfl rfl rfl ?_
    refine pm_R_op pm_M187 (pc_q := 45) (st_q := [.int 10, .int (f2 0)]) rfl rfl rfl ?_
    refine pm_R_icmp pm_M187 (t := 67) (pc_q := 48) rfl rfl rfl (fun c17 => ?_) (fun c17 => ?_)
    · have B18 : sf_B 10 10 (f2 0) := sf_eqL c17 sf_k10
      refine pm_R_lo pm_M187 (pc_q := 68) rfl rfl rfl ?_
      refine pm_R_op pm_M187 (pc_q := 69) (st_q := [.int 3, .ref 41]) rfl rfl rfl ?_
      refine pm_R_lo pm_M187 (pc_q := 70) rfl rfl rfl ?_
      refine pm_R_cv pm_M187 (pc_q := 73) (a := 41) (ra := [.int a1, .int 3]) (rest := []) (ls_q := [.ref 41, .int 3, .int a1]) rfl rfl (Or.inl rfl) pm_M182 T.2.1 rfl (by decide) (Nat.lt_of_lt_of_le (by decide) T.1) rfl rfl (Nat.le_of_ble_eq_true rfl) rfl rfl ?_
      refine rf_c182 (d := d + 2) T (sf_weak sf_k3 (by decide) (by decide)) Ba1 (fun m21 w22 h23 T24 F25 W26 B27 => ?_)
      have F28 := (rf_G.refl [41, 51, 52] h).trans F25 (by decide)
      have B29 : sf_B 0 600 (m21 10) := by rw [W26 10 (by decide)]; exact B1
      have ek30 : (m21 10).toInt = ((m 10)).toInt := by rw [W26 10 (by decide)]
      have W31 : rf_W [10, 12, 13, 14, 16, 17, 18, 22] m m21 := (rf_W.refl [10, 12, 13, 14, 16, 17, 18, 22] m).trans W26 (by decide)
      have B32 : sf_B 0 4 (m21 13) := T24.2.2.1 13
      have B33 : sf_B 0 4 (m21 17) := T24.2.2.1 17
      have B34 : sf_B 0 1 (m21 22) := T24.2.2.1 22
      show pm_R _ 187 73 [.ref 41, .long a0, pm_no, .int a1] [] _ _
      refine pm_R_lo pm_M187 (pc_q := 74) rfl rfl rfl ?_
      refine pm_R_cv pm_M187 (pc_q := 77) (a := 41) (ra := []) (rest := []) (ls_q := [.ref 41, pm_no, pm_no]) rfl rfl (Or.inl rfl) pm_M179 T24.2.1 rfl (by decide) (Nat.lt_of_lt_of_le (by decide) T24.1) rfl rfl (Nat.le_of_ble_eq_true rfl) rfl rfl ?_
      refine rf_c179 (d := d + 1) T24  (fun m37 w38 h39 T40 F41 W42 X43 X44 => ?_)
      have F45 := F28.trans F41 (by decide)
      have B46 : sf_B 1 4 (m37 17) := by rw [W42 17 (by decide)]; exact B27
      have ek47 : (m37 17).toInt = ((m21 17)).toInt := by rw [W42 17 (by decide)]
      have B48 : sf_B 0 1 (m37 22) := by rw [W42 22 (by decide)]; exact B34
      have ek49 : (m37 22).toInt = ((m21 22)).toInt := by rw [W42 22 (by decide)]
      have W50 : rf_W [10, 12, 13, 14, 16, 17, 18, 22] m m37 := W31.trans W42 (by decide)
      have B51 : sf_B 0 600 (m37 10) := T40.2.2.1 10
      have B52 : sf_B 0 4 (m37 13) := T40.2.2.1 13
      show pm_R _ 187 77 [.ref 41, .long a0, pm_no, .int a1] [] _ _
      have R53 : (m 10).toInt ≤ (m37 10).toInt := (sf_aux53 _ _ _ ek30 X43)
      refine pm_R_lo pm_M187 (pc_q := 78) rfl rfl rfl ?_
      refine pm_R_ldc2 pm_M187 (pc_q := 81) rfl rfl rfl ?_
      refine pm_R_op pm_M187 (pc_q := 82) (st_q := [.int z7]) rfl (by show some (Value.int (lg_cmp a0 1920298085) :: _) = _; rw [← e8]) rfl ?_
      refine pm_R_ifc pm_M187 (t := 136) (pc_q := 85) rfl rfl rfl (fun c56 => absurd (sf_pt2 B10 sf_k0) c56) (fun c56 => ?_)
      refine pm_R_lo pm_M187 (pc_q := 86) rfl rfl rfl ?_
      refine pm_R_op pm_M187 (pc_q := 87) (st_q := [.int 0, .ref 41]) rfl rfl rfl ?_
      refine pm_R_op pm_M187 (pc_q := 88) (st_q := [.int 5, .int 0, .ref 41]) rfl rfl rfl ?_
      refine pm_R_op pm_M187 (pc_q := 89) (st_q := [.int (-1), .int 5, .int 0, .ref 41]) rfl rfl rfl ?_
      refine pm_R_cv pm_M187 (pc_q := 92) (a := 41) (ra := [.int (-1), .int 5, .int 0]) (rest := []) (ls_q := [.ref 41, .int 0, .int 5, .int (-1)]) rfl rfl (Or.inl rfl) pm_M183 T40.2.1 rfl (by decide) (Nat.lt_of_lt_of_le (by decide) T40.1) rfl rfl (Nat.le_of_ble_eq_true rfl) rfl rfl ?_
      obtain ⟨f57, e58, b59⟩ := T40.2.2.2.1 52 (by decide) (by decide)
      refine rf_c183_0_5 (d := d + 0) T40  (fun m62 w63 h64 T65 F66 W67 X68 => ?_) (fun m71 w72 h73 T74 F75 W76 X77 X78 X79 X80 X81 => ?_) (fun m84 w85 h86 T87 F88 W89 X90 X91 X92 B93 B94 => ?_)
      · have F95 := F45.trans F66 (by decide)
        have W96 : rf_W [10, 12, 13, 14, 16, 17, 18, 22] m m62 := W50.trans W67 (by decide)
        have B97 : sf_B 0 600 (m62 10) := T65.2.2.1 10
        have B98 : sf_B 0 4 (m62 13) := T65.2.2.1 13
        have B99 : sf_B 0 4 (m62 17) := T65.2.2.1 17
        have B100 : sf_B 0 1 (m62 22) := T65.2.2.1 22
        show pm_R _ 187 92 [.ref 41, .long a0, pm_no, .int a1] [.int 0] _ _
        have R101 : (m 10).toInt ≤ (m62 10).toInt := (sf_aux70 _ _ _ R53 X68)
        refine pm_R_br pm_M187 (pc_q := 122) (st_q := []) rfl rfl ?_
        refine pm_R_op pm_M187 (pc_q := 123) (st_q := [.int 0]) (pm_q187_1 (Nat.le_of_ble_eq_true rfl)) rfl rfl ?_
        exact pm_R_ret pm_M187 (r := some (.int 0)) (pm_q187_1 (Nat.le_of_ble_eq_true rfl)) rfl (K0 m62 w63 h64 T65 F95 W96 (sf_aux51 _ _ R101))
      · have F102 := F45.trans F75 (by decide)
        have W103 : rf_W [10, 12, 13, 14, 16, 17, 18, 22] m m71 := W50.trans W76 (by decide)
        have B104 : sf_B 0 600 (m71 10) := T74.2.2.1 10
        have B105 : sf_B 0 4 (m71 13) := T74.2.2.1 13
        have B106 : sf_B 0 4 (m71 17) := T74.2.2.1 17
        have B107 : sf_B 0 1 (m71 22) := T74.2.2.1 22
        show pm_R _ 187 92 [.ref 41, .long a0, pm_no, .int a1] [.int 1] _ _
        have R108 : (m 10).toInt ≤ (m71 10).toInt := (sf_aux70 _ _ _ R53 X81)
        obtain ⟨v109, B110, e111⟩ := X77 _ e58
        refine pm_R_br pm_M187 (pc_q := 95) (st_q := []) rfl rfl ?_
        refine pm_R_lo pm_M187 (pc_q := 96) rfl rfl rfl ?_
        refine pm_R_op pm_M187 (pc_q := 97) (st_q := [.int 1, .ref 41]) rfl rfl rfl ?_
        refine pm_R_op pm_M187 (pc_q := 98) (st_q := [.int 5, .int 1, .ref 41]) rfl rfl rfl ?_
        refine pm_R_op pm_M187 (pc_q := 99) (st_q := [.int (-1), .int 5, .int 1, .ref 41]) rfl rfl rfl ?_
        refine pm_R_cv pm_M187 (pc_q := 102) (a := 41) (ra := [.int (-1), .int 5, .int 1]) (rest := []) (ls_q := [.ref 41, .int 1, .int 5, .int (-1)]) rfl rfl (Or.inl rfl) pm_M183 T74.2.1 rfl (by decide) (Nat.lt_of_lt_of_le (by decide) T74.1) rfl rfl (Nat.le_of_ble_eq_true rfl) rfl rfl ?_
        refine rf_c183_1_5 (d := d + 0) T74  (fun m114 w115 h116 T117 F118 W119 X120 => ?_) (fun m123 w124 h125 T126 F127 W128 X129 X130 X131 X132 X133 => ?_) (fun m136 w137 h138 T139 F140 W141 X142 X143 X144 B145 B146 => ?_)
        · have F147 := F102.trans F118 (by decide)
          have W148 : rf_W [10, 12, 13, 14, 16, 17, 18, 22] m m114 := W103.trans W119 (by decide)
          have B149 : sf_B 0 600 (m114 10) := T117.2.2.1 10
          have B150 : sf_B 0 4 (m114 13) := T117.2.2.1 13
          have B151 : sf_B 0 4 (m114 17) := T117.2.2.1 17
          have B152 : sf_B 0 1 (m114 22) := T117.2.2.1 22
          show pm_R _ 187 102 [.ref 41, .long a0, pm_no, .int a1] [.int 0] _ _
          have R153 : (m 10).toInt ≤ (m114 10).toInt := (sf_aux70 _ _ _ R108 X120)
          refine pm_R_br pm_M187 (pc_q := 122) (st_q := []) rfl rfl ?_
          refine pm_R_op pm_M187 (pc_q := 123) (st_q := [.int 0]) (pm_q187_1 (Nat.le_of_ble_eq_true rfl)) rfl rfl ?_
          exact pm_R_ret pm_M187 (r := some (.int 0)) (pm_q187_1 (Nat.le_of_ble_eq_true rfl)) rfl (K0 m114 w115 h116 T117 F147 W148 (sf_aux51 _ _ R153))
        · have F154 := F102.trans F127 (by decide)
          have W155 : rf_W [10, 12, 13, 14, 16, 17, 18, 22] m m123 := W103.trans W128 (by decide)
          have B156 : sf_B 0 600 (m123 10) := T126.2.2.1 10
          have B157 : sf_B 0 4 (m123 13) := T126.2.2.1 13
          have B158 : sf_B 0 4 (m123 17) := T126.2.2.1 17
          have B159 : sf_B 0 1 (m123 22) := T126.2.2.1 22
          show pm_R _ 187 102 [.ref 41, .long a0, pm_no, .int a1] [.int 1] _ _
          have R160 : (m 10).toInt ≤ (m123 10).toInt := (sf_aux70 _ _ _ R108 X133)
          obtain ⟨v161, B162, e163⟩ := X129 _ e111
          refine pm_R_br pm_M187 (pc_q := 105) (st_q := []) rfl rfl ?_
          refine pm_R_lo pm_M187 (pc_q := 106) rfl rfl rfl ?_
          refine pm_R_op pm_M187 (pc_q := 107) (st_q := [.int 2, .ref 41]) rfl rfl rfl ?_
          refine pm_R_op pm_M187 (pc_q := 108) (st_q := [.int 5, .int 2, .ref 41]) rfl rfl rfl ?_
          refine pm_R_op pm_M187 (pc_q := 109) (st_q := [.int (-1), .int 5, .int 2, .ref 41]) (pm_q187_1 (Nat.le_of_ble_eq_true rfl)) rfl rfl ?_
          refine pm_R_cv pm_M187 (pc_q := 112) (a := 41) (ra := [.int (-1), .int 5, .int 2]) (rest := []) (ls_q := [.ref 41, .int 2, .int 5, .int (-1)]) (pm_q187_1 (Nat.le_of_ble_eq_true rfl)) rfl (Or.inl rfl) pm_M183 T126.2.1 rfl (by decide) (Nat.lt_of_lt_of_le (by decide) T126.1) rfl rfl (Nat.le_of_ble_eq_true rfl) rfl rfl ?_
          refine rf_c183_2_5 (d := d + 0) T126  (fun m166 w167 h168 T169 F170 W171 X172 => ?_) (fun m175 w176 h177 T178 F179 W180 X181 X182 X183 X184 X185 => ?_) (fun m188 w189 h190 T191 F192 W193 X194 X195 X196 B197 B198 => ?_)
          · have F199 := F154.trans F170 (by decide)
            have W200 : rf_W [10, 12, 13, 14, 16, 17, 18, 22] m m166 := W155.trans W171 (by decide)
            have B201 : sf_B 0 600 (m166 10) := T169.2.2.1 10
            have B202 : sf_B 0 4 (m166 13) := T169.2.2.1 13
            have B203 : sf_B 0 4 (m166 17) := T169.2.2.1 17
            have B204 : sf_B 0 1 (m166 22) := T169.2.2.1 22
            show pm_R _ 187 112 [.ref 41, .long a0, pm_no, .int a1] [.int 0] _ _
            have R205 : (m 10).toInt ≤ (m166 10).toInt := (sf_aux70 _ _ _ R160 X172)
            refine pm_R_br pm_M187 (pc_q := 122) (st_q := []) (pm_q187_1 (Nat.le_of_ble_eq_true rfl)) rfl ?_
            refine pm_R_op pm_M187 (pc_q := 123) (st_q := [.int 0]) (pm_q187_1 (Nat.le_of_ble_eq_true rfl)) rfl rfl ?_
            exact pm_R_ret pm_M187 (r := some (.int 0)) (pm_q187_1 (Nat.le_of_ble_eq_true rfl)) rfl (K0 m166 w167 h168 T169 F199 W200 (sf_aux51 _ _ R205))
          · have F206 := F154.trans F179 (by decide)
            have W207 : rf_W [10, 12, 13, 14, 16, 17, 18, 22] m m175 := W155.trans W180 (by decide)
            have B208 : sf_B 0 600 (m175 10) := T178.2.2.1 10
            have B209 : sf_B 0 4 (m175 13) := T178.2.2.1 13
            have B210 : sf_B 0 4 (m175 17) := T178.2.2.1 17
            have B211 : sf_B 0 1 (m175 22) := T178.2.2.1 22
            show pm_R _ 187 112 [.ref 41, .long a0, pm_no, .int a1] [.int 1] _ _
            have R212 : (m 10).toInt ≤ (m175 10).toInt := (sf_aux70 _ _ _ R160 X185)
            obtain ⟨v213, B214, e215⟩ := X181 _ e163
            refine pm_R_br pm_M187 (pc_q := 115) (st_q := []) (pm_q187_1 (Nat.le_of_ble_eq_true rfl)) rfl ?_
            refine pm_R_lo pm_M187 (pc_q := 116) (pm_q187_1 (Nat.le_of_ble_eq_true rfl)) rfl rfl ?_
            refine pm_R_cv pm_M187 (pc_q := 119) (a := 41) (ra := []) (rest := []) (ls_q := [.ref 41, pm_no, pm_no]) (pm_q187_1 (Nat.le_of_ble_eq_true rfl)) rfl (Or.inl rfl) pm_M188 T178.2.1 rfl (by decide) (Nat.lt_of_lt_of_le (by decide) T178.1) rfl rfl (Nat.le_of_ble_eq_true rfl) rfl rfl ?_
            refine rf_c188 (d := d + 0) T178  (fun m218 w219 h220 T221 F222 W223 X224 => ?_) (fun m227 w228 h229 T230 F231 W232 X233 X234 => ?_)
            · have F235 := F206.trans F222 (by decide)
              have B236 : sf_B 1 4 (m218 17) := by rw [W223 17 (by decide)]; exact (sf_eqT X182 (sf_eqT X130 (sf_eqT X78 B46)))
              have ek237 : (m218 17).toInt = ((m123 17)).toInt := by rw [W223 17 (by decide)]; exact X182
              have B238 : sf_B 0 1 (m218 22) := by rw [W223 22 (by decide)]; exact (sf_eqT X183 (sf_eqT X131 (sf_eqT X79 B48)))
              have ek239 : (m218 22).toInt = ((m123 22)).toInt := by rw [W223 22 (by decide)]; exact X183
              have W240 : rf_W [10, 12, 13, 14, 16, 17, 18, 22] m m218 := W207.trans W223 (by decide)
              have B241 : sf_B 0 600 (m218 10) := T221.2.2.1 10
              have B242 : sf_B 0 4 (m218 13) := T221.2.2.1 13
              show pm_R _ 187 119 [.ref 41, .long a0, pm_no, .int a1] [.int 0] _ _
              have R243 : (m 10).toInt ≤ (m218 10).toInt := (sf_aux70 _ _ _ R212 X224)
              refine pm_R_br pm_M187 (pc_q := 122) (st_q := []) (pm_q187_1 (Nat.le_of_ble_eq_true rfl)) rfl ?_
              refine pm_R_op pm_M187 (pc_q := 123) (st_q := [.int 0]) (pm_q187_1 (Nat.le_of_ble_eq_true rfl)) rfl rfl ?_
              exact pm_R_ret pm_M187 (r := some (.int 0)) (pm_q187_1 (Nat.le_of_ble_eq_true rfl)) rfl (K0 m218 w219 h220 T221 F235 W240 (sf_aux51 _ _ R243))
            · have F244 := F206.trans F231 (by decide)
              have B245 : sf_B 1 4 (m227 17) := by rw [W232 17 (by decide)]; exact (sf_eqT X182 (sf_eqT X130 (sf_eqT X78 B46)))
              have ek246 : (m227 17).toInt = ((m123 17)).toInt := by rw [W232 17 (by decide)]; exact X182
              have B247 : sf_B 0 1 (m227 22) := by rw [W232 22 (by decide)]; exact (sf_eqT X183 (sf_eqT X131 (sf_eqT X79 B48)))
              have ek248 : (m227 22).toInt = ((m123 22)).toInt := by rw [W232 22 (by decide)]; exact X183
              have W249 : rf_W [10, 12, 13, 14, 16, 17, 18, 22] m m227 := W207.trans W232 (by decide)
              have B250 : sf_B 0 600 (m227 10) := T230.2.2.1 10
              have B251 : sf_B 0 4 (m227 13) := T230.2.2.1 13
              show pm_R _ 187 119 [.ref 41, .long a0, pm_no, .int a1] [.int 1] _ _
              have R252 : (m 10).toInt ≤ (m227 10).toInt := (sf_aux70 _ _ _ R212 X234)
              obtain ⟨v253, B254, e255⟩ := X233 _ e215
              refine pm_R_br pm_M187 (pc_q := 124) (st_q := []) (pm_q187_1 (Nat.le_of_ble_eq_true rfl)) rfl ?_
              refine pm_R_lo pm_M187 (pc_q := 125) (pm_q187_1 (Nat.le_of_ble_eq_true rfl)) rfl rfl ?_
              refine pm_R_op pm_M187 (pc_q := 126) (st_q := [.int 0, .ref 41]) (pm_q187_1 (Nat.le_of_ble_eq_true rfl)) rfl rfl ?_
              refine pm_R_op pm_M187 (pc_q := 127) (st_q := [.int 2, .int 0, .ref 41]) (pm_q187_1 (Nat.le_of_ble_eq_true rfl)) rfl rfl ?_
              refine pm_R_op pm_M187 (pc_q := 128) (st_q := [.int 4, .int 2, .int 0, .ref 41]) (pm_q187_1 (Nat.le_of_ble_eq_true rfl)) rfl rfl ?_
              refine pm_R_op pm_M187 (pc_q := 130) (st_q := [.int 10, .int 4, .int 2, .int 0, .ref 41]) (pm_q187_1 (Nat.le_of_ble_eq_true rfl)) rfl rfl ?_
              refine pm_R_op pm_M187 (pc_q := 131) (st_q := [.int 0, .int 10, .int 4, .int 2, .int 0, .ref 41]) (pm_q187_1 (Nat.le_of_ble_eq_true rfl)) rfl rfl ?_
              refine pm_R_cv pm_M187 (pc_q := 134) (a := 41) (ra := [.int 0, .int 10, .int 4, .int 2, .int 0]) (rest := []) (ls_q := [.ref 41, .int 0, .int 2, .int 4, .int 10, .int 0, pm_no, pm_no]) (pm_q187_1 (Nat.le_of_ble_eq_true rfl)) rfl (Or.inl rfl) pm_M185 T230.2.1 rfl (by decide) (Nat.lt_of_lt_of_le (by decide) T230.1) rfl rfl (Nat.le_of_ble_eq_true rfl) rfl rfl ?_
              have e256 := (F231.cell (by decide) (F179.cell (by decide) (F127.cell (by decide) (F75.cell (by decide) (F41.cell (by decide) (F25.cell (by decide) e3))))))
              refine rf_c185_r (d := d + 2) T230 (⟨f2, e256, ct4, fun z => (sf_pos B245 (by decide) z)⟩) (fun z => sf_pos B245 (by decide) z) (fun m259 w260 h261 T262 F263 W264 X265 => ?_)
              have F266 := F244.trans F263 (by decide)
              have B267 : sf_B 1 4 (m259 17) := by rw [W264 17 (by decide)]; exact B245
              have ek268 : (m259 17).toInt = ((m123 17)).toInt := by rw [W264 17 (by decide)]; exact ek246
              have B269 : sf_B 0 1 (m259 22) := by rw [W264 22 (by decide)]; exact B247
              have ek270 : (m259 22).toInt = ((m123 22)).toInt := by rw [W264 22 (by decide)]; exact ek248
              have B271 : sf_B 0 600 (m259 10) := by rw [W264 10 (by decide)]; exact B250
              have ek272 : (m259 10).toInt = ((m227 10)).toInt := by rw [W264 10 (by decide)]
              have B273 : sf_B 0 4 (m259 13) := by rw [W264 13 (by decide)]; exact B251
              have ek274 : (m259 13).toInt = ((m227 13)).toInt := by rw [W264 13 (by decide)]
              have W275 : rf_W [10, 12, 13, 14, 16, 17, 18, 22] m m259 := W249.trans W264 (by decide)
              show pm_R _ 187 134 [.ref 41, .long a0, pm_no, .int a1] [] _ _
              obtain ⟨f276, e277, ct278, bd279⟩ := X265
              refine pm_R_op pm_M187 (pc_q := 135) (st_q := [.int 1]) (pm_q187_1 (Nat.le_of_ble_eq_true rfl)) rfl rfl ?_
              exact pm_R_ret pm_M187 (r := some (.int 1)) (pm_q187_1 (Nat.le_of_ble_eq_true rfl)) rfl (K1 m259 w260 h261 T262 F266 W275 (⟨f276, e277, ct278, fun z => (sf_pos B267 (by decide) z)⟩) (sf_aux39 _ _ _ ek272 R252))
          · have F280 := F154.trans F192 (by decide)
            have W281 : rf_W [10, 12, 13, 14, 16, 17, 18, 22] m m188 := W155.trans W193 (by decide)
            have B282 : sf_B 0 600 (m188 10) := T191.2.2.1 10
            have B283 : sf_B 0 4 (m188 13) := T191.2.2.1 13
            have B284 : sf_B 0 4 (m188 17) := T191.2.2.1 17
            have B285 : sf_B 0 1 (m188 22) := T191.2.2.1 22
            show pm_R _ 187 112 [.ref 41, .long a0, pm_no, .int a1] [.int 1] _ _
            have R286 : (m 10).toInt ≤ (m188 10).toInt := (sf_aux70 _ _ _ R160 X196)
            obtain ⟨v287, B288, e289⟩ := X194 _ e163
            refine pm_R_br pm_M187 (pc_q := 115) (st_q := []) (pm_q187_1 (Nat.le_of_ble_eq_true rfl)) rfl ?_
            refine pm_R_lo pm_M187 (pc_q := 116) (pm_q187_1 (Nat.le_of_ble_eq_true rfl)) rfl rfl ?_
            refine pm_R_cv pm_M187 (pc_q := 119) (a := 41) (ra := []) (rest := []) (ls_q := [.ref 41, pm_no, pm_no]) (pm_q187_1 (Nat.le_of_ble_eq_true rfl)) rfl (Or.inl rfl) pm_M188 T191.2.1 rfl (by decide) (Nat.lt_of_lt_of_le (by decide) T191.1) rfl rfl (Nat.le_of_ble_eq_true rfl) rfl rfl ?_
            refine rf_c188 (d := d + 0) T191  (fun m292 w293 h294 T295 F296 W297 X298 => ?_) (fun m301 w302 h303 T304 F305 W306 X307 X308 => ?_)
            · have F309 := F280.trans F296 (by decide)
              have B310 : sf_B 1 4 (m292 17) := by rw [W297 17 (by decide)]; exact B197
              have ek311 : (m292 17).toInt = ((m188 17)).toInt := by rw [W297 17 (by decide)]
              have B312 : sf_B 0 0 (m292 22) := by rw [W297 22 (by decide)]; exact B198
              have ek313 : (m292 22).toInt = ((m188 22)).toInt := by rw [W297 22 (by decide)]
              have W314 : rf_W [10, 12, 13, 14, 16, 17, 18, 22] m m292 := W281.trans W297 (by decide)
              have B315 : sf_B 0 600 (m292 10) := T295.2.2.1 10
              have B316 : sf_B 0 4 (m292 13) := T295.2.2.1 13
              show pm_R _ 187 119 [.ref 41, .long a0, pm_no, .int a1] [.int 0] _ _
              have R317 : (m 10).toInt ≤ (m292 10).toInt := (sf_aux70 _ _ _ R286 X298)
              refine pm_R_br pm_M187 (pc_q := 122) (st_q := []) (pm_q187_1 (Nat.le_of_ble_eq_true rfl)) rfl ?_
              refine pm_R_op pm_M187 (pc_q := 123) (st_q := [.int 0]) (pm_q187_1 (Nat.le_of_ble_eq_true rfl)) rfl rfl ?_
              exact pm_R_ret pm_M187 (r := some (.int 0)) (pm_q187_1 (Nat.le_of_ble_eq_true rfl)) rfl (K0 m292 w293 h294 T295 F309 W314 (sf_aux51 _ _ R317))
            · have F318 := F280.trans F305 (by decide)
              have B319 : sf_B 1 4 (m301 17) := by rw [W306 17 (by decide)]; exact B197
              have ek320 : (m301 17).toInt = ((m188 17)).toInt := by rw [W306 17 (by decide)]
              have B321 : sf_B 0 0 (m301 22) := by rw [W306 22 (by decide)]; exact B198
              have ek322 : (m301 22).toInt = ((m188 22)).toInt := by rw [W306 22 (by decide)]
              have W323 : rf_W [10, 12, 13, 14, 16, 17, 18, 22] m m301 := W281.trans W306 (by decide)
              have B324 : sf_B 0 600 (m301 10) := T304.2.2.1 10
              have B325 : sf_B 0 4 (m301 13) := T304.2.2.1 13
              show pm_R _ 187 119 [.ref 41, .long a0, pm_no, .int a1] [.int 1] _ _
              have R326 : (m 10).toInt ≤ (m301 10).toInt := (sf_aux70 _ _ _ R286 X308)
              obtain ⟨v327, B328, e329⟩ := X307 _ e289
              refine pm_R_br pm_M187 (pc_q := 124) (st_q := []) (pm_q187_1 (Nat.le_of_ble_eq_true rfl)) rfl ?_
              refine pm_R_lo pm_M187 (pc_q := 125) (pm_q187_1 (Nat.le_of_ble_eq_true rfl)) rfl rfl ?_
              refine pm_R_op pm_M187 (pc_q := 126) (st_q := [.int 0, .ref 41]) (pm_q187_1 (Nat.le_of_ble_eq_true rfl)) rfl rfl ?_
              refine pm_R_op pm_M187 (pc_q := 127) (st_q := [.int 2, .int 0, .ref 41]) (pm_q187_1 (Nat.le_of_ble_eq_true rfl)) rfl rfl ?_
              refine pm_R_op pm_M187 (pc_q := 128) (st_q := [.int 4, .int 2, .int 0, .ref 41]) (pm_q187_1 (Nat.le_of_ble_eq_true rfl)) rfl rfl ?_
              refine pm_R_op pm_M187 (pc_q := 130) (st_q := [.int 10, .int 4, .int 2, .int 0, .ref 41]) (pm_q187_1 (Nat.le_of_ble_eq_true rfl)) rfl rfl ?_
              refine pm_R_op pm_M187 (pc_q := 131) (st_q := [.int 0, .int 10, .int 4, .int 2, .int 0, .ref 41]) (pm_q187_1 (Nat.le_of_ble_eq_true rfl)) rfl rfl ?_
              refine pm_R_cv pm_M187 (pc_q := 134) (a := 41) (ra := [.int 0, .int 10, .int 4, .int 2, .int 0]) (rest := []) (ls_q := [.ref 41, .int 0, .int 2, .int 4, .int 10, .int 0, pm_no, pm_no]) (pm_q187_1 (Nat.le_of_ble_eq_true rfl)) rfl (Or.inl rfl) pm_M185 T304.2.1 rfl (by decide) (Nat.lt_of_lt_of_le (by decide) T304.1) rfl rfl (Nat.le_of_ble_eq_true rfl) rfl rfl ?_
              have e330 := (F305.cell (by decide) (F192.cell (by decide) (F127.cell (by decide) (F75.cell (by decide) (F41.cell (by decide) (F25.cell (by decide) e3))))))
              refine rf_c185_r (d := d + 2) T304 (⟨f2, e330, ct4, fun z => (sf_pos B319 (by decide) z)⟩) (fun z => sf_pos B319 (by decide) z) (fun m333 w334 h335 T336 F337 W338 X339 => ?_)
              have F340 := F318.trans F337 (by decide)
              have B341 : sf_B 1 4 (m333 17) := by rw [W338 17 (by decide)]; exact B319
              have ek342 : (m333 17).toInt = ((m188 17)).toInt := by rw [W338 17 (by decide)]; exact ek320
              have B343 : sf_B 0 0 (m333 22) := by rw [W338 22 (by decide)]; exact B321
              have ek344 : (m333 22).toInt = ((m188 22)).toInt := by rw [W338 22 (by decide)]; exact ek322
              have B345 : sf_B 0 600 (m333 10) := by rw [W338 10 (by decide)]; exact B324
              have ek346 : (m333 10).toInt = ((m301 10)).toInt := by rw [W338 10 (by decide)]
              have B347 : sf_B 0 4 (m333 13) := by rw [W338 13 (by decide)]; exact B325
              have ek348 : (m333 13).toInt = ((m301 13)).toInt := by rw [W338 13 (by decide)]
              have W349 : rf_W [10, 12, 13, 14, 16, 17, 18, 22] m m333 := W323.trans W338 (by decide)
              show pm_R _ 187 134 [.ref 41, .long a0, pm_no, .int a1] [] _ _
              obtain ⟨f350, e351, ct352, bd353⟩ := X339
              refine pm_R_op pm_M187 (pc_q := 135) (st_q := [.int 1]) (pm_q187_1 (Nat.le_of_ble_eq_true rfl)) rfl rfl ?_
              exact pm_R_ret pm_M187 (r := some (.int 1)) (pm_q187_1 (Nat.le_of_ble_eq_true rfl)) rfl (K1 m333 w334 h335 T336 F340 W349 (⟨f350, e351, ct352, fun z => (sf_pos B341 (by decide) z)⟩) (sf_aux39 _ _ _ ek346 R326))
        · have F354 := F102.trans F140 (by decide)
          have W355 : rf_W [10, 12, 13, 14, 16, 17, 18, 22] m m136 := W103.trans W141 (by decide)
          have B356 : sf_B 0 600 (m136 10) := T139.2.2.1 10
          have B357 : sf_B 0 4 (m136 13) := T139.2.2.1 13
          have B358 : sf_B 0 4 (m136 17) := T139.2.2.1 17
          have B359 : sf_B 0 1 (m136 22) := T139.2.2.1 22
          show pm_R _ 187 102 [.ref 41, .long a0, pm_no, .int a1] [.int 1] _ _
          have R360 : (m 10).toInt ≤ (m136 10).toInt := (sf_aux70 _ _ _ R108 X144)
          obtain ⟨v361, B362, e363⟩ := X142 _ e111
          refine pm_R_br pm_M187 (pc_q := 105) (st_q := []) rfl rfl ?_
          refine pm_R_lo pm_M187 (pc_q := 106) rfl rfl rfl ?_
          refine pm_R_op pm_M187 (pc_q := 107) (st_q := [.int 2, .ref 41]) rfl rfl rfl ?_
          refine pm_R_op pm_M187 (pc_q := 108) (st_q := [.int 5, .int 2, .ref 41]) rfl rfl rfl ?_
          refine pm_R_op pm_M187 (pc_q := 109) (st_q := [.int (-1), .int 5, .int 2, .ref 41]) (pm_q187_1 (Nat.le_of_ble_eq_true rfl)) rfl rfl ?_
          refine pm_R_cv pm_M187 (pc_q := 112) (a := 41) (ra := [.int (-1), .int 5, .int 2]) (rest := []) (ls_q := [.ref 41, .int 2, .int 5, .int (-1)]) (pm_q187_1 (Nat.le_of_ble_eq_true rfl)) rfl (Or.inl rfl) pm_M183 T139.2.1 rfl (by decide) (Nat.lt_of_lt_of_le (by decide) T139.1) rfl rfl (Nat.le_of_ble_eq_true rfl) rfl rfl ?_
          refine rf_c183_2_5 (d := d + 0) T139  (fun m366 w367 h368 T369 F370 W371 X372 => ?_) (fun m375 w376 h377 T378 F379 W380 X381 X382 X383 X384 X385 => ?_) (fun m388 w389 h390 T391 F392 W393 X394 X395 X396 B397 B398 => ?_)
          · have F399 := F354.trans F370 (by decide)
            have W400 : rf_W [10, 12, 13, 14, 16, 17, 18, 22] m m366 := W355.trans W371 (by decide)
            have B401 : sf_B 0 600 (m366 10) := T369.2.2.1 10
            have B402 : sf_B 0 4 (m366 13) := T369.2.2.1 13
            have B403 : sf_B 0 4 (m366 17) := T369.2.2.1 17
            have B404 : sf_B 0 1 (m366 22) := T369.2.2.1 22
            show pm_R _ 187 112 [.ref 41, .long a0, pm_no, .int a1] [.int 0] _ _
            have R405 : (m 10).toInt ≤ (m366 10).toInt := (sf_aux70 _ _ _ R360 X372)
            refine pm_R_br pm_M187 (pc_q := 122) (st_q := []) (pm_q187_1 (Nat.le_of_ble_eq_true rfl)) rfl ?_
            refine pm_R_op pm_M187 (pc_q := 123) (st_q := [.int 0]) (pm_q187_1 (Nat.le_of_ble_eq_true rfl)) rfl rfl ?_
            exact pm_R_ret pm_M187 (r := some (.int 0)) (pm_q187_1 (Nat.le_of_ble_eq_true rfl)) rfl (K0 m366 w367 h368 T369 F399 W400 (sf_aux51 _ _ R405))
          · have F406 := F354.trans F379 (by decide)
            have W407 : rf_W [10, 12, 13, 14, 16, 17, 18, 22] m m375 := W355.trans W380 (by decide)
            have B408 : sf_B 0 600 (m375 10) := T378.2.2.1 10
            have B409 : sf_B 0 4 (m375 13) := T378.2.2.1 13
            have B410 : sf_B 0 4 (m375 17) := T378.2.2.1 17
            have B411 : sf_B 0 1 (m375 22) := T378.2.2.1 22
            show pm_R _ 187 112 [.ref 41, .long a0, pm_no, .int a1] [.int 1] _ _
            have R412 : (m 10).toInt ≤ (m375 10).toInt := (sf_aux70 _ _ _ R360 X385)
            obtain ⟨v413, B414, e415⟩ := X381 _ e363
            refine pm_R_br pm_M187 (pc_q := 115) (st_q := []) (pm_q187_1 (Nat.le_of_ble_eq_true rfl)) rfl ?_
            refine pm_R_lo pm_M187 (pc_q := 116) (pm_q187_1 (Nat.le_of_ble_eq_true rfl)) rfl rfl ?_
            refine pm_R_cv pm_M187 (pc_q := 119) (a := 41) (ra := []) (rest := []) (ls_q := [.ref 41, pm_no, pm_no]) (pm_q187_1 (Nat.le_of_ble_eq_true rfl)) rfl (Or.inl rfl) pm_M188 T378.2.1 rfl (by decide) (Nat.lt_of_lt_of_le (by decide) T378.1) rfl rfl (Nat.le_of_ble_eq_true rfl) rfl rfl ?_
            refine rf_c188 (d := d + 0) T378  (fun m418 w419 h420 T421 F422 W423 X424 => ?_) (fun m427 w428 h429 T430 F431 W432 X433 X434 => ?_)
            · have F435 := F406.trans F422 (by decide)
              have B436 : sf_B 1 4 (m418 17) := by rw [W423 17 (by decide)]; exact (sf_eqT X382 B145)
              have ek437 : (m418 17).toInt = ((m136 17)).toInt := by rw [W423 17 (by decide)]; exact X382
              have B438 : sf_B 0 0 (m418 22) := by rw [W423 22 (by decide)]; exact (sf_eqT X383 B146)
              have ek439 : (m418 22).toInt = ((m136 22)).toInt := by rw [W423 22 (by decide)]; exact X383
              have W440 : rf_W [10, 12, 13, 14, 16, 17, 18, 22] m m418 := W407.trans W423 (by decide)
              have B441 : sf_B 0 600 (m418 10) := T421.2.2.1 10
              have B442 : sf_B 0 4 (m418 13) := T421.2.2.1 13
              show pm_R _ 187 119 [.ref 41, .long a0, pm_no, .int a1] [.int 0] _ _
              have R443 : (m 10).toInt ≤ (m418 10).toInt := (sf_aux70 _ _ _ R412 X424)
              refine pm_R_br pm_M187 (pc_q := 122) (st_q := []) (pm_q187_1 (Nat.le_of_ble_eq_true rfl)) rfl ?_
              refine pm_R_op pm_M187 (pc_q := 123) (st_q := [.int 0]) (pm_q187_1 (Nat.le_of_ble_eq_true rfl)) rfl rfl ?_
              exact pm_R_ret pm_M187 (r := some (.int 0)) (pm_q187_1 (Nat.le_of_ble_eq_true rfl)) rfl (K0 m418 w419 h420 T421 F435 W440 (sf_aux51 _ _ R443))
            · have F444 := F406.trans F431 (by decide)
              have B445 : sf_B 1 4 (m427 17) := by rw [W432 17 (by decide)]; exact (sf_eqT X382 B145)
              have ek446 : (m427 17).toInt = ((m136 17)).toInt := by rw [W432 17 (by decide)]; exact X382
              have B447 : sf_B 0 0 (m427 22) := by rw [W432 22 (by decide)]; exact (sf_eqT X383 B146)
              have ek448 : (m427 22).toInt = ((m136 22)).toInt := by rw [W432 22 (by decide)]; exact X383
              have W449 : rf_W [10, 12, 13, 14, 16, 17, 18, 22] m m427 := W407.trans W432 (by decide)
              have B450 : sf_B 0 600 (m427 10) := T430.2.2.1 10
              have B451 : sf_B 0 4 (m427 13) := T430.2.2.1 13
              show pm_R _ 187 119 [.ref 41, .long a0, pm_no, .int a1] [.int 1] _ _
              have R452 : (m 10).toInt ≤ (m427 10).toInt := (sf_aux70 _ _ _ R412 X434)
              obtain ⟨v453, B454, e455⟩ := X433 _ e415
              refine pm_R_br pm_M187 (pc_q := 124) (st_q := []) (pm_q187_1 (Nat.le_of_ble_eq_true rfl)) rfl ?_
              refine pm_R_lo pm_M187 (pc_q := 125) (pm_q187_1 (Nat.le_of_ble_eq_true rfl)) rfl rfl ?_
              refine pm_R_op pm_M187 (pc_q := 126) (st_q := [.int 0, .ref 41]) (pm_q187_1 (Nat.le_of_ble_eq_true rfl)) rfl rfl ?_
              refine pm_R_op pm_M187 (pc_q := 127) (st_q := [.int 2, .int 0, .ref 41]) (pm_q187_1 (Nat.le_of_ble_eq_true rfl)) rfl rfl ?_
              refine pm_R_op pm_M187 (pc_q := 128) (st_q := [.int 4, .int 2, .int 0, .ref 41]) (pm_q187_1 (Nat.le_of_ble_eq_true rfl)) rfl rfl ?_
              refine pm_R_op pm_M187 (pc_q := 130) (st_q := [.int 10, .int 4, .int 2, .int 0, .ref 41]) (pm_q187_1 (Nat.le_of_ble_eq_true rfl)) rfl rfl ?_
              refine pm_R_op pm_M187 (pc_q := 131) (st_q := [.int 0, .int 10, .int 4, .int 2, .int 0, .ref 41]) (pm_q187_1 (Nat.le_of_ble_eq_true rfl)) rfl rfl ?_
              refine pm_R_cv pm_M187 (pc_q := 134) (a := 41) (ra := [.int 0, .int 10, .int 4, .int 2, .int 0]) (rest := []) (ls_q := [.ref 41, .int 0, .int 2, .int 4, .int 10, .int 0, pm_no, pm_no]) (pm_q187_1 (Nat.le_of_ble_eq_true rfl)) rfl (Or.inl rfl) pm_M185 T430.2.1 rfl (by decide) (Nat.lt_of_lt_of_le (by decide) T430.1) rfl rfl (Nat.le_of_ble_eq_true rfl) rfl rfl ?_
              have e456 := (F431.cell (by decide) (F379.cell (by decide) (F140.cell (by decide) (F75.cell (by decide) (F41.cell (by decide) (F25.cell (by decide) e3))))))
              refine rf_c185_r (d := d + 2) T430 (⟨f2, e456, ct4, fun z => (sf_pos B445 (by decide) z)⟩) (fun z => sf_pos B445 (by decide) z) (fun m459 w460 h461 T462 F463 W464 X465 => ?_)
              have F466 := F444.trans F463 (by decide)
              have B467 : sf_B 1 4 (m459 17) := by rw [W464 17 (by decide)]; exact B445
              have ek468 : (m459 17).toInt = ((m136 17)).toInt := by rw [W464 17 (by decide)]; exact ek446
              have B469 : sf_B 0 0 (m459 22) := by rw [W464 22 (by decide)]; exact B447
              have ek470 : (m459 22).toInt = ((m136 22)).toInt := by rw [W464 22 (by decide)]; exact ek448
              have B471 : sf_B 0 600 (m459 10) := by rw [W464 10 (by decide)]; exact B450
              have ek472 : (m459 10).toInt = ((m427 10)).toInt := by rw [W464 10 (by decide)]
              have B473 : sf_B 0 4 (m459 13) := by rw [W464 13 (by decide)]; exact B451
              have ek474 : (m459 13).toInt = ((m427 13)).toInt := by rw [W464 13 (by decide)]
              have W475 : rf_W [10, 12, 13, 14, 16, 17, 18, 22] m m459 := W449.trans W464 (by decide)
              show pm_R _ 187 134 [.ref 41, .long a0, pm_no, .int a1] [] _ _
              obtain ⟨f476, e477, ct478, bd479⟩ := X465
              refine pm_R_op pm_M187 (pc_q := 135) (st_q := [.int 1]) (pm_q187_1 (Nat.le_of_ble_eq_true rfl)) rfl rfl ?_
              exact pm_R_ret pm_M187 (r := some (.int 1)) (pm_q187_1 (Nat.le_of_ble_eq_true rfl)) rfl (K1 m459 w460 h461 T462 F466 W475 (⟨f476, e477, ct478, fun z => (sf_pos B467 (by decide) z)⟩) (sf_aux39 _ _ _ ek472 R452))
          · have F480 := F354.trans F392 (by decide)
            have W481 : rf_W [10, 12, 13, 14, 16, 17, 18, 22] m m388 := W355.trans W393 (by decide)
            have B482 : sf_B 0 600 (m388 10) := T391.2.2.1 10
            have B483 : sf_B 0 4 (m388 13) := T391.2.2.1 13
            have B484 : sf_B 0 4 (m388 17) := T391.2.2.1 17
            have B485 : sf_B 0 1 (m388 22) := T391.2.2.1 22
            show pm_R _ 187 112 [.ref 41, .long a0, pm_no, .int a1] [.int 1] _ _
            have R486 : (m 10).toInt ≤ (m388 10).toInt := (sf_aux70 _ _ _ R360 X396)
            obtain ⟨v487, B488, e489⟩ := X394 _ e363
            refine pm_R_br pm_M187 (pc_q := 115) (st_q := []) (pm_q187_1 (Nat.le_of_ble_eq_true rfl)) rfl ?_
            refine pm_R_lo pm_M187 (pc_q := 116) (pm_q187_1 (Nat.le_of_ble_eq_true rfl)) rfl rfl ?_
            refine pm_R_cv pm_M187 (pc_q := 119) (a := 41) (ra := []) (rest := []) (ls_q := [.ref 41, pm_no, pm_no]) (pm_q187_1 (Nat.le_of_ble_eq_true rfl)) rfl (Or.inl rfl) pm_M188 T391.2.1 rfl (by decide) (Nat.lt_of_lt_of_le (by decide) T391.1) rfl rfl (Nat.le_of_ble_eq_true rfl) rfl rfl ?_
            refine rf_c188 (d := d + 0) T391  (fun m492 w493 h494 T495 F496 W497 X498 => ?_) (fun m501 w502 h503 T504 F505 W506 X507 X508 => ?_)
            · have F509 := F480.trans F496 (by decide)
              have B510 : sf_B 1 4 (m492 17) := by rw [W497 17 (by decide)]; exact B397
              have ek511 : (m492 17).toInt = ((m388 17)).toInt := by rw [W497 17 (by decide)]
              have B512 : sf_B 0 0 (m492 22) := by rw [W497 22 (by decide)]; exact B398
              have ek513 : (m492 22).toInt = ((m388 22)).toInt := by rw [W497 22 (by decide)]
              have W514 : rf_W [10, 12, 13, 14, 16, 17, 18, 22] m m492 := W481.trans W497 (by decide)
              have B515 : sf_B 0 600 (m492 10) := T495.2.2.1 10
              have B516 : sf_B 0 4 (m492 13) := T495.2.2.1 13
              show pm_R _ 187 119 [.ref 41, .long a0, pm_no, .int a1] [.int 0] _ _
              have R517 : (m 10).toInt ≤ (m492 10).toInt := (sf_aux70 _ _ _ R486 X498)
              refine pm_R_br pm_M187 (pc_q := 122) (st_q := []) (pm_q187_1 (Nat.le_of_ble_eq_true rfl)) rfl ?_
              refine pm_R_op pm_M187 (pc_q := 123) (st_q := [.int 0]) (pm_q187_1 (Nat.le_of_ble_eq_true rfl)) rfl rfl ?_
              exact pm_R_ret pm_M187 (r := some (.int 0)) (pm_q187_1 (Nat.le_of_ble_eq_true rfl)) rfl (K0 m492 w493 h494 T495 F509 W514 (sf_aux51 _ _ R517))
            · have F518 := F480.trans F505 (by decide)
              have B519 : sf_B 1 4 (m501 17) := by rw [W506 17 (by decide)]; exact B397
              have ek520 : (m501 17).toInt = ((m388 17)).toInt := by rw [W506 17 (by decide)]
              have B521 : sf_B 0 0 (m501 22) := by rw [W506 22 (by decide)]; exact B398
              have ek522 : (m501 22).toInt = ((m388 22)).toInt := by rw [W506 22 (by decide)]
              have W523 : rf_W [10, 12, 13, 14, 16, 17, 18, 22] m m501 := W481.trans W506 (by decide)
              have B524 : sf_B 0 600 (m501 10) := T504.2.2.1 10
              have B525 : sf_B 0 4 (m501 13) := T504.2.2.1 13
              show pm_R _ 187 119 [.ref 41, .long a0, pm_no, .int a1] [.int 1] _ _
              have R526 : (m 10).toInt ≤ (m501 10).toInt := (sf_aux70 _ _ _ R486 X508)
              obtain ⟨v527, B528, e529⟩ := X507 _ e489
              refine pm_R_br pm_M187 (pc_q := 124) (st_q := []) (pm_q187_1 (Nat.le_of_ble_eq_true rfl)) rfl ?_
              refine pm_R_lo pm_M187 (pc_q := 125) (pm_q187_1 (Nat.le_of_ble_eq_true rfl)) rfl rfl ?_
              refine pm_R_op pm_M187 (pc_q := 126) (st_q := [.int 0, .ref 41]) (pm_q187_1 (Nat.le_of_ble_eq_true rfl)) rfl rfl ?_
              refine pm_R_op pm_M187 (pc_q := 127) (st_q := [.int 2, .int 0, .ref 41]) (pm_q187_1 (Nat.le_of_ble_eq_true rfl)) rfl rfl ?_
              refine pm_R_op pm_M187 (pc_q := 128) (st_q := [.int 4, .int 2, .int 0, .ref 41]) (pm_q187_1 (Nat.le_of_ble_eq_true rfl)) rfl rfl ?_
              refine pm_R_op pm_M187 (pc_q := 130) (st_q := [.int 10, .int 4, .int 2, .int 0, .ref 41]) (pm_q187_1 (Nat.le_of_ble_eq_true rfl)) rfl rfl ?_
              refine pm_R_op pm_M187 (pc_q := 131) (st_q := [.int 0, .int 10, .int 4, .int 2, .int 0, .ref 41]) (pm_q187_1 (Nat.le_of_ble_eq_true rfl)) rfl rfl ?_
              refine pm_R_cv pm_M187 (pc_q := 134) (a := 41) (ra := [.int 0, .int 10, .int 4, .int 2, .int 0]) (rest := []) (ls_q := [.ref 41, .int 0, .int 2, .int 4, .int 10, .int 0, pm_no, pm_no]) (pm_q187_1 (Nat.le_of_ble_eq_true rfl)) rfl (Or.inl rfl) pm_M185 T504.2.1 rfl (by decide) (Nat.lt_of_lt_of_le (by decide) T504.1) rfl rfl (Nat.le_of_ble_eq_true rfl) rfl rfl ?_
              have e530 := (F505.cell (by decide) (F392.cell (by decide) (F140.cell (by decide) (F75.cell (by decide) (F41.cell (by decide) (F25.cell (by decide) e3))))))
              refine rf_c185_r (d := d + 2) T504 (⟨f2, e530, ct4, fun z => (sf_pos B519 (by decide) z)⟩) (fun z => sf_pos B519 (by decide) z) (fun m533 w534 h535 T536 F537 W538 X539 => ?_)
              have F540 := F518.trans F537 (by decide)
              have B541 : sf_B 1 4 (m533 17) := by rw [W538 17 (by decide)]; exact B519
              have ek542 : (m533 17).toInt = ((m388 17)).toInt := by rw [W538 17 (by decide)]; exact ek520
              have B543 : sf_B 0 0 (m533 22) := by rw [W538 22 (by decide)]; exact B521
              have ek544 : (m533 22).toInt = ((m388 22)).toInt := by rw [W538 22 (by decide)]; exact ek522
              have B545 : sf_B 0 600 (m533 10) := by rw [W538 10 (by decide)]; exact B524
              have ek546 : (m533 10).toInt = ((m501 10)).toInt := by rw [W538 10 (by decide)]
              have B547 : sf_B 0 4 (m533 13) := by rw [W538 13 (by decide)]; exact B525
              have ek548 : (m533 13).toInt = ((m501 13)).toInt := by rw [W538 13 (by decide)]
              have W549 : rf_W [10, 12, 13, 14, 16, 17, 18, 22] m m533 := W523.trans W538 (by decide)
              show pm_R _ 187 134 [.ref 41, .long a0, pm_no, .int a1] [] _ _
              obtain ⟨f550, e551, ct552, bd553⟩ := X539
              refine pm_R_op pm_M187 (pc_q := 135) (st_q := [.int 1]) (pm_q187_1 (Nat.le_of_ble_eq_true rfl)) rfl rfl ?_
              exact pm_R_ret pm_M187 (r := some (.int 1)) (pm_q187_1 (Nat.le_of_ble_eq_true rfl)) rfl (K1 m533 w534 h535 T536 F540 W549 (⟨f550, e551, ct552, fun z => (sf_pos B541 (by decide) z)⟩) (sf_aux39 _ _ _ ek546 R526))
      · have F554 := F45.trans F88 (by decide)
        have W555 : rf_W [10, 12, 13, 14, 16, 17, 18, 22] m m84 := W50.trans W89 (by decide)
        have B556 : sf_B 0 600 (m84 10) := T87.2.2.1 10
        have B557 : sf_B 0 4 (m84 13) := T87.2.2.1 13
        have B558 : sf_B 0 4 (m84 17) := T87.2.2.1 17
        have B559 : sf_B 0 1 (m84 22) := T87.2.2.1 22
        show pm_R _ 187 92 [.ref 41, .long a0, pm_no, .int a1] [.int 1] _ _
        have R560 : (m 10).toInt ≤ (m84 10).toInt := (sf_aux70 _ _ _ R53 X92)
        obtain ⟨v561, B562, e563⟩ := X90 _ e58
        refine pm_R_br pm_M187 (pc_q := 95) (st_q := []) rfl rfl ?_
        refine pm_R_lo pm_M187 (pc_q := 96) rfl rfl rfl ?_
        refine pm_R_op pm_M187 (pc_q := 97) (st_q := [.int 1, .ref 41]) rfl rfl rfl ?_
        refine pm_R_op pm_M187 (pc_q := 98) (st_q := [.int 5, .int 1, .ref 41]) rfl rfl rfl ?_
        refine pm_R_op pm_M187 (pc_q := 99) (st_q := [.int (-1), .int 5, .int 1, .ref 41]) rfl rfl rfl ?_
        refine pm_R_cv pm_M187 (pc_q := 102) (a := 41) (ra := [.int (-1), .int 5, .int 1]) (rest := []) (ls_q := [.ref 41, .int 1, .int 5, .int (-1)]) rfl rfl (Or.inl rfl) pm_M183 T87.2.1 rfl (by decide) (Nat.lt_of_lt_of_le (by decide) T87.1) rfl rfl (Nat.le_of_ble_eq_true rfl) rfl rfl ?_
        refine rf_c183_1_5 (d := d + 0) T87  (fun m566 w567 h568 T569 F570 W571 X572 => ?_) (fun m575 w576 h577 T578 F579 W580 X581 X582 X583 X584 X585 => ?_) (fun m588 w589 h590 T591 F592 W593 X594 X595 X596 B597 B598 => ?_)
        · have F599 := F554.trans F570 (by decide)
          have W600 : rf_W [10, 12, 13, 14, 16, 17, 18, 22] m m566 := W555.trans W571 (by decide)
          have B601 : sf_B 0 600 (m566 10) := T569.2.2.1 10
          have B602 : sf_B 0 4 (m566 13) := T569.2.2.1 13
          have B603 : sf_B 0 4 (m566 17) := T569.2.2.1 17
          have B604 : sf_B 0 1 (m566 22) := T569.2.2.1 22
          show pm_R _ 187 102 [.ref 41, .long a0, pm_no, .int a1] [.int 0] _ _
          have R605 : (m 10).toInt ≤ (m566 10).toInt := (sf_aux70 _ _ _ R560 X572)
          refine pm_R_br pm_M187 (pc_q := 122) (st_q := []) rfl rfl ?_
          refine pm_R_op pm_M187 (pc_q := 123) (st_q := [.int 0]) (pm_q187_1 (Nat.le_of_ble_eq_true rfl)) rfl rfl ?_
          exact pm_R_ret pm_M187 (r := some (.int 0)) (pm_q187_1 (Nat.le_of_ble_eq_true rfl)) rfl (K0 m566 w567 h568 T569 F599 W600 (sf_aux51 _ _ R605))
        · have F606 := F554.trans F579 (by decide)
          have W607 : rf_W [10, 12, 13, 14, 16, 17, 18, 22] m m575 := W555.trans W580 (by decide)
          have B608 : sf_B 0 600 (m575 10) := T578.2.2.1 10
          have B609 : sf_B 0 4 (m575 13) := T578.2.2.1 13
          have B610 : sf_B 0 4 (m575 17) := T578.2.2.1 17
          have B611 : sf_B 0 1 (m575 22) := T578.2.2.1 22
          show pm_R _ 187 102 [.ref 41, .long a0, pm_no, .int a1] [.int 1] _ _
          have R612 : (m 10).toInt ≤ (m575 10).toInt := (sf_aux70 _ _ _ R560 X585)
          obtain ⟨v613, B614, e615⟩ := X581 _ e563
          refine pm_R_br pm_M187 (pc_q := 105) (st_q := []) rfl rfl ?_
          refine pm_R_lo pm_M187 (pc_q := 106) rfl rfl rfl ?_
          refine pm_R_op pm_M187 (pc_q := 107) (st_q := [.int 2, .ref 41]) rfl rfl rfl ?_
          refine pm_R_op pm_M187 (pc_q := 108) (st_q := [.int 5, .int 2, .ref 41]) rfl rfl rfl ?_
          refine pm_R_op pm_M187 (pc_q := 109) (st_q := [.int (-1), .int 5, .int 2, .ref 41]) (pm_q187_1 (Nat.le_of_ble_eq_true rfl)) rfl rfl ?_
          refine pm_R_cv pm_M187 (pc_q := 112) (a := 41) (ra := [.int (-1), .int 5, .int 2]) (rest := []) (ls_q := [.ref 41, .int 2, .int 5, .int (-1)]) (pm_q187_1 (Nat.le_of_ble_eq_true rfl)) rfl (Or.inl rfl) pm_M183 T578.2.1 rfl (by decide) (Nat.lt_of_lt_of_le (by decide) T578.1) rfl rfl (Nat.le_of_ble_eq_true rfl) rfl rfl ?_
          refine rf_c183_2_5 (d := d + 0) T578  (fun m618 w619 h620 T621 F622 W623 X624 => ?_) (fun m627 w628 h629 T630 F631 W632 X633 X634 X635 X636 X637 => ?_) (fun m640 w641 h642 T643 F644 W645 X646 X647 X648 B649 B650 => ?_)
          · have F651 := F606.trans F622 (by decide)
            have W652 : rf_W [10, 12, 13, 14, 16, 17, 18, 22] m m618 := W607.trans W623 (by decide)
            have B653 : sf_B 0 600 (m618 10) := T621.2.2.1 10
            have B654 : sf_B 0 4 (m618 13) := T621.2.2.1 13
            have B655 : sf_B 0 4 (m618 17) := T621.2.2.1 17
            have B656 : sf_B 0 1 (m618 22) := T621.2.2.1 22
            show pm_R _ 187 112 [.ref 41, .long a0, pm_no, .int a1] [.int 0] _ _
            have R657 : (m 10).toInt ≤ (m618 10).toInt := (sf_aux70 _ _ _ R612 X624)
            refine pm_R_br pm_M187 (pc_q := 122) (st_q := []) (pm_q187_1 (Nat.le_of_ble_eq_true rfl)) rfl ?_
            refine pm_R_op pm_M187 (pc_q := 123) (st_q := [.int 0]) (pm_q187_1 (Nat.le_of_ble_eq_true rfl)) rfl rfl ?_
            exact pm_R_ret pm_M187 (r := some (.int 0)) (pm_q187_1 (Nat.le_of_ble_eq_true rfl)) rfl (K0 m618 w619 h620 T621 F651 W652 (sf_aux51 _ _ R657))
          · have F658 := F606.trans F631 (by decide)
            have W659 : rf_W [10, 12, 13, 14, 16, 17, 18, 22] m m627 := W607.trans W632 (by decide)
            have B660 : sf_B 0 600 (m627 10) := T630.2.2.1 10
            have B661 : sf_B 0 4 (m627 13) := T630.2.2.1 13
            have B662 : sf_B 0 4 (m627 17) := T630.2.2.1 17
            have B663 : sf_B 0 1 (m627 22) := T630.2.2.1 22
            show pm_R _ 187 112 [.ref 41, .long a0, pm_no, .int a1] [.int 1] _ _
            have R664 : (m 10).toInt ≤ (m627 10).toInt := (sf_aux70 _ _ _ R612 X637)
            obtain ⟨v665, B666, e667⟩ := X633 _ e615
            refine pm_R_br pm_M187 (pc_q := 115) (st_q := []) (pm_q187_1 (Nat.le_of_ble_eq_true rfl)) rfl ?_
            refine pm_R_lo pm_M187 (pc_q := 116) (pm_q187_1 (Nat.le_of_ble_eq_true rfl)) rfl rfl ?_
            refine pm_R_cv pm_M187 (pc_q := 119) (a := 41) (ra := []) (rest := []) (ls_q := [.ref 41, pm_no, pm_no]) (pm_q187_1 (Nat.le_of_ble_eq_true rfl)) rfl (Or.inl rfl) pm_M188 T630.2.1 rfl (by decide) (Nat.lt_of_lt_of_le (by decide) T630.1) rfl rfl (Nat.le_of_ble_eq_true rfl) rfl rfl ?_
            refine rf_c188 (d := d + 0) T630  (fun m670 w671 h672 T673 F674 W675 X676 => ?_) (fun m679 w680 h681 T682 F683 W684 X685 X686 => ?_)
            · have F687 := F658.trans F674 (by decide)
              have B688 : sf_B 1 4 (m670 17) := by rw [W675 17 (by decide)]; exact (sf_eqT X634 (sf_eqT X582 B93))
              have ek689 : (m670 17).toInt = ((m575 17)).toInt := by rw [W675 17 (by decide)]; exact X634
              have B690 : sf_B 0 0 (m670 22) := by rw [W675 22 (by decide)]; exact (sf_eqT X635 (sf_eqT X583 B94))
              have ek691 : (m670 22).toInt = ((m575 22)).toInt := by rw [W675 22 (by decide)]; exact X635
              have W692 : rf_W [10, 12, 13, 14, 16, 17, 18, 22] m m670 := W659.trans W675 (by decide)
              have B693 : sf_B 0 600 (m670 10) := T673.2.2.1 10
              have B694 : sf_B 0 4 (m670 13) := T673.2.2.1 13
              show pm_R _ 187 119 [.ref 41, .long a0, pm_no, .int a1] [.int 0] _ _
              have R695 : (m 10).toInt ≤ (m670 10).toInt := (sf_aux70 _ _ _ R664 X676)
              refine pm_R_br pm_M187 (pc_q := 122) (st_q := []) (pm_q187_1 (Nat.le_of_ble_eq_true rfl)) rfl ?_
              refine pm_R_op pm_M187 (pc_q := 123) (st_q := [.int 0]) (pm_q187_1 (Nat.le_of_ble_eq_true rfl)) rfl rfl ?_
              exact pm_R_ret pm_M187 (r := some (.int 0)) (pm_q187_1 (Nat.le_of_ble_eq_true rfl)) rfl (K0 m670 w671 h672 T673 F687 W692 (sf_aux51 _ _ R695))
            · have F696 := F658.trans F683 (by decide)
              have B697 : sf_B 1 4 (m679 17) := by rw [W684 17 (by decide)]; exact (sf_eqT X634 (sf_eqT X582 B93))
              have ek698 : (m679 17).toInt = ((m575 17)).toInt := by rw [W684 17 (by decide)]; exact X634
              have B699 : sf_B 0 0 (m679 22) := by rw [W684 22 (by decide)]; exact (sf_eqT X635 (sf_eqT X583 B94))
              have ek700 : (m679 22).toInt = ((m575 22)).toInt := by rw [W684 22 (by decide)]; exact X635
              have W701 : rf_W [10, 12, 13, 14, 16, 17, 18, 22] m m679 := W659.trans W684 (by decide)
              have B702 : sf_B 0 600 (m679 10) := T682.2.2.1 10
              have B703 : sf_B 0 4 (m679 13) := T682.2.2.1 13
              show pm_R _ 187 119 [.ref 41, .long a0, pm_no, .int a1] [.int 1] _ _
              have R704 : (m 10).toInt ≤ (m679 10).toInt := (sf_aux70 _ _ _ R664 X686)
              obtain ⟨v705, B706, e707⟩ := X685 _ e667
              refine pm_R_br pm_M187 (pc_q := 124) (st_q := []) (pm_q187_1 (Nat.le_of_ble_eq_true rfl)) rfl ?_
              refine pm_R_lo pm_M187 (pc_q := 125) (pm_q187_1 (Nat.le_of_ble_eq_true rfl)) rfl rfl ?_
              refine pm_R_op pm_M187 (pc_q := 126) (st_q := [.int 0, .ref 41]) (pm_q187_1 (Nat.le_of_ble_eq_true rfl)) rfl rfl ?_
              refine pm_R_op pm_M187 (pc_q := 127) (st_q := [.int 2, .int 0, .ref 41]) (pm_q187_1 (Nat.le_of_ble_eq_true rfl)) rfl rfl ?_
              refine pm_R_op pm_M187 (pc_q := 128) (st_q := [.int 4, .int 2, .int 0, .ref 41]) (pm_q187_1 (Nat.le_of_ble_eq_true rfl)) rfl rfl ?_
              refine pm_R_op pm_M187 (pc_q := 130) (st_q := [.int 10, .int 4, .int 2, .int 0, .ref 41]) (pm_q187_1 (Nat.le_of_ble_eq_true rfl)) rfl rfl ?_
              refine pm_R_op pm_M187 (pc_q := 131) (st_q := [.int 0, .int 10, .int 4, .int 2, .int 0, .ref 41]) (pm_q187_1 (Nat.le_of_ble_eq_true rfl)) rfl rfl ?_
              refine pm_R_cv pm_M187 (pc_q := 134) (a := 41) (ra := [.int 0, .int 10, .int 4, .int 2, .int 0]) (rest := []) (ls_q := [.ref 41, .int 0, .int 2, .int 4, .int 10, .int 0, pm_no, pm_no]) (pm_q187_1 (Nat.le_of_ble_eq_true rfl)) rfl (Or.inl rfl) pm_M185 T682.2.1 rfl (by decide) (Nat.lt_of_lt_of_le (by decide) T682.1) rfl rfl (Nat.le_of_ble_eq_true rfl) rfl rfl ?_
              have e708 := (F683.cell (by decide) (F631.cell (by decide) (F579.cell (by decide) (F88.cell (by decide) (F41.cell (by decide) (F25.cell (by decide) e3))))))
              refine rf_c185_r (d := d + 2) T682 (⟨f2, e708, ct4, fun z => (sf_pos B697 (by decide) z)⟩) (fun z => sf_pos B697 (by decide) z) (fun m711 w712 h713 T714 F715 W716 X717 => ?_)
              have F718 := F696.trans F715 (by decide)
              have B719 : sf_B 1 4 (m711 17) := by rw [W716 17 (by decide)]; exact B697
              have ek720 : (m711 17).toInt = ((m575 17)).toInt := by rw [W716 17 (by decide)]; exact ek698
              have B721 : sf_B 0 0 (m711 22) := by rw [W716 22 (by decide)]; exact B699
              have ek722 : (m711 22).toInt = ((m575 22)).toInt := by rw [W716 22 (by decide)]; exact ek700
              have B723 : sf_B 0 600 (m711 10) := by rw [W716 10 (by decide)]; exact B702
              have ek724 : (m711 10).toInt = ((m679 10)).toInt := by rw [W716 10 (by decide)]
              have B725 : sf_B 0 4 (m711 13) := by rw [W716 13 (by decide)]; exact B703
              have ek726 : (m711 13).toInt = ((m679 13)).toInt := by rw [W716 13 (by decide)]
              have W727 : rf_W [10, 12, 13, 14, 16, 17, 18, 22] m m711 := W701.trans W716 (by decide)
              show pm_R _ 187 134 [.ref 41, .long a0, pm_no, .int a1] [] _ _
              obtain ⟨f728, e729, ct730, bd731⟩ := X717
              refine pm_R_op pm_M187 (pc_q := 135) (st_q := [.int 1]) (pm_q187_1 (Nat.le_of_ble_eq_true rfl)) rfl rfl ?_
              exact pm_R_ret pm_M187 (r := some (.int 1)) (pm_q187_1 (Nat.le_of_ble_eq_true rfl)) rfl (K1 m711 w712 h713 T714 F718 W727 (⟨f728, e729, ct730, fun z => (sf_pos B719 (by decide) z)⟩) (sf_aux39 _ _ _ ek724 R704))
          · have F732 := F606.trans F644 (by decide)
            have W733 : rf_W [10, 12, 13, 14, 16, 17, 18, 22] m m640 := W607.trans W645 (by decide)
            have B734 : sf_B 0 600 (m640 10) := T643.2.2.1 10
            have B735 : sf_B 0 4 (m640 13) := T643.2.2.1 13
            have B736 : sf_B 0 4 (m640 17) := T643.2.2.1 17
            have B737 : sf_B 0 1 (m640 22) := T643.2.2.1 22
            show pm_R _ 187 112 [.ref 41, .long a0, pm_no, .int a1] [.int 1] _ _
            have R738 : (m 10).toInt ≤ (m640 10).toInt := (sf_aux70 _ _ _ R612 X648)
            obtain ⟨v739, B740, e741⟩ := X646 _ e615
            refine pm_R_br pm_M187 (pc_q := 115) (st_q := []) (pm_q187_1 (Nat.le_of_ble_eq_true rfl)) rfl ?_
            refine pm_R_lo pm_M187 (pc_q := 116) (pm_q187_1 (Nat.le_of_ble_eq_true rfl)) rfl rfl ?_
            refine pm_R_cv pm_M187 (pc_q := 119) (a := 41) (ra := []) (rest := []) (ls_q := [.ref 41, pm_no, pm_no]) (pm_q187_1 (Nat.le_of_ble_eq_true rfl)) rfl (Or.inl rfl) pm_M188 T643.2.1 rfl (by decide) (Nat.lt_of_lt_of_le (by decide) T643.1) rfl rfl (Nat.le_of_ble_eq_true rfl) rfl rfl ?_
            refine rf_c188 (d := d + 0) T643  (fun m744 w745 h746 T747 F748 W749 X750 => ?_) (fun m753 w754 h755 T756 F757 W758 X759 X760 => ?_)
            · have F761 := F732.trans F748 (by decide)
              have B762 : sf_B 1 4 (m744 17) := by rw [W749 17 (by decide)]; exact B649
              have ek763 : (m744 17).toInt = ((m640 17)).toInt := by rw [W749 17 (by decide)]
              have B764 : sf_B 0 0 (m744 22) := by rw [W749 22 (by decide)]; exact B650
              have ek765 : (m744 22).toInt = ((m640 22)).toInt := by rw [W749 22 (by decide)]
              have W766 : rf_W [10, 12, 13, 14, 16, 17, 18, 22] m m744 := W733.trans W749 (by decide)
              have B767 : sf_B 0 600 (m744 10) := T747.2.2.1 10
              have B768 : sf_B 0 4 (m744 13) := T747.2.2.1 13
              show pm_R _ 187 119 [.ref 41, .long a0, pm_no, .int a1] [.int 0] _ _
              have R769 : (m 10).toInt ≤ (m744 10).toInt := (sf_aux70 _ _ _ R738 X750)
              refine pm_R_br pm_M187 (pc_q := 122) (st_q := []) (pm_q187_1 (Nat.le_of_ble_eq_true rfl)) rfl ?_
              refine pm_R_op pm_M187 (pc_q := 123) (st_q := [.int 0]) (pm_q187_1 (Nat.le_of_ble_eq_true rfl)) rfl rfl ?_
              exact pm_R_ret pm_M187 (r := some (.int 0)) (pm_q187_1 (Nat.le_of_ble_eq_true rfl)) rfl (K0 m744 w745 h746 T747 F761 W766 (sf_aux51 _ _ R769))
            · have F770 := F732.trans F757 (by decide)
              have B771 : sf_B 1 4 (m753 17) := by rw [W758 17 (by decide)]; exact B649
              have ek772 : (m753 17).toInt = ((m640 17)).toInt := by rw [W758 17 (by decide)]
              have B773 : sf_B 0 0 (m753 22) := by rw [W758 22 (by decide)]; exact B650
              have ek774 : (m753 22).toInt = ((m640 22)).toInt := by rw [W758 22 (by decide)]
              have W775 : rf_W [10, 12, 13, 14, 16, 17, 18, 22] m m753 := W733.trans W758 (by decide)
              have B776 : sf_B 0 600 (m753 10) := T756.2.2.1 10
              have B777 : sf_B 0 4 (m753 13) := T756.2.2.1 13
              show pm_R _ 187 119 [.ref 41, .long a0, pm_no, .int a1] [.int 1] _ _
              have R778 : (m 10).toInt ≤ (m753 10).toInt := (sf_aux70 _ _ _ R738 X760)
              obtain ⟨v779, B780, e781⟩ := X759 _ e741
              refine pm_R_br pm_M187 (pc_q := 124) (st_q := []) (pm_q187_1 (Nat.le_of_ble_eq_true rfl)) rfl ?_
              refine pm_R_lo pm_M187 (pc_q := 125) (pm_q187_1 (Nat.le_of_ble_eq_true rfl)) rfl rfl ?_
              refine pm_R_op pm_M187 (pc_q := 126) (st_q := [.int 0, .ref 41]) (pm_q187_1 (Nat.le_of_ble_eq_true rfl)) rfl rfl ?_
              refine pm_R_op pm_M187 (pc_q := 127) (st_q := [.int 2, .int 0, .ref 41]) (pm_q187_1 (Nat.le_of_ble_eq_true rfl)) rfl rfl ?_
              refine pm_R_op pm_M187 (pc_q := 128) (st_q := [.int 4, .int 2, .int 0, .ref 41]) (pm_q187_1 (Nat.le_of_ble_eq_true rfl)) rfl rfl ?_
              refine pm_R_op pm_M187 (pc_q := 130) (st_q := [.int 10, .int 4, .int 2, .int 0, .ref 41]) (pm_q187_1 (Nat.le_of_ble_eq_true rfl)) rfl rfl ?_
              refine pm_R_op pm_M187 (pc_q := 131) (st_q := [.int 0, .int 10, .int 4, .int 2, .int 0, .ref 41]) (pm_q187_1 (Nat.le_of_ble_eq_true rfl)) rfl rfl ?_
              refine pm_R_cv pm_M187 (pc_q := 134) (a := 41) (ra := [.int 0, .int 10, .int 4, .int 2, .int 0]) (rest := []) (ls_q := [.ref 41, .int 0, .int 2, .int 4, .int 10, .int 0, pm_no, pm_no]) (pm_q187_1 (Nat.le_of_ble_eq_true rfl)) rfl (Or.inl rfl) pm_M185 T756.2.1 rfl (by decide) (Nat.lt_of_lt_of_le (by decide) T756.1) rfl rfl (Nat.le_of_ble_eq_true rfl) rfl rfl ?_
              have e782 := (F757.cell (by decide) (F644.cell (by decide) (F579.cell (by decide) (F88.cell (by decide) (F41.cell (by decide) (F25.cell (by decide) e3))))))
              refine rf_c185_r (d := d + 2) T756 (⟨f2, e782, ct4, fun z => (sf_pos B771 (by decide) z)⟩) (fun z => sf_pos B771 (by decide) z) (fun m785 w786 h787 T788 F789 W790 X791 => ?_)
              have F792 := F770.trans F789 (by decide)
              have B793 : sf_B 1 4 (m785 17) := by rw [W790 17 (by decide)]; exact B771
              have ek794 : (m785 17).toInt = ((m640 17)).toInt := by rw [W790 17 (by decide)]; exact ek772
              have B795 : sf_B 0 0 (m785 22) := by rw [W790 22 (by decide)]; exact B773
              have ek796 : (m785 22).toInt = ((m640 22)).toInt := by rw [W790 22 (by decide)]; exact ek774
              have B797 : sf_B 0 600 (m785 10) := by rw [W790 10 (by decide)]; exact B776
              have ek798 : (m785 10).toInt = ((m753 10)).toInt := by rw [W790 10 (by decide)]
              have B799 : sf_B 0 4 (m785 13) := by rw [W790 13 (by decide)]; exact B777
              have ek800 : (m785 13).toInt = ((m753 13)).toInt := by rw [W790 13 (by decide)]
              have W801 : rf_W [10, 12, 13, 14, 16, 17, 18, 22] m m785 := W775.trans W790 (by decide)
              show pm_R _ 187 134 [.ref 41, .long a0, pm_no, .int a1] [] _ _
              obtain ⟨f802, e803, ct804, bd805⟩ := X791
              refine pm_R_op pm_M187 (pc_q := 135) (st_q := [.int 1]) (pm_q187_1 (Nat.le_of_ble_eq_true rfl)) rfl rfl ?_
              exact pm_R_ret pm_M187 (r := some (.int 1)) (pm_q187_1 (Nat.le_of_ble_eq_true rfl)) rfl (K1 m785 w786 h787 T788 F792 W801 (⟨f802, e803, ct804, fun z => (sf_pos B793 (by decide) z)⟩) (sf_aux39 _ _ _ ek798 R778))
        · have F806 := F554.trans F592 (by decide)
          have W807 : rf_W [10, 12, 13, 14, 16, 17, 18, 22] m m588 := W555.trans W593 (by decide)
          have B808 : sf_B 0 600 (m588 10) := T591.2.2.1 10
          have B809 : sf_B 0 4 (m588 13) := T591.2.2.1 13
          have B810 : sf_B 0 4 (m588 17) := T591.2.2.1 17
          have B811 : sf_B 0 1 (m588 22) := T591.2.2.1 22
          show pm_R _ 187 102 [.ref 41, .long a0, pm_no, .int a1] [.int 1] _ _
          have R812 : (m 10).toInt ≤ (m588 10).toInt := (sf_aux70 _ _ _ R560 X596)
          obtain ⟨v813, B814, e815⟩ := X594 _ e563
          refine pm_R_br pm_M187 (pc_q := 105) (st_q := []) rfl rfl ?_
          refine pm_R_lo pm_M187 (pc_q := 106) rfl rfl rfl ?_
          refine pm_R_op pm_M187 (pc_q := 107) (st_q := [.int 2, .ref 41]) rfl rfl rfl ?_
          refine pm_R_op pm_M187 (pc_q := 108) (st_q := [.int 5, .int 2, .ref 41]) rfl rfl rfl ?_
          refine pm_R_op pm_M187 (pc_q := 109) (st_q := [.int (-1), .int 5, .int 2, .ref 41]) (pm_q187_1 (Nat.le_of_ble_eq_true rfl)) rfl rfl ?_
          refine pm_R_cv pm_M187 (pc_q := 112) (a := 41) (ra := [.int (-1), .int 5, .int 2]) (rest := []) (ls_q := [.ref 41, .int 2, .int 5, .int (-1)]) (pm_q187_1 (Nat.le_of_ble_eq_true rfl)) rfl (Or.inl rfl) pm_M183 T591.2.1 rfl (by decide) (Nat.lt_of_lt_of_le (by decide) T591.1) rfl rfl (Nat.le_of_ble_eq_true rfl) rfl rfl ?_
          refine rf_c183_2_5 (d := d + 0) T591  (fun m818 w819 h820 T821 F822 W823 X824 => ?_) (fun m827 w828 h829 T830 F831 W832 X833 X834 X835 X836 X837 => ?_) (fun m840 w841 h842 T843 F844 W845 X846 X847 X848 B849 B850 => ?_)
          · have F851 := F806.trans F822 (by decide)
            have W852 : rf_W [10, 12, 13, 14, 16, 17, 18, 22] m m818 := W807.trans W823 (by decide)
            have B853 : sf_B 0 600 (m818 10) := T821.2.2.1 10
            have B854 : sf_B 0 4 (m818 13) := T821.2.2.1 13
            have B855 : sf_B 0 4 (m818 17) := T821.2.2.1 17
            have B856 : sf_B 0 1 (m818 22) := T821.2.2.1 22
            show pm_R _ 187 112 [.ref 41, .long a0, pm_no, .int a1] [.int 0] _ _
            have R857 : (m 10).toInt ≤ (m818 10).toInt := (sf_aux70 _ _ _ R812 X824)
            refine pm_R_br pm_M187 (pc_q := 122) (st_q := []) (pm_q187_1 (Nat.le_of_ble_eq_true rfl)) rfl ?_
            refine pm_R_op pm_M187 (pc_q := 123) (st_q := [.int 0]) (pm_q187_1 (Nat.le_of_ble_eq_true rfl)) rfl rfl ?_
            exact pm_R_ret pm_M187 (r := some (.int 0)) (pm_q187_1 (Nat.le_of_ble_eq_true rfl)) rfl (K0 m818 w819 h820 T821 F851 W852 (sf_aux51 _ _ R857))
          · have F858 := F806.trans F831 (by decide)
            have W859 : rf_W [10, 12, 13, 14, 16, 17, 18, 22] m m827 := W807.trans W832 (by decide)
            have B860 : sf_B 0 600 (m827 10) := T830.2.2.1 10
            have B861 : sf_B 0 4 (m827 13) := T830.2.2.1 13
            have B862 : sf_B 0 4 (m827 17) := T830.2.2.1 17
            have B863 : sf_B 0 1 (m827 22) := T830.2.2.1 22
            show pm_R _ 187 112 [.ref 41, .long a0, pm_no, .int a1] [.int 1] _ _
            have R864 : (m 10).toInt ≤ (m827 10).toInt := (sf_aux70 _ _ _ R812 X837)
            obtain ⟨v865, B866, e867⟩ := X833 _ e815
            refine pm_R_br pm_M187 (pc_q := 115) (st_q := []) (pm_q187_1 (Nat.le_of_ble_eq_true rfl)) rfl ?_
            refine pm_R_lo pm_M187 (pc_q := 116) (pm_q187_1 (Nat.le_of_ble_eq_true rfl)) rfl rfl ?_
            refine pm_R_cv pm_M187 (pc_q := 119) (a := 41) (ra := []) (rest := []) (ls_q := [.ref 41, pm_no, pm_no]) (pm_q187_1 (Nat.le_of_ble_eq_true rfl)) rfl (Or.inl rfl) pm_M188 T830.2.1 rfl (by decide) (Nat.lt_of_lt_of_le (by decide) T830.1) rfl rfl (Nat.le_of_ble_eq_true rfl) rfl rfl ?_
            refine rf_c188 (d := d + 0) T830  (fun m870 w871 h872 T873 F874 W875 X876 => ?_) (fun m879 w880 h881 T882 F883 W884 X885 X886 => ?_)
            · have F887 := F858.trans F874 (by decide)
              have B888 : sf_B 1 4 (m870 17) := by rw [W875 17 (by decide)]; exact (sf_eqT X834 B597)
              have ek889 : (m870 17).toInt = ((m588 17)).toInt := by rw [W875 17 (by decide)]; exact X834
              have B890 : sf_B 0 0 (m870 22) := by rw [W875 22 (by decide)]; exact (sf_eqT X835 B598)
              have ek891 : (m870 22).toInt = ((m588 22)).toInt := by rw [W875 22 (by decide)]; exact X835
              have W892 : rf_W [10, 12, 13, 14, 16, 17, 18, 22] m m870 := W859.trans W875 (by decide)
              have B893 : sf_B 0 600 (m870 10) := T873.2.2.1 10
              have B894 : sf_B 0 4 (m870 13) := T873.2.2.1 13
              show pm_R _ 187 119 [.ref 41, .long a0, pm_no, .int a1] [.int 0] _ _
              have R895 : (m 10).toInt ≤ (m870 10).toInt := (sf_aux70 _ _ _ R864 X876)
              refine pm_R_br pm_M187 (pc_q := 122) (st_q := []) (pm_q187_1 (Nat.le_of_ble_eq_true rfl)) rfl ?_
              refine pm_R_op pm_M187 (pc_q := 123) (st_q := [.int 0]) (pm_q187_1 (Nat.le_of_ble_eq_true rfl)) rfl rfl ?_
              exact pm_R_ret pm_M187 (r := some (.int 0)) (pm_q187_1 (Nat.le_of_ble_eq_true rfl)) rfl (K0 m870 w871 h872 T873 F887 W892 (sf_aux51 _ _ R895))
            · have F896 := F858.trans F883 (by decide)
              have B897 : sf_B 1 4 (m879 17) := by rw [W884 17 (by decide)]; exact (sf_eqT X834 B597)
              have ek898 : (m879 17).toInt = ((m588 17)).toInt := by rw [W884 17 (by decide)]; exact X834
              have B899 : sf_B 0 0 (m879 22) := by rw [W884 22 (by decide)]; exact (sf_eqT X835 B598)
              have ek900 : (m879 22).toInt = ((m588 22)).toInt := by rw [W884 22 (by decide)]; exact X835
              have W901 : rf_W [10, 12, 13, 14, 16, 17, 18, 22] m m879 := W859.trans W884 (by decide)
              have B902 : sf_B 0 600 (m879 10) := T882.2.2.1 10
              have B903 : sf_B 0 4 (m879 13) := T882.2.2.1 13
              show pm_R _ 187 119 [.ref 41, .long a0, pm_no, .int a1] [.int 1] _ _
              have R904 : (m 10).toInt ≤ (m879 10).toInt := (sf_aux70 _ _ _ R864 X886)
              obtain ⟨v905, B906, e907⟩ := X885 _ e867
              refine pm_R_br pm_M187 (pc_q := 124) (st_q := []) (pm_q187_1 (Nat.le_of_ble_eq_true rfl)) rfl ?_
              refine pm_R_lo pm_M187 (pc_q := 125) (pm_q187_1 (Nat.le_of_ble_eq_true rfl)) rfl rfl ?_
              refine pm_R_op pm_M187 (pc_q := 126) (st_q := [.int 0, .ref 41]) (pm_q187_1 (Nat.le_of_ble_eq_true rfl)) rfl rfl ?_
              refine pm_R_op pm_M187 (pc_q := 127) (st_q := [.int 2, .int 0, .ref 41]) (pm_q187_1 (Nat.le_of_ble_eq_true rfl)) rfl rfl ?_
              refine pm_R_op pm_M187 (pc_q := 128) (st_q := [.int 4, .int 2, .int 0, .ref 41]) (pm_q187_1 (Nat.le_of_ble_eq_true rfl)) rfl rfl ?_
              refine pm_R_op pm_M187 (pc_q := 130) (st_q := [.int 10, .int 4, .int 2, .int 0, .ref 41]) (pm_q187_1 (Nat.le_of_ble_eq_true rfl)) rfl rfl ?_
              refine pm_R_op pm_M187 (pc_q := 131) (st_q := [.int 0, .int 10, .int 4, .int 2, .int 0, .ref 41]) (pm_q187_1 (Nat.le_of_ble_eq_true rfl)) rfl rfl ?_
              refine pm_R_cv pm_M187 (pc_q := 134) (a := 41) (ra := [.int 0, .int 10, .int 4, .int 2, .int 0]) (rest := []) (ls_q := [.ref 41, .int 0, .int 2, .int 4, .int 10, .int 0, pm_no, pm_no]) (pm_q187_1 (Nat.le_of_ble_eq_true rfl)) rfl (Or.inl rfl) pm_M185 T882.2.1 rfl (by decide) (Nat.lt_of_lt_of_le (by decide) T882.1) rfl rfl (Nat.le_of_ble_eq_true rfl) rfl rfl ?_
              have e908 := (F883.cell (by decide) (F831.cell (by decide) (F592.cell (by decide) (F88.cell (by decide) (F41.cell (by decide) (F25.cell (by decide) e3))))))
              refine rf_c185_r (d := d + 2) T882 (⟨f2, e908, ct4, fun z => (sf_pos B897 (by decide) z)⟩) (fun z => sf_pos B897 (by decide) z) (fun m911 w912 h913 T914 F915 W916 X917 => ?_)
              have F918 := F896.trans F915 (by decide)
              have B919 : sf_B 1 4 (m911 17) := by rw [W916 17 (by decide)]; exact B897
              have ek920 : (m911 17).toInt = ((m588 17)).toInt := by rw [W916 17 (by decide)]; exact ek898
              have B921 : sf_B 0 0 (m911 22) := by rw [W916 22 (by decide)]; exact B899
              have ek922 : (m911 22).toInt = ((m588 22)).toInt := by rw [W916 22 (by decide)]; exact ek900
              have B923 : sf_B 0 600 (m911 10) := by rw [W916 10 (by decide)]; exact B902
              have ek924 : (m911 10).toInt = ((m879 10)).toInt := by rw [W916 10 (by decide)]
              have B925 : sf_B 0 4 (m911 13) := by rw [W916 13 (by decide)]; exact B903
              have ek926 : (m911 13).toInt = ((m879 13)).toInt := by rw [W916 13 (by decide)]
              have W927 : rf_W [10, 12, 13, 14, 16, 17, 18, 22] m m911 := W901.trans W916 (by decide)
              show pm_R _ 187 134 [.ref 41, .long a0, pm_no, .int a1] [] _ _
              obtain ⟨f928, e929, ct930, bd931⟩ := X917
              refine pm_R_op pm_M187 (pc_q := 135) (st_q := [.int 1]) (pm_q187_1 (Nat.le_of_ble_eq_true rfl)) rfl rfl ?_
              exact pm_R_ret pm_M187 (r := some (.int 1)) (pm_q187_1 (Nat.le_of_ble_eq_true rfl)) rfl (K1 m911 w912 h913 T914 F918 W927 (⟨f928, e929, ct930, fun z => (sf_pos B919 (by decide) z)⟩) (sf_aux39 _ _ _ ek924 R904))
          · have F932 := F806.trans F844 (by decide)
            have W933 : rf_W [10, 12, 13, 14, 16, 17, 18, 22] m m840 := W807.trans W845 (by decide)
            have B934 : sf_B 0 600 (m840 10) := T843.2.2.1 10
            have B935 : sf_B 0 4 (m840 13) := T843.2.2.1 13
            have B936 : sf_B 0 4 (m840 17) := T843.2.2.1 17
            have B937 : sf_B 0 1 (m840 22) := T843.2.2.1 22
            show pm_R _ 187 112 [.ref 41, .long a0, pm_no, .int a1] [.int 1] _ _
            have R938 : (m 10).toInt ≤ (m840 10).toInt := (sf_aux70 _ _ _ R812 X848)
            obtain ⟨v939, B940, e941⟩ := X846 _ e815
            refine pm_R_br pm_M187 (pc_q := 115) (st_q := []) (pm_q187_1 (Nat.le_of_ble_eq_true rfl)) rfl ?_
            refine pm_R_lo pm_M187 (pc_q := 116) (pm_q187_1 (Nat.le_of_ble_eq_true rfl)) rfl rfl ?_
            refine pm_R_cv pm_M187 (pc_q := 119) (a := 41) (ra := []) (rest := []) (ls_q := [.ref 41, pm_no, pm_no]) (pm_q187_1 (Nat.le_of_ble_eq_true rfl)) rfl (Or.inl rfl) pm_M188 T843.2.1 rfl (by decide) (Nat.lt_of_lt_of_le (by decide) T843.1) rfl rfl (Nat.le_of_ble_eq_true rfl) rfl rfl ?_
            refine rf_c188 (d := d + 0) T843  (fun m944 w945 h946 T947 F948 W949 X950 => ?_) (fun m953 w954 h955 T956 F957 W958 X959 X960 => ?_)
            · have F961 := F932.trans F948 (by decide)
              have B962 : sf_B 1 4 (m944 17) := by rw [W949 17 (by decide)]; exact B849
              have ek963 : (m944 17).toInt = ((m840 17)).toInt := by rw [W949 17 (by decide)]
              have B964 : sf_B 0 0 (m944 22) := by rw [W949 22 (by decide)]; exact B850
              have ek965 : (m944 22).toInt = ((m840 22)).toInt := by rw [W949 22 (by decide)]
              have W966 : rf_W [10, 12, 13, 14, 16, 17, 18, 22] m m944 := W933.trans W949 (by decide)
              have B967 : sf_B 0 600 (m944 10) := T947.2.2.1 10
              have B968 : sf_B 0 4 (m944 13) := T947.2.2.1 13
              show pm_R _ 187 119 [.ref 41, .long a0, pm_no, .int a1] [.int 0] _ _
              have R969 : (m 10).toInt ≤ (m944 10).toInt := (sf_aux70 _ _ _ R938 X950)
              refine pm_R_br pm_M187 (pc_q := 122) (st_q := []) (pm_q187_1 (Nat.le_of_ble_eq_true rfl)) rfl ?_
              refine pm_R_op pm_M187 (pc_q := 123) (st_q := [.int 0]) (pm_q187_1 (Nat.le_of_ble_eq_true rfl)) rfl rfl ?_
              exact pm_R_ret pm_M187 (r := some (.int 0)) (pm_q187_1 (Nat.le_of_ble_eq_true rfl)) rfl (K0 m944 w945 h946 T947 F961 W966 (sf_aux51 _ _ R969))
            · have F970 := F932.trans F957 (by decide)
              have B971 : sf_B 1 4 (m953 17) := by rw [W958 17 (by decide)]; exact B849
              have ek972 : (m953 17).toInt = ((m840 17)).toInt := by rw [W958 17 (by decide)]
              have B973 : sf_B 0 0 (m953 22) := by rw [W958 22 (by decide)]; exact B850
              have ek974 : (m953 22).toInt = ((m840 22)).toInt := by rw [W958 22 (by decide)]
              have W975 : rf_W [10, 12, 13, 14, 16, 17, 18, 22] m m953 := W933.trans W958 (by decide)
              have B976 : sf_B 0 600 (m953 10) := T956.2.2.1 10
              have B977 : sf_B 0 4 (m953 13) := T956.2.2.1 13
              show pm_R _ 187 119 [.ref 41, .long a0, pm_no, .int a1] [.int 1] _ _
              have R978 : (m 10).toInt ≤ (m953 10).toInt := (sf_aux70 _ _ _ R938 X960)
              obtain ⟨v979, B980, e981⟩ := X959 _ e941
              refine pm_R_br pm_M187 (pc_q := 124) (st_q := []) (pm_q187_1 (Nat.le_of_ble_eq_true rfl)) rfl ?_
              refine pm_R_lo pm_M187 (pc_q := 125) (pm_q187_1 (Nat.le_of_ble_eq_true rfl)) rfl rfl ?_
              refine pm_R_op pm_M187 (pc_q := 126) (st_q := [.int 0, .ref 41]) (pm_q187_1 (Nat.le_of_ble_eq_true rfl)) rfl rfl ?_
              refine pm_R_op pm_M187 (pc_q := 127) (st_q := [.int 2, .int 0, .ref 41]) (pm_q187_1 (Nat.le_of_ble_eq_true rfl)) rfl rfl ?_
              refine pm_R_op pm_M187 (pc_q := 128) (st_q := [.int 4, .int 2, .int 0, .ref 41]) (pm_q187_1 (Nat.le_of_ble_eq_true rfl)) rfl rfl ?_
              refine pm_R_op pm_M187 (pc_q := 130) (st_q := [.int 10, .int 4, .int 2, .int 0, .ref 41]) (pm_q187_1 (Nat.le_of_ble_eq_true rfl)) rfl rfl ?_
              refine pm_R_op pm_M187 (pc_q := 131) (st_q := [.int 0, .int 10, .int 4, .int 2, .int 0, .ref 41]) (pm_q187_1 (Nat.le_of_ble_eq_true rfl)) rfl rfl ?_
              refine pm_R_cv pm_M187 (pc_q := 134) (a := 41) (ra := [.int 0, .int 10, .int 4, .int 2, .int 0]) (rest := []) (ls_q := [.ref 41, .int 0, .int 2, .int 4, .int 10, .int 0, pm_no, pm_no]) (pm_q187_1 (Nat.le_of_ble_eq_true rfl)) rfl (Or.inl rfl) pm_M185 T956.2.1 rfl (by decide) (Nat.lt_of_lt_of_le (by decide) T956.1) rfl rfl (Nat.le_of_ble_eq_true rfl) rfl rfl ?_
              have e982 := (F957.cell (by decide) (F844.cell (by decide) (F592.cell (by decide) (F88.cell (by decide) (F41.cell (by decide) (F25.cell (by decide) e3))))))
              refine rf_c185_r (d := d + 2) T956 (⟨f2, e982, ct4, fun z => (sf_pos B971 (by decide) z)⟩) (fun z => sf_pos B971 (by decide) z) (fun m985 w986 h987 T988 F989 W990 X991 => ?_)
              have F992 := F970.trans F989 (by decide)
              have B993 : sf_B 1 4 (m985 17) := by rw [W990 17 (by decide)]; exact B971
              have ek994 : (m985 17).toInt = ((m840 17)).toInt := by rw [W990 17 (by decide)]; exact ek972
              have B995 : sf_B 0 0 (m985 22) := by rw [W990 22 (by decide)]; exact B973
              have ek996 : (m985 22).toInt = ((m840 22)).toInt := by rw [W990 22 (by decide)]; exact ek974
              have B997 : sf_B 0 600 (m985 10) := by rw [W990 10 (by decide)]; exact B976
              have ek998 : (m985 10).toInt = ((m953 10)).toInt := by rw [W990 10 (by decide)]
              have B999 : sf_B 0 4 (m985 13) := by rw [W990 13 (by decide)]; exact B977
              have ek1000 : (m985 13).toInt = ((m953 13)).toInt := by rw [W990 13 (by decide)]
              have W1001 : rf_W [10, 12, 13, 14, 16, 17, 18, 22] m m985 := W975.trans W990 (by decide)
              show pm_R _ 187 134 [.ref 41, .long a0, pm_no, .int a1] [] _ _
              obtain ⟨f1002, e1003, ct1004, bd1005⟩ := X991
              refine pm_R_op pm_M187 (pc_q := 135) (st_q := [.int 1]) (pm_q187_1 (Nat.le_of_ble_eq_true rfl)) rfl rfl ?_
              exact pm_R_ret pm_M187 (r := some (.int 1)) (pm_q187_1 (Nat.le_of_ble_eq_true rfl)) rfl (K1 m985 w986 h987 T988 F992 W1001 (⟨f1002, e1003, ct1004, fun z => (sf_pos B993 (by decide) z)⟩) (sf_aux39 _ _ _ ek998 R978))
    · have B1006 : sf_B 0 9 (f2 0) := sf_neH0 c17 sf_k10 ct4.1
      refine pm_R_lo pm_M187 (pc_q := 49) rfl rfl rfl ?_
      refine pm_R_ldc2 pm_M187 (pc_q := 52) rfl rfl rfl ?_
      refine sf_R_lcmp pm_M187 (pc_q := 53) rfl rfl (fun z1007 e1008 => ?_)
      have B1009 : sf_B (-2147483648) (-1) z1007 := lf_cmpLt e1008 B11 (⟨by decide, by decide⟩ : lf_B 1936287598 1936287598 1936287598) (by decide)
      refine pm_R_ifc pm_M187 (t := 73) (pc_q := 56) rfl rfl rfl (fun c1010 => ?_) (fun c1010 => absurd (Classical.not_not.mp c1010) (sf_neq2 B1009 sf_k0 (by decide)))
      have k1011 := sf_lneC e1008 c1010
      refine pm_R_lo pm_M187 (pc_q := 74) rfl rfl rfl ?_
      refine pm_R_cv pm_M187 (pc_q := 77) (a := 41) (ra := []) (rest := []) (ls_q := [.ref 41, pm_no, pm_no]) rfl rfl (Or.inl rfl) pm_M179 T.2.1 rfl (by decide) (Nat.lt_of_lt_of_le (by decide) T.1) rfl rfl (Nat.le_of_ble_eq_true rfl) rfl rfl ?_
      refine rf_c179 (d := d + 1) T  (fun m1014 w1015 h1016 T1017 F1018 W1019 X1020 X1021 => ?_)
      have F1022 := (rf_G.refl [41, 51, 52] h).trans F1018 (by decide)
      have B1023 : sf_B 0 4 (m1014 17) := by rw [W1019 17 (by decide)]; exact B6
      have ek1024 : (m1014 17).toInt = ((m 17)).toInt := by rw [W1019 17 (by decide)]
      have W1025 : rf_W [10, 12, 13, 14, 16, 17, 18, 22] m m1014 := (rf_W.refl [10, 12, 13, 14, 16, 17, 18, 22] m).trans W1019 (by decide)
      have B1026 : sf_B 0 600 (m1014 10) := T1017.2.2.1 10
      have B1027 : sf_B 0 4 (m1014 13) := T1017.2.2.1 13
      have B1028 : sf_B 0 1 (m1014 22) := T1017.2.2.1 22
      show pm_R _ 187 77 [.ref 41, .long a0, pm_no, .int a1] [] _ _
      have R1029 : (m 10).toInt ≤ (m1014 10).toInt := (sf_aux51 _ _ X1020)
      refine pm_R_lo pm_M187 (pc_q := 78) rfl rfl rfl ?_
      refine pm_R_ldc2 pm_M187 (pc_q := 81) rfl rfl rfl ?_
      refine pm_R_op pm_M187 (pc_q := 82) (st_q := [.int z7]) rfl (by show some (Value.int (lg_cmp a0 1920298085) :: _) = _; rw [← e8]) rfl ?_
      refine pm_R_ifc pm_M187 (t := 136) (pc_q := 85) rfl rfl rfl (fun c1032 => absurd (sf_pt2 B10 sf_k0) c1032) (fun c1032 => ?_)
      refine pm_R_lo pm_M187 (pc_q := 86) rfl rfl rfl ?_
      refine pm_R_op pm_M187 (pc_q := 87) (st_q := [.int 0, .ref 41]) rfl rfl rfl ?_
      refine pm_R_op pm_M187 (pc_q := 88) (st_q := [.int 5, .int 0, .ref 41]) rfl rfl rfl ?_
      refine pm_R_op pm_M187 (pc_q := 89) (st_q := [.int (-1), .int 5, .int 0, .ref 41]) rfl rfl rfl ?_
      refine pm_R_cv pm_M187 (pc_q := 92) (a := 41) (ra := [.int (-1), .int 5, .int 0]) (rest := []) (ls_q := [.ref 41, .int 0, .int 5, .int (-1)]) rfl rfl (Or.inl rfl) pm_M183 T1017.2.1 rfl (by decide) (Nat.lt_of_lt_of_le (by decide) T1017.1) rfl rfl (Nat.le_of_ble_eq_true rfl) rfl rfl ?_
      obtain ⟨f1033, e1034, b1035⟩ := T1017.2.2.2.1 52 (by decide) (by decide)
      refine rf_c183_0_5 (d := d + 0) T1017  (fun m1038 w1039 h1040 T1041 F1042 W1043 X1044 => ?_) (fun m1047 w1048 h1049 T1050 F1051 W1052 X1053 X1054 X1055 X1056 X1057 => ?_) (fun m1060 w1061 h1062 T1063 F1064 W1065 X1066 X1067 X1068 B1069 B1070 => ?_)
      · have F1071 := F1022.trans F1042 (by decide)
        have W1072 : rf_W [10, 12, 13, 14, 16, 17, 18, 22] m m1038 := W1025.trans W1043 (by decide)
        have B1073 : sf_B 0 600 (m1038 10) := T1041.2.2.1 10
        have B1074 : sf_B 0 4 (m1038 13) := T1041.2.2.1 13
        have B1075 : sf_B 0 4 (m1038 17) := T1041.2.2.1 17
        have B1076 : sf_B 0 1 (m1038 22) := T1041.2.2.1 22
        show pm_R _ 187 92 [.ref 41, .long a0, pm_no, .int a1] [.int 0] _ _
        have R1077 : (m 10).toInt ≤ (m1038 10).toInt := (sf_aux70 _ _ _ R1029 X1044)
        refine pm_R_br pm_M187 (pc_q := 122) (st_q := []) rfl rfl ?_
        refine pm_R_op pm_M187 (pc_q := 123) (st_q := [.int 0]) (pm_q187_1 (Nat.le_of_ble_eq_true rfl)) rfl rfl ?_
        exact pm_R_ret pm_M187 (r := some (.int 0)) (pm_q187_1 (Nat.le_of_ble_eq_true rfl)) rfl (K0 m1038 w1039 h1040 T1041 F1071 W1072 (sf_aux51 _ _ R1077))
      · have F1078 := F1022.trans F1051 (by decide)
        have W1079 : rf_W [10, 12, 13, 14, 16, 17, 18, 22] m m1047 := W1025.trans W1052 (by decide)
        have B1080 : sf_B 0 600 (m1047 10) := T1050.2.2.1 10
        have B1081 : sf_B 0 4 (m1047 13) := T1050.2.2.1 13
        have B1082 : sf_B 0 4 (m1047 17) := T1050.2.2.1 17
        have B1083 : sf_B 0 1 (m1047 22) := T1050.2.2.1 22
        show pm_R _ 187 92 [.ref 41, .long a0, pm_no, .int a1] [.int 1] _ _
        have R1084 : (m 10).toInt ≤ (m1047 10).toInt := (sf_aux70 _ _ _ R1029 X1057)
        obtain ⟨v1085, B1086, e1087⟩ := X1053 _ e1034
        refine pm_R_br pm_M187 (pc_q := 95) (st_q := []) rfl rfl ?_
        refine pm_R_lo pm_M187 (pc_q := 96) rfl rfl rfl ?_
        refine pm_R_op pm_M187 (pc_q := 97) (st_q := [.int 1, .ref 41]) rfl rfl rfl ?_
        refine pm_R_op pm_M187 (pc_q := 98) (st_q := [.int 5, .int 1, .ref 41]) rfl rfl rfl ?_
        refine pm_R_op pm_M187 (pc_q := 99) (st_q := [.int (-1), .int 5, .int 1, .ref 41]) rfl rfl rfl ?_
        refine pm_R_cv pm_M187 (pc_q := 102) (a := 41) (ra := [.int (-1), .int 5, .int 1]) (rest := []) (ls_q := [.ref 41, .int 1, .int 5, .int (-1)]) rfl rfl (Or.inl rfl) pm_M183 T1050.2.1 rfl (by decide) (Nat.lt_of_lt_of_le (by decide) T1050.1) rfl rfl (Nat.le_of_ble_eq_true rfl) rfl rfl ?_
        refine rf_c183_1_5 (d := d + 0) T1050  (fun m1090 w1091 h1092 T1093 F1094 W1095 X1096 => ?_) (fun m1099 w1100 h1101 T1102 F1103 W1104 X1105 X1106 X1107 X1108 X1109 => ?_) (fun m1112 w1113 h1114 T1115 F1116 W1117 X1118 X1119 X1120 B1121 B1122 => ?_)
        · have F1123 := F1078.trans F1094 (by decide)
          have W1124 : rf_W [10, 12, 13, 14, 16, 17, 18, 22] m m1090 := W1079.trans W1095 (by decide)
          have B1125 : sf_B 0 600 (m1090 10) := T1093.2.2.1 10
          have B1126 : sf_B 0 4 (m1090 13) := T1093.2.2.1 13
          have B1127 : sf_B 0 4 (m1090 17) := T1093.2.2.1 17
          have B1128 : sf_B 0 1 (m1090 22) := T1093.2.2.1 22
          show pm_R _ 187 102 [.ref 41, .long a0, pm_no, .int a1] [.int 0] _ _
          have R1129 : (m 10).toInt ≤ (m1090 10).toInt := (sf_aux70 _ _ _ R1084 X1096)
          refine pm_R_br pm_M187 (pc_q := 122) (st_q := []) rfl rfl ?_
          refine pm_R_op pm_M187 (pc_q := 123) (st_q := [.int 0]) (pm_q187_1 (Nat.le_of_ble_eq_true rfl)) rfl rfl ?_
          exact pm_R_ret pm_M187 (r := some (.int 0)) (pm_q187_1 (Nat.le_of_ble_eq_true rfl)) rfl (K0 m1090 w1091 h1092 T1093 F1123 W1124 (sf_aux51 _ _ R1129))
        · have F1130 := F1078.trans F1103 (by decide)
          have W1131 : rf_W [10, 12, 13, 14, 16, 17, 18, 22] m m1099 := W1079.trans W1104 (by decide)
          have B1132 : sf_B 0 600 (m1099 10) := T1102.2.2.1 10
          have B1133 : sf_B 0 4 (m1099 13) := T1102.2.2.1 13
          have B1134 : sf_B 0 4 (m1099 17) := T1102.2.2.1 17
          have B1135 : sf_B 0 1 (m1099 22) := T1102.2.2.1 22
          show pm_R _ 187 102 [.ref 41, .long a0, pm_no, .int a1] [.int 1] _ _
          have R1136 : (m 10).toInt ≤ (m1099 10).toInt := (sf_aux70 _ _ _ R1084 X1109)
          obtain ⟨v1137, B1138, e1139⟩ := X1105 _ e1087
          refine pm_R_br pm_M187 (pc_q := 105) (st_q := []) rfl rfl ?_
          refine pm_R_lo pm_M187 (pc_q := 106) rfl rfl rfl ?_
          refine pm_R_op pm_M187 (pc_q := 107) (st_q := [.int 2, .ref 41]) rfl rfl rfl ?_
          refine pm_R_op pm_M187 (pc_q := 108) (st_q := [.int 5, .int 2, .ref 41]) rfl rfl rfl ?_
          refine pm_R_op pm_M187 (pc_q := 109) (st_q := [.int (-1), .int 5, .int 2, .ref 41]) (pm_q187_1 (Nat.le_of_ble_eq_true rfl)) rfl rfl ?_
          refine pm_R_cv pm_M187 (pc_q := 112) (a := 41) (ra := [.int (-1), .int 5, .int 2]) (rest := []) (ls_q := [.ref 41, .int 2, .int 5, .int (-1)]) (pm_q187_1 (Nat.le_of_ble_eq_true rfl)) rfl (Or.inl rfl) pm_M183 T1102.2.1 rfl (by decide) (Nat.lt_of_lt_of_le (by decide) T1102.1) rfl rfl (Nat.le_of_ble_eq_true rfl) rfl rfl ?_
          refine rf_c183_2_5 (d := d + 0) T1102  (fun m1142 w1143 h1144 T1145 F1146 W1147 X1148 => ?_) (fun m1151 w1152 h1153 T1154 F1155 W1156 X1157 X1158 X1159 X1160 X1161 => ?_) (fun m1164 w1165 h1166 T1167 F1168 W1169 X1170 X1171 X1172 B1173 B1174 => ?_)
          · have F1175 := F1130.trans F1146 (by decide)
            have W1176 : rf_W [10, 12, 13, 14, 16, 17, 18, 22] m m1142 := W1131.trans W1147 (by decide)
            have B1177 : sf_B 0 600 (m1142 10) := T1145.2.2.1 10
            have B1178 : sf_B 0 4 (m1142 13) := T1145.2.2.1 13
            have B1179 : sf_B 0 4 (m1142 17) := T1145.2.2.1 17
            have B1180 : sf_B 0 1 (m1142 22) := T1145.2.2.1 22
            show pm_R _ 187 112 [.ref 41, .long a0, pm_no, .int a1] [.int 0] _ _
            have R1181 : (m 10).toInt ≤ (m1142 10).toInt := (sf_aux70 _ _ _ R1136 X1148)
            refine pm_R_br pm_M187 (pc_q := 122) (st_q := []) (pm_q187_1 (Nat.le_of_ble_eq_true rfl)) rfl ?_
            refine pm_R_op pm_M187 (pc_q := 123) (st_q := [.int 0]) (pm_q187_1 (Nat.le_of_ble_eq_true rfl)) rfl rfl ?_
            exact pm_R_ret pm_M187 (r := some (.int 0)) (pm_q187_1 (Nat.le_of_ble_eq_true rfl)) rfl (K0 m1142 w1143 h1144 T1145 F1175 W1176 (sf_aux51 _ _ R1181))
          · have F1182 := F1130.trans F1155 (by decide)
            have W1183 : rf_W [10, 12, 13, 14, 16, 17, 18, 22] m m1151 := W1131.trans W1156 (by decide)
            have B1184 : sf_B 0 600 (m1151 10) := T1154.2.2.1 10
            have B1185 : sf_B 0 4 (m1151 13) := T1154.2.2.1 13
            have B1186 : sf_B 0 4 (m1151 17) := T1154.2.2.1 17
            have B1187 : sf_B 0 1 (m1151 22) := T1154.2.2.1 22
            show pm_R _ 187 112 [.ref 41, .long a0, pm_no, .int a1] [.int 1] _ _
            have R1188 : (m 10).toInt ≤ (m1151 10).toInt := (sf_aux70 _ _ _ R1136 X1161)
            obtain ⟨v1189, B1190, e1191⟩ := X1157 _ e1139
            refine pm_R_br pm_M187 (pc_q := 115) (st_q := []) (pm_q187_1 (Nat.le_of_ble_eq_true rfl)) rfl ?_
            refine pm_R_lo pm_M187 (pc_q := 116) (pm_q187_1 (Nat.le_of_ble_eq_true rfl)) rfl rfl ?_
            refine pm_R_cv pm_M187 (pc_q := 119) (a := 41) (ra := []) (rest := []) (ls_q := [.ref 41, pm_no, pm_no]) (pm_q187_1 (Nat.le_of_ble_eq_true rfl)) rfl (Or.inl rfl) pm_M188 T1154.2.1 rfl (by decide) (Nat.lt_of_lt_of_le (by decide) T1154.1) rfl rfl (Nat.le_of_ble_eq_true rfl) rfl rfl ?_
            refine rf_c188 (d := d + 0) T1154  (fun m1194 w1195 h1196 T1197 F1198 W1199 X1200 => ?_) (fun m1203 w1204 h1205 T1206 F1207 W1208 X1209 X1210 => ?_)
            · have F1211 := F1182.trans F1198 (by decide)
              have B1212 : sf_B 0 4 (m1194 17) := by rw [W1199 17 (by decide)]; exact (sf_eqT X1158 (sf_eqT X1106 (sf_eqT X1054 B1023)))
              have ek1213 : (m1194 17).toInt = ((m1099 17)).toInt := by rw [W1199 17 (by decide)]; exact X1158
              have B1214 : sf_B 0 1 (m1194 22) := by rw [W1199 22 (by decide)]; exact (sf_eqT X1159 (sf_eqT X1107 (sf_eqT X1055 B1028)))
              have ek1215 : (m1194 22).toInt = ((m1099 22)).toInt := by rw [W1199 22 (by decide)]; exact X1159
              have W1216 : rf_W [10, 12, 13, 14, 16, 17, 18, 22] m m1194 := W1183.trans W1199 (by decide)
              have B1217 : sf_B 0 600 (m1194 10) := T1197.2.2.1 10
              have B1218 : sf_B 0 4 (m1194 13) := T1197.2.2.1 13
              show pm_R _ 187 119 [.ref 41, .long a0, pm_no, .int a1] [.int 0] _ _
              have R1219 : (m 10).toInt ≤ (m1194 10).toInt := (sf_aux70 _ _ _ R1188 X1200)
              refine pm_R_br pm_M187 (pc_q := 122) (st_q := []) (pm_q187_1 (Nat.le_of_ble_eq_true rfl)) rfl ?_
              refine pm_R_op pm_M187 (pc_q := 123) (st_q := [.int 0]) (pm_q187_1 (Nat.le_of_ble_eq_true rfl)) rfl rfl ?_
              exact pm_R_ret pm_M187 (r := some (.int 0)) (pm_q187_1 (Nat.le_of_ble_eq_true rfl)) rfl (K0 m1194 w1195 h1196 T1197 F1211 W1216 (sf_aux51 _ _ R1219))
            · have F1220 := F1182.trans F1207 (by decide)
              have B1221 : sf_B 0 4 (m1203 17) := by rw [W1208 17 (by decide)]; exact (sf_eqT X1158 (sf_eqT X1106 (sf_eqT X1054 B1023)))
              have ek1222 : (m1203 17).toInt = ((m1099 17)).toInt := by rw [W1208 17 (by decide)]; exact X1158
              have B1223 : sf_B 0 1 (m1203 22) := by rw [W1208 22 (by decide)]; exact (sf_eqT X1159 (sf_eqT X1107 (sf_eqT X1055 B1028)))
              have ek1224 : (m1203 22).toInt = ((m1099 22)).toInt := by rw [W1208 22 (by decide)]; exact X1159
              have W1225 : rf_W [10, 12, 13, 14, 16, 17, 18, 22] m m1203 := W1183.trans W1208 (by decide)
              have B1226 : sf_B 0 600 (m1203 10) := T1206.2.2.1 10
              have B1227 : sf_B 0 4 (m1203 13) := T1206.2.2.1 13
              show pm_R _ 187 119 [.ref 41, .long a0, pm_no, .int a1] [.int 1] _ _
              have R1228 : (m 10).toInt ≤ (m1203 10).toInt := (sf_aux70 _ _ _ R1188 X1210)
              obtain ⟨v1229, B1230, e1231⟩ := X1209 _ e1191
              refine pm_R_br pm_M187 (pc_q := 124) (st_q := []) (pm_q187_1 (Nat.le_of_ble_eq_true rfl)) rfl ?_
              refine pm_R_lo pm_M187 (pc_q := 125) (pm_q187_1 (Nat.le_of_ble_eq_true rfl)) rfl rfl ?_
              refine pm_R_op pm_M187 (pc_q := 126) (st_q := [.int 0, .ref 41]) (pm_q187_1 (Nat.le_of_ble_eq_true rfl)) rfl rfl ?_
              refine pm_R_op pm_M187 (pc_q := 127) (st_q := [.int 2, .int 0, .ref 41]) (pm_q187_1 (Nat.le_of_ble_eq_true rfl)) rfl rfl ?_
              refine pm_R_op pm_M187 (pc_q := 128) (st_q := [.int 4, .int 2, .int 0, .ref 41]) (pm_q187_1 (Nat.le_of_ble_eq_true rfl)) rfl rfl ?_
              refine pm_R_op pm_M187 (pc_q := 130) (st_q := [.int 10, .int 4, .int 2, .int 0, .ref 41]) (pm_q187_1 (Nat.le_of_ble_eq_true rfl)) rfl rfl ?_
              refine pm_R_op pm_M187 (pc_q := 131) (st_q := [.int 0, .int 10, .int 4, .int 2, .int 0, .ref 41]) (pm_q187_1 (Nat.le_of_ble_eq_true rfl)) rfl rfl ?_
              refine pm_R_cv pm_M187 (pc_q := 134) (a := 41) (ra := [.int 0, .int 10, .int 4, .int 2, .int 0]) (rest := []) (ls_q := [.ref 41, .int 0, .int 2, .int 4, .int 10, .int 0, pm_no, pm_no]) (pm_q187_1 (Nat.le_of_ble_eq_true rfl)) rfl (Or.inl rfl) pm_M185 T1206.2.1 rfl (by decide) (Nat.lt_of_lt_of_le (by decide) T1206.1) rfl rfl (Nat.le_of_ble_eq_true rfl) rfl rfl ?_
              have e1232 := (F1207.cell (by decide) (F1155.cell (by decide) (F1103.cell (by decide) (F1051.cell (by decide) (F1018.cell (by decide) e3)))))
              refine rf_c185_r (d := d + 2) T1206 (⟨f2, e1232, ct4, fun z => (bd5 (sf_aux71 _ _ _ _ _ ek1024 X1054 X1106 ek1222 z))⟩) (fun _ g eg => by rw [e1231] at eg; cases eg; exact ⟨sf_eqL (Eq.trans (sf_upd_nec (k := Int32.toNatClampNeg 3) (j := Int32.toNatClampNeg 0) (by decide)) (Eq.trans (sf_upd_nec (k := Int32.toNatClampNeg 2) (j := Int32.toNatClampNeg 0) (by decide)) (Eq.trans (sf_upd_nec (k := Int32.toNatClampNeg 1) (j := Int32.toNatClampNeg 0) (by decide)) sf_upd_eq))) B1086, sf_eqL (Eq.trans (sf_upd_nec (k := Int32.toNatClampNeg 3) (j := Int32.toNatClampNeg 1) (by decide)) (Eq.trans (sf_upd_nec (k := Int32.toNatClampNeg 2) (j := Int32.toNatClampNeg 1) (by decide)) sf_upd_eq)) B1138, sf_eqL (Eq.trans (sf_upd_nec (k := Int32.toNatClampNeg 3) (j := Int32.toNatClampNeg 2) (by decide)) sf_upd_eq) B1190, sf_eqL sf_upd_eq B1230⟩) (fun m1235 w1236 h1237 T1238 F1239 W1240 X1241 => ?_)
              have F1242 := F1220.trans F1239 (by decide)
              have B1243 : sf_B 0 4 (m1235 17) := by rw [W1240 17 (by decide)]; exact B1221
              have ek1244 : (m1235 17).toInt = ((m1099 17)).toInt := by rw [W1240 17 (by decide)]; exact ek1222
              have B1245 : sf_B 0 1 (m1235 22) := by rw [W1240 22 (by decide)]; exact B1223
              have ek1246 : (m1235 22).toInt = ((m1099 22)).toInt := by rw [W1240 22 (by decide)]; exact ek1224
              have B1247 : sf_B 0 600 (m1235 10) := by rw [W1240 10 (by decide)]; exact B1226
              have ek1248 : (m1235 10).toInt = ((m1203 10)).toInt := by rw [W1240 10 (by decide)]
              have B1249 : sf_B 0 4 (m1235 13) := by rw [W1240 13 (by decide)]; exact B1227
              have ek1250 : (m1235 13).toInt = ((m1203 13)).toInt := by rw [W1240 13 (by decide)]
              have W1251 : rf_W [10, 12, 13, 14, 16, 17, 18, 22] m m1235 := W1225.trans W1240 (by decide)
              show pm_R _ 187 134 [.ref 41, .long a0, pm_no, .int a1] [] _ _
              obtain ⟨f1252, e1253, ct1254, bd1255⟩ := X1241
              refine pm_R_op pm_M187 (pc_q := 135) (st_q := [.int 1]) (pm_q187_1 (Nat.le_of_ble_eq_true rfl)) rfl rfl ?_
              exact pm_R_ret pm_M187 (r := some (.int 1)) (pm_q187_1 (Nat.le_of_ble_eq_true rfl)) rfl (K1 m1235 w1236 h1237 T1238 F1242 W1251 (⟨f1252, e1253, ct1254, fun z => (bd1255 z)⟩) (sf_aux39 _ _ _ ek1248 R1228))
          · have F1256 := F1130.trans F1168 (by decide)
            have W1257 : rf_W [10, 12, 13, 14, 16, 17, 18, 22] m m1164 := W1131.trans W1169 (by decide)
            have B1258 : sf_B 0 600 (m1164 10) := T1167.2.2.1 10
            have B1259 : sf_B 0 4 (m1164 13) := T1167.2.2.1 13
            have B1260 : sf_B 0 4 (m1164 17) := T1167.2.2.1 17
            have B1261 : sf_B 0 1 (m1164 22) := T1167.2.2.1 22
            show pm_R _ 187 112 [.ref 41, .long a0, pm_no, .int a1] [.int 1] _ _
            have R1262 : (m 10).toInt ≤ (m1164 10).toInt := (sf_aux70 _ _ _ R1136 X1172)
            obtain ⟨v1263, B1264, e1265⟩ := X1170 _ e1139
            refine pm_R_br pm_M187 (pc_q := 115) (st_q := []) (pm_q187_1 (Nat.le_of_ble_eq_true rfl)) rfl ?_
            refine pm_R_lo pm_M187 (pc_q := 116) (pm_q187_1 (Nat.le_of_ble_eq_true rfl)) rfl rfl ?_
            refine pm_R_cv pm_M187 (pc_q := 119) (a := 41) (ra := []) (rest := []) (ls_q := [.ref 41, pm_no, pm_no]) (pm_q187_1 (Nat.le_of_ble_eq_true rfl)) rfl (Or.inl rfl) pm_M188 T1167.2.1 rfl (by decide) (Nat.lt_of_lt_of_le (by decide) T1167.1) rfl rfl (Nat.le_of_ble_eq_true rfl) rfl rfl ?_
            refine rf_c188 (d := d + 0) T1167  (fun m1268 w1269 h1270 T1271 F1272 W1273 X1274 => ?_) (fun m1277 w1278 h1279 T1280 F1281 W1282 X1283 X1284 => ?_)
            · have F1285 := F1256.trans F1272 (by decide)
              have B1286 : sf_B 1 4 (m1268 17) := by rw [W1273 17 (by decide)]; exact B1173
              have ek1287 : (m1268 17).toInt = ((m1164 17)).toInt := by rw [W1273 17 (by decide)]
              have B1288 : sf_B 0 0 (m1268 22) := by rw [W1273 22 (by decide)]; exact B1174
              have ek1289 : (m1268 22).toInt = ((m1164 22)).toInt := by rw [W1273 22 (by decide)]
              have W1290 : rf_W [10, 12, 13, 14, 16, 17, 18, 22] m m1268 := W1257.trans W1273 (by decide)
              have B1291 : sf_B 0 600 (m1268 10) := T1271.2.2.1 10
              have B1292 : sf_B 0 4 (m1268 13) := T1271.2.2.1 13
              show pm_R _ 187 119 [.ref 41, .long a0, pm_no, .int a1] [.int 0] _ _
              have R1293 : (m 10).toInt ≤ (m1268 10).toInt := (sf_aux70 _ _ _ R1262 X1274)
              refine pm_R_br pm_M187 (pc_q := 122) (st_q := []) (pm_q187_1 (Nat.le_of_ble_eq_true rfl)) rfl ?_
              refine pm_R_op pm_M187 (pc_q := 123) (st_q := [.int 0]) (pm_q187_1 (Nat.le_of_ble_eq_true rfl)) rfl rfl ?_
              exact pm_R_ret pm_M187 (r := some (.int 0)) (pm_q187_1 (Nat.le_of_ble_eq_true rfl)) rfl (K0 m1268 w1269 h1270 T1271 F1285 W1290 (sf_aux51 _ _ R1293))
            · have F1294 := F1256.trans F1281 (by decide)
              have B1295 : sf_B 1 4 (m1277 17) := by rw [W1282 17 (by decide)]; exact B1173
              have ek1296 : (m1277 17).toInt = ((m1164 17)).toInt := by rw [W1282 17 (by decide)]
              have B1297 : sf_B 0 0 (m1277 22) := by rw [W1282 22 (by decide)]; exact B1174
              have ek1298 : (m1277 22).toInt = ((m1164 22)).toInt := by rw [W1282 22 (by decide)]
              have W1299 : rf_W [10, 12, 13, 14, 16, 17, 18, 22] m m1277 := W1257.trans W1282 (by decide)
              have B1300 : sf_B 0 600 (m1277 10) := T1280.2.2.1 10
              have B1301 : sf_B 0 4 (m1277 13) := T1280.2.2.1 13
              show pm_R _ 187 119 [.ref 41, .long a0, pm_no, .int a1] [.int 1] _ _
              have R1302 : (m 10).toInt ≤ (m1277 10).toInt := (sf_aux70 _ _ _ R1262 X1284)
              obtain ⟨v1303, B1304, e1305⟩ := X1283 _ e1265
              refine pm_R_br pm_M187 (pc_q := 124) (st_q := []) (pm_q187_1 (Nat.le_of_ble_eq_true rfl)) rfl ?_
              refine pm_R_lo pm_M187 (pc_q := 125) (pm_q187_1 (Nat.le_of_ble_eq_true rfl)) rfl rfl ?_
              refine pm_R_op pm_M187 (pc_q := 126) (st_q := [.int 0, .ref 41]) (pm_q187_1 (Nat.le_of_ble_eq_true rfl)) rfl rfl ?_
              refine pm_R_op pm_M187 (pc_q := 127) (st_q := [.int 2, .int 0, .ref 41]) (pm_q187_1 (Nat.le_of_ble_eq_true rfl)) rfl rfl ?_
              refine pm_R_op pm_M187 (pc_q := 128) (st_q := [.int 4, .int 2, .int 0, .ref 41]) (pm_q187_1 (Nat.le_of_ble_eq_true rfl)) rfl rfl ?_
              refine pm_R_op pm_M187 (pc_q := 130) (st_q := [.int 10, .int 4, .int 2, .int 0, .ref 41]) (pm_q187_1 (Nat.le_of_ble_eq_true rfl)) rfl rfl ?_
              refine pm_R_op pm_M187 (pc_q := 131) (st_q := [.int 0, .int 10, .int 4, .int 2, .int 0, .ref 41]) (pm_q187_1 (Nat.le_of_ble_eq_true rfl)) rfl rfl ?_
              refine pm_R_cv pm_M187 (pc_q := 134) (a := 41) (ra := [.int 0, .int 10, .int 4, .int 2, .int 0]) (rest := []) (ls_q := [.ref 41, .int 0, .int 2, .int 4, .int 10, .int 0, pm_no, pm_no]) (pm_q187_1 (Nat.le_of_ble_eq_true rfl)) rfl (Or.inl rfl) pm_M185 T1280.2.1 rfl (by decide) (Nat.lt_of_lt_of_le (by decide) T1280.1) rfl rfl (Nat.le_of_ble_eq_true rfl) rfl rfl ?_
              have e1306 := (F1281.cell (by decide) (F1168.cell (by decide) (F1103.cell (by decide) (F1051.cell (by decide) (F1018.cell (by decide) e3)))))
              refine rf_c185_r (d := d + 2) T1280 (⟨f2, e1306, ct4, fun z => (sf_pos B1295 (by decide) z)⟩) (fun z => sf_pos B1295 (by decide) z) (fun m1309 w1310 h1311 T1312 F1313 W1314 X1315 => ?_)
              have F1316 := F1294.trans F1313 (by decide)
              have B1317 : sf_B 1 4 (m1309 17) := by rw [W1314 17 (by decide)]; exact B1295
              have ek1318 : (m1309 17).toInt = ((m1164 17)).toInt := by rw [W1314 17 (by decide)]; exact ek1296
              have B1319 : sf_B 0 0 (m1309 22) := by rw [W1314 22 (by decide)]; exact B1297
              have ek1320 : (m1309 22).toInt = ((m1164 22)).toInt := by rw [W1314 22 (by decide)]; exact ek1298
              have B1321 : sf_B 0 600 (m1309 10) := by rw [W1314 10 (by decide)]; exact B1300
              have ek1322 : (m1309 10).toInt = ((m1277 10)).toInt := by rw [W1314 10 (by decide)]
              have B1323 : sf_B 0 4 (m1309 13) := by rw [W1314 13 (by decide)]; exact B1301
              have ek1324 : (m1309 13).toInt = ((m1277 13)).toInt := by rw [W1314 13 (by decide)]
              have W1325 : rf_W [10, 12, 13, 14, 16, 17, 18, 22] m m1309 := W1299.trans W1314 (by decide)
              show pm_R _ 187 134 [.ref 41, .long a0, pm_no, .int a1] [] _ _
              obtain ⟨f1326, e1327, ct1328, bd1329⟩ := X1315
              refine pm_R_op pm_M187 (pc_q := 135) (st_q := [.int 1]) (pm_q187_1 (Nat.le_of_ble_eq_true rfl)) rfl rfl ?_
              exact pm_R_ret pm_M187 (r := some (.int 1)) (pm_q187_1 (Nat.le_of_ble_eq_true rfl)) rfl (K1 m1309 w1310 h1311 T1312 F1316 W1325 (⟨f1326, e1327, ct1328, fun z => (sf_pos B1317 (by decide) z)⟩) (sf_aux39 _ _ _ ek1322 R1302))
        · have F1330 := F1078.trans F1116 (by decide)
          have W1331 : rf_W [10, 12, 13, 14, 16, 17, 18, 22] m m1112 := W1079.trans W1117 (by decide)
          have B1332 : sf_B 0 600 (m1112 10) := T1115.2.2.1 10
          have B1333 : sf_B 0 4 (m1112 13) := T1115.2.2.1 13
          have B1334 : sf_B 0 4 (m1112 17) := T1115.2.2.1 17
          have B1335 : sf_B 0 1 (m1112 22) := T1115.2.2.1 22
          show pm_R _ 187 102 [.ref 41, .long a0, pm_no, .int a1] [.int 1] _ _
          have R1336 : (m 10).toInt ≤ (m1112 10).toInt := (sf_aux70 _ _ _ R1084 X1120)
          obtain ⟨v1337, B1338, e1339⟩ := X1118 _ e1087
          refine pm_R_br pm_M187 (pc_q := 105) (st_q := []) rfl rfl ?_
          refine pm_R_lo pm_M187 (pc_q := 106) rfl rfl rfl ?_
          refine pm_R_op pm_M187 (pc_q := 107) (st_q := [.int 2, .ref 41]) rfl rfl rfl ?_
          refine pm_R_op pm_M187 (pc_q := 108) (st_q := [.int 5, .int 2, .ref 41]) rfl rfl rfl ?_
          refine pm_R_op pm_M187 (pc_q := 109) (st_q := [.int (-1), .int 5, .int 2, .ref 41]) (pm_q187_1 (Nat.le_of_ble_eq_true rfl)) rfl rfl ?_
          refine pm_R_cv pm_M187 (pc_q := 112) (a := 41) (ra := [.int (-1), .int 5, .int 2]) (rest := []) (ls_q := [.ref 41, .int 2, .int 5, .int (-1)]) (pm_q187_1 (Nat.le_of_ble_eq_true rfl)) rfl (Or.inl rfl) pm_M183 T1115.2.1 rfl (by decide) (Nat.lt_of_lt_of_le (by decide) T1115.1) rfl rfl (Nat.le_of_ble_eq_true rfl) rfl rfl ?_
          refine rf_c183_2_5 (d := d + 0) T1115  (fun m1342 w1343 h1344 T1345 F1346 W1347 X1348 => ?_) (fun m1351 w1352 h1353 T1354 F1355 W1356 X1357 X1358 X1359 X1360 X1361 => ?_) (fun m1364 w1365 h1366 T1367 F1368 W1369 X1370 X1371 X1372 B1373 B1374 => ?_)
          · have F1375 := F1330.trans F1346 (by decide)
            have W1376 : rf_W [10, 12, 13, 14, 16, 17, 18, 22] m m1342 := W1331.trans W1347 (by decide)
            have B1377 : sf_B 0 600 (m1342 10) := T1345.2.2.1 10
            have B1378 : sf_B 0 4 (m1342 13) := T1345.2.2.1 13
            have B1379 : sf_B 0 4 (m1342 17) := T1345.2.2.1 17
            have B1380 : sf_B 0 1 (m1342 22) := T1345.2.2.1 22
            show pm_R _ 187 112 [.ref 41, .long a0, pm_no, .int a1] [.int 0] _ _
            have R1381 : (m 10).toInt ≤ (m1342 10).toInt := (sf_aux70 _ _ _ R1336 X1348)
            refine pm_R_br pm_M187 (pc_q := 122) (st_q := []) (pm_q187_1 (Nat.le_of_ble_eq_true rfl)) rfl ?_
            refine pm_R_op pm_M187 (pc_q := 123) (st_q := [.int 0]) (pm_q187_1 (Nat.le_of_ble_eq_true rfl)) rfl rfl ?_
            exact pm_R_ret pm_M187 (r := some (.int 0)) (pm_q187_1 (Nat.le_of_ble_eq_true rfl)) rfl (K0 m1342 w1343 h1344 T1345 F1375 W1376 (sf_aux51 _ _ R1381))
          · have F1382 := F1330.trans F1355 (by decide)
            have W1383 : rf_W [10, 12, 13, 14, 16, 17, 18, 22] m m1351 := W1331.trans W1356 (by decide)
            have B1384 : sf_B 0 600 (m1351 10) := T1354.2.2.1 10
            have B1385 : sf_B 0 4 (m1351 13) := T1354.2.2.1 13
            have B1386 : sf_B 0 4 (m1351 17) := T1354.2.2.1 17
            have B1387 : sf_B 0 1 (m1351 22) := T1354.2.2.1 22
            show pm_R _ 187 112 [.ref 41, .long a0, pm_no, .int a1] [.int 1] _ _
            have R1388 : (m 10).toInt ≤ (m1351 10).toInt := (sf_aux70 _ _ _ R1336 X1361)
            obtain ⟨v1389, B1390, e1391⟩ := X1357 _ e1339
            refine pm_R_br pm_M187 (pc_q := 115) (st_q := []) (pm_q187_1 (Nat.le_of_ble_eq_true rfl)) rfl ?_
            refine pm_R_lo pm_M187 (pc_q := 116) (pm_q187_1 (Nat.le_of_ble_eq_true rfl)) rfl rfl ?_
            refine pm_R_cv pm_M187 (pc_q := 119) (a := 41) (ra := []) (rest := []) (ls_q := [.ref 41, pm_no, pm_no]) (pm_q187_1 (Nat.le_of_ble_eq_true rfl)) rfl (Or.inl rfl) pm_M188 T1354.2.1 rfl (by decide) (Nat.lt_of_lt_of_le (by decide) T1354.1) rfl rfl (Nat.le_of_ble_eq_true rfl) rfl rfl ?_
            refine rf_c188 (d := d + 0) T1354  (fun m1394 w1395 h1396 T1397 F1398 W1399 X1400 => ?_) (fun m1403 w1404 h1405 T1406 F1407 W1408 X1409 X1410 => ?_)
            · have F1411 := F1382.trans F1398 (by decide)
              have B1412 : sf_B 1 4 (m1394 17) := by rw [W1399 17 (by decide)]; exact (sf_eqT X1358 B1121)
              have ek1413 : (m1394 17).toInt = ((m1112 17)).toInt := by rw [W1399 17 (by decide)]; exact X1358
              have B1414 : sf_B 0 0 (m1394 22) := by rw [W1399 22 (by decide)]; exact (sf_eqT X1359 B1122)
              have ek1415 : (m1394 22).toInt = ((m1112 22)).toInt := by rw [W1399 22 (by decide)]; exact X1359
              have W1416 : rf_W [10, 12, 13, 14, 16, 17, 18, 22] m m1394 := W1383.trans W1399 (by decide)
              have B1417 : sf_B 0 600 (m1394 10) := T1397.2.2.1 10
              have B1418 : sf_B 0 4 (m1394 13) := T1397.2.2.1 13
              show pm_R _ 187 119 [.ref 41, .long a0, pm_no, .int a1] [.int 0] _ _
              have R1419 : (m 10).toInt ≤ (m1394 10).toInt := (sf_aux70 _ _ _ R1388 X1400)
              refine pm_R_br pm_M187 (pc_q := 122) (st_q := []) (pm_q187_1 (Nat.le_of_ble_eq_true rfl)) rfl ?_
              refine pm_R_op pm_M187 (pc_q := 123) (st_q := [.int 0]) (pm_q187_1 (Nat.le_of_ble_eq_true rfl)) rfl rfl ?_
              exact pm_R_ret pm_M187 (r := some (.int 0)) (pm_q187_1 (Nat.le_of_ble_eq_true rfl)) rfl (K0 m1394 w1395 h1396 T1397 F1411 W1416 (sf_aux51 _ _ R1419))
            · have F1420 := F1382.trans F1407 (by decide)
              have B1421 : sf_B 1 4 (m1403 17) := by rw [W1408 17 (by decide)]; exact (sf_eqT X1358 B1121)
              have ek1422 : (m1403 17).toInt = ((m1112 17)).toInt := by rw [W1408 17 (by decide)]; exact X1358
              have B1423 : sf_B 0 0 (m1403 22) := by rw [W1408 22 (by decide)]; exact (sf_eqT X1359 B1122)
              have ek1424 : (m1403 22).toInt = ((m1112 22)).toInt := by rw [W1408 22 (by decide)]; exact X1359
              have W1425 : rf_W [10, 12, 13, 14, 16, 17, 18, 22] m m1403 := W1383.trans W1408 (by decide)
              have B1426 : sf_B 0 600 (m1403 10) := T1406.2.2.1 10
              have B1427 : sf_B 0 4 (m1403 13) := T1406.2.2.1 13
              show pm_R _ 187 119 [.ref 41, .long a0, pm_no, .int a1] [.int 1] _ _
              have R1428 : (m 10).toInt ≤ (m1403 10).toInt := (sf_aux70 _ _ _ R1388 X1410)
              obtain ⟨v1429, B1430, e1431⟩ := X1409 _ e1391
              refine pm_R_br pm_M187 (pc_q := 124) (st_q := []) (pm_q187_1 (Nat.le_of_ble_eq_true rfl)) rfl ?_
              refine pm_R_lo pm_M187 (pc_q := 125) (pm_q187_1 (Nat.le_of_ble_eq_true rfl)) rfl rfl ?_
              refine pm_R_op pm_M187 (pc_q := 126) (st_q := [.int 0, .ref 41]) (pm_q187_1 (Nat.le_of_ble_eq_true rfl)) rfl rfl ?_
              refine pm_R_op pm_M187 (pc_q := 127) (st_q := [.int 2, .int 0, .ref 41]) (pm_q187_1 (Nat.le_of_ble_eq_true rfl)) rfl rfl ?_
              refine pm_R_op pm_M187 (pc_q := 128) (st_q := [.int 4, .int 2, .int 0, .ref 41]) (pm_q187_1 (Nat.le_of_ble_eq_true rfl)) rfl rfl ?_
              refine pm_R_op pm_M187 (pc_q := 130) (st_q := [.int 10, .int 4, .int 2, .int 0, .ref 41]) (pm_q187_1 (Nat.le_of_ble_eq_true rfl)) rfl rfl ?_
              refine pm_R_op pm_M187 (pc_q := 131) (st_q := [.int 0, .int 10, .int 4, .int 2, .int 0, .ref 41]) (pm_q187_1 (Nat.le_of_ble_eq_true rfl)) rfl rfl ?_
              refine pm_R_cv pm_M187 (pc_q := 134) (a := 41) (ra := [.int 0, .int 10, .int 4, .int 2, .int 0]) (rest := []) (ls_q := [.ref 41, .int 0, .int 2, .int 4, .int 10, .int 0, pm_no, pm_no]) (pm_q187_1 (Nat.le_of_ble_eq_true rfl)) rfl (Or.inl rfl) pm_M185 T1406.2.1 rfl (by decide) (Nat.lt_of_lt_of_le (by decide) T1406.1) rfl rfl (Nat.le_of_ble_eq_true rfl) rfl rfl ?_
              have e1432 := (F1407.cell (by decide) (F1355.cell (by decide) (F1116.cell (by decide) (F1051.cell (by decide) (F1018.cell (by decide) e3)))))
              refine rf_c185_r (d := d + 2) T1406 (⟨f2, e1432, ct4, fun z => (sf_pos B1421 (by decide) z)⟩) (fun z => sf_pos B1421 (by decide) z) (fun m1435 w1436 h1437 T1438 F1439 W1440 X1441 => ?_)
              have F1442 := F1420.trans F1439 (by decide)
              have B1443 : sf_B 1 4 (m1435 17) := by rw [W1440 17 (by decide)]; exact B1421
              have ek1444 : (m1435 17).toInt = ((m1112 17)).toInt := by rw [W1440 17 (by decide)]; exact ek1422
              have B1445 : sf_B 0 0 (m1435 22) := by rw [W1440 22 (by decide)]; exact B1423
              have ek1446 : (m1435 22).toInt = ((m1112 22)).toInt := by rw [W1440 22 (by decide)]; exact ek1424
              have B1447 : sf_B 0 600 (m1435 10) := by rw [W1440 10 (by decide)]; exact B1426
              have ek1448 : (m1435 10).toInt = ((m1403 10)).toInt := by rw [W1440 10 (by decide)]
              have B1449 : sf_B 0 4 (m1435 13) := by rw [W1440 13 (by decide)]; exact B1427
              have ek1450 : (m1435 13).toInt = ((m1403 13)).toInt := by rw [W1440 13 (by decide)]
              have W1451 : rf_W [10, 12, 13, 14, 16, 17, 18, 22] m m1435 := W1425.trans W1440 (by decide)
              show pm_R _ 187 134 [.ref 41, .long a0, pm_no, .int a1] [] _ _
              obtain ⟨f1452, e1453, ct1454, bd1455⟩ := X1441
              refine pm_R_op pm_M187 (pc_q := 135) (st_q := [.int 1]) (pm_q187_1 (Nat.le_of_ble_eq_true rfl)) rfl rfl ?_
              exact pm_R_ret pm_M187 (r := some (.int 1)) (pm_q187_1 (Nat.le_of_ble_eq_true rfl)) rfl (K1 m1435 w1436 h1437 T1438 F1442 W1451 (⟨f1452, e1453, ct1454, fun z => (sf_pos B1443 (by decide) z)⟩) (sf_aux39 _ _ _ ek1448 R1428))
          · have F1456 := F1330.trans F1368 (by decide)
            have W1457 : rf_W [10, 12, 13, 14, 16, 17, 18, 22] m m1364 := W1331.trans W1369 (by decide)
            have B1458 : sf_B 0 600 (m1364 10) := T1367.2.2.1 10
            have B1459 : sf_B 0 4 (m1364 13) := T1367.2.2.1 13
            have B1460 : sf_B 0 4 (m1364 17) := T1367.2.2.1 17
            have B1461 : sf_B 0 1 (m1364 22) := T1367.2.2.1 22
            show pm_R _ 187 112 [.ref 41, .long a0, pm_no, .int a1] [.int 1] _ _
            have R1462 : (m 10).toInt ≤ (m1364 10).toInt := (sf_aux70 _ _ _ R1336 X1372)
            obtain ⟨v1463, B1464, e1465⟩ := X1370 _ e1339
            refine pm_R_br pm_M187 (pc_q := 115) (st_q := []) (pm_q187_1 (Nat.le_of_ble_eq_true rfl)) rfl ?_
            refine pm_R_lo pm_M187 (pc_q := 116) (pm_q187_1 (Nat.le_of_ble_eq_true rfl)) rfl rfl ?_
            refine pm_R_cv pm_M187 (pc_q := 119) (a := 41) (ra := []) (rest := []) (ls_q := [.ref 41, pm_no, pm_no]) (pm_q187_1 (Nat.le_of_ble_eq_true rfl)) rfl (Or.inl rfl) pm_M188 T1367.2.1 rfl (by decide) (Nat.lt_of_lt_of_le (by decide) T1367.1) rfl rfl (Nat.le_of_ble_eq_true rfl) rfl rfl ?_
            refine rf_c188 (d := d + 0) T1367  (fun m1468 w1469 h1470 T1471 F1472 W1473 X1474 => ?_) (fun m1477 w1478 h1479 T1480 F1481 W1482 X1483 X1484 => ?_)
            · have F1485 := F1456.trans F1472 (by decide)
              have B1486 : sf_B 1 4 (m1468 17) := by rw [W1473 17 (by decide)]; exact B1373
              have ek1487 : (m1468 17).toInt = ((m1364 17)).toInt := by rw [W1473 17 (by decide)]
              have B1488 : sf_B 0 0 (m1468 22) := by rw [W1473 22 (by decide)]; exact B1374
              have ek1489 : (m1468 22).toInt = ((m1364 22)).toInt := by rw [W1473 22 (by decide)]
              have W1490 : rf_W [10, 12, 13, 14, 16, 17, 18, 22] m m1468 := W1457.trans W1473 (by decide)
              have B1491 : sf_B 0 600 (m1468 10) := T1471.2.2.1 10
              have B1492 : sf_B 0 4 (m1468 13) := T1471.2.2.1 13
              show pm_R _ 187 119 [.ref 41, .long a0, pm_no, .int a1] [.int 0] _ _
              have R1493 : (m 10).toInt ≤ (m1468 10).toInt := (sf_aux70 _ _ _ R1462 X1474)
              refine pm_R_br pm_M187 (pc_q := 122) (st_q := []) (pm_q187_1 (Nat.le_of_ble_eq_true rfl)) rfl ?_
              refine pm_R_op pm_M187 (pc_q := 123) (st_q := [.int 0]) (pm_q187_1 (Nat.le_of_ble_eq_true rfl)) rfl rfl ?_
              exact pm_R_ret pm_M187 (r := some (.int 0)) (pm_q187_1 (Nat.le_of_ble_eq_true rfl)) rfl (K0 m1468 w1469 h1470 T1471 F1485 W1490 (sf_aux51 _ _ R1493))
            · have F1494 := F1456.trans F1481 (by decide)
              have B1495 : sf_B 1 4 (m1477 17) := by rw [W1482 17 (by decide)]; exact B1373
              have ek1496 : (m1477 17).toInt = ((m1364 17)).toInt := by rw [W1482 17 (by decide)]
              have B1497 : sf_B 0 0 (m1477 22) := by rw [W1482 22 (by decide)]; exact B1374
              have ek1498 : (m1477 22).toInt = ((m1364 22)).toInt := by rw [W1482 22 (by decide)]
              have W1499 : rf_W [10, 12, 13, 14, 16, 17, 18, 22] m m1477 := W1457.trans W1482 (by decide)
              have B1500 : sf_B 0 600 (m1477 10) := T1480.2.2.1 10
              have B1501 : sf_B 0 4 (m1477 13) := T1480.2.2.1 13
              show pm_R _ 187 119 [.ref 41, .long a0, pm_no, .int a1] [.int 1] _ _
              have R1502 : (m 10).toInt ≤ (m1477 10).toInt := (sf_aux70 _ _ _ R1462 X1484)
              obtain ⟨v1503, B1504, e1505⟩ := X1483 _ e1465
              refine pm_R_br pm_M187 (pc_q := 124) (st_q := []) (pm_q187_1 (Nat.le_of_ble_eq_true rfl)) rfl ?_
              refine pm_R_lo pm_M187 (pc_q := 125) (pm_q187_1 (Nat.le_of_ble_eq_true rfl)) rfl rfl ?_
              refine pm_R_op pm_M187 (pc_q := 126) (st_q := [.int 0, .ref 41]) (pm_q187_1 (Nat.le_of_ble_eq_true rfl)) rfl rfl ?_
              refine pm_R_op pm_M187 (pc_q := 127) (st_q := [.int 2, .int 0, .ref 41]) (pm_q187_1 (Nat.le_of_ble_eq_true rfl)) rfl rfl ?_
              refine pm_R_op pm_M187 (pc_q := 128) (st_q := [.int 4, .int 2, .int 0, .ref 41]) (pm_q187_1 (Nat.le_of_ble_eq_true rfl)) rfl rfl ?_
              refine pm_R_op pm_M187 (pc_q := 130) (st_q := [.int 10, .int 4, .int 2, .int 0, .ref 41]) (pm_q187_1 (Nat.le_of_ble_eq_true rfl)) rfl rfl ?_
              refine pm_R_op pm_M187 (pc_q := 131) (st_q := [.int 0, .int 10, .int 4, .int 2, .int 0, .ref 41]) (pm_q187_1 (Nat.le_of_ble_eq_true rfl)) rfl rfl ?_
              refine pm_R_cv pm_M187 (pc_q := 134) (a := 41) (ra := [.int 0, .int 10, .int 4, .int 2, .int 0]) (rest := []) (ls_q := [.ref 41, .int 0, .int 2, .int 4, .int 10, .int 0, pm_no, pm_no]) (pm_q187_1 (Nat.le_of_ble_eq_true rfl)) rfl (Or.inl rfl) pm_M185 T1480.2.1 rfl (by decide) (Nat.lt_of_lt_of_le (by decide) T1480.1) rfl rfl (Nat.le_of_ble_eq_true rfl) rfl rfl ?_
              have e1506 := (F1481.cell (by decide) (F1368.cell (by decide) (F1116.cell (by decide) (F1051.cell (by decide) (F1018.cell (by decide) e3)))))
              refine rf_c185_r (d := d + 2) T1480 (⟨f2, e1506, ct4, fun z => (sf_pos B1495 (by decide) z)⟩) (fun z => sf_pos B1495 (by decide) z) (fun m1509 w1510 h1511 T1512 F1513 W1514 X1515 => ?_)
              have F1516 := F1494.trans F1513 (by decide)
              have B1517 : sf_B 1 4 (m1509 17) := by rw [W1514 17 (by decide)]; exact B1495
              have ek1518 : (m1509 17).toInt = ((m1364 17)).toInt := by rw [W1514 17 (by decide)]; exact ek1496
              have B1519 : sf_B 0 0 (m1509 22) := by rw [W1514 22 (by decide)]; exact B1497
              have ek1520 : (m1509 22).toInt = ((m1364 22)).toInt := by rw [W1514 22 (by decide)]; exact ek1498
              have B1521 : sf_B 0 600 (m1509 10) := by rw [W1514 10 (by decide)]; exact B1500
              have ek1522 : (m1509 10).toInt = ((m1477 10)).toInt := by rw [W1514 10 (by decide)]
              have B1523 : sf_B 0 4 (m1509 13) := by rw [W1514 13 (by decide)]; exact B1501
              have ek1524 : (m1509 13).toInt = ((m1477 13)).toInt := by rw [W1514 13 (by decide)]
              have W1525 : rf_W [10, 12, 13, 14, 16, 17, 18, 22] m m1509 := W1499.trans W1514 (by decide)
              show pm_R _ 187 134 [.ref 41, .long a0, pm_no, .int a1] [] _ _
              obtain ⟨f1526, e1527, ct1528, bd1529⟩ := X1515
              refine pm_R_op pm_M187 (pc_q := 135) (st_q := [.int 1]) (pm_q187_1 (Nat.le_of_ble_eq_true rfl)) rfl rfl ?_
              exact pm_R_ret pm_M187 (r := some (.int 1)) (pm_q187_1 (Nat.le_of_ble_eq_true rfl)) rfl (K1 m1509 w1510 h1511 T1512 F1516 W1525 (⟨f1526, e1527, ct1528, fun z => (sf_pos B1517 (by decide) z)⟩) (sf_aux39 _ _ _ ek1522 R1502))
      · have F1530 := F1022.trans F1064 (by decide)
        have W1531 : rf_W [10, 12, 13, 14, 16, 17, 18, 22] m m1060 := W1025.trans W1065 (by decide)
        have B1532 : sf_B 0 600 (m1060 10) := T1063.2.2.1 10
        have B1533 : sf_B 0 4 (m1060 13) := T1063.2.2.1 13
        have B1534 : sf_B 0 4 (m1060 17) := T1063.2.2.1 17
        have B1535 : sf_B 0 1 (m1060 22) := T1063.2.2.1 22
        show pm_R _ 187 92 [.ref 41, .long a0, pm_no, .int a1] [.int 1] _ _
        have R1536 : (m 10).toInt ≤ (m1060 10).toInt := (sf_aux70 _ _ _ R1029 X1068)
        obtain ⟨v1537, B1538, e1539⟩ := X1066 _ e1034
        refine pm_R_br pm_M187 (pc_q := 95) (st_q := []) rfl rfl ?_
        refine pm_R_lo pm_M187 (pc_q := 96) rfl rfl rfl ?_
        refine pm_R_op pm_M187 (pc_q := 97) (st_q := [.int 1, .ref 41]) rfl rfl rfl ?_
        refine pm_R_op pm_M187 (pc_q := 98) (st_q := [.int 5, .int 1, .ref 41]) rfl rfl rfl ?_
        refine pm_R_op pm_M187 (pc_q := 99) (st_q := [.int (-1), .int 5, .int 1, .ref 41]) rfl rfl rfl ?_
        refine pm_R_cv pm_M187 (pc_q := 102) (a := 41) (ra := [.int (-1), .int 5, .int 1]) (rest := []) (ls_q := [.ref 41, .int 1, .int 5, .int (-1)]) rfl rfl (Or.inl rfl) pm_M183 T1063.2.1 rfl (by decide) (Nat.lt_of_lt_of_le (by decide) T1063.1) rfl rfl (Nat.le_of_ble_eq_true rfl) rfl rfl ?_
        refine rf_c183_1_5 (d := d + 0) T1063  (fun m1542 w1543 h1544 T1545 F1546 W1547 X1548 => ?_) (fun m1551 w1552 h1553 T1554 F1555 W1556 X1557 X1558 X1559 X1560 X1561 => ?_) (fun m1564 w1565 h1566 T1567 F1568 W1569 X1570 X1571 X1572 B1573 B1574 => ?_)
        · have F1575 := F1530.trans F1546 (by decide)
          have W1576 : rf_W [10, 12, 13, 14, 16, 17, 18, 22] m m1542 := W1531.trans W1547 (by decide)
          have B1577 : sf_B 0 600 (m1542 10) := T1545.2.2.1 10
          have B1578 : sf_B 0 4 (m1542 13) := T1545.2.2.1 13
          have B1579 : sf_B 0 4 (m1542 17) := T1545.2.2.1 17
          have B1580 : sf_B 0 1 (m1542 22) := T1545.2.2.1 22
          show pm_R _ 187 102 [.ref 41, .long a0, pm_no, .int a1] [.int 0] _ _
          have R1581 : (m 10).toInt ≤ (m1542 10).toInt := (sf_aux70 _ _ _ R1536 X1548)
          refine pm_R_br pm_M187 (pc_q := 122) (st_q := []) rfl rfl ?_
          refine pm_R_op pm_M187 (pc_q := 123) (st_q := [.int 0]) (pm_q187_1 (Nat.le_of_ble_eq_true rfl)) rfl rfl ?_
          exact pm_R_ret pm_M187 (r := some (.int 0)) (pm_q187_1 (Nat.le_of_ble_eq_true rfl)) rfl (K0 m1542 w1543 h1544 T1545 F1575 W1576 (sf_aux51 _ _ R1581))
        · have F1582 := F1530.trans F1555 (by decide)
          have W1583 : rf_W [10, 12, 13, 14, 16, 17, 18, 22] m m1551 := W1531.trans W1556 (by decide)
          have B1584 : sf_B 0 600 (m1551 10) := T1554.2.2.1 10
          have B1585 : sf_B 0 4 (m1551 13) := T1554.2.2.1 13
          have B1586 : sf_B 0 4 (m1551 17) := T1554.2.2.1 17
          have B1587 : sf_B 0 1 (m1551 22) := T1554.2.2.1 22
          show pm_R _ 187 102 [.ref 41, .long a0, pm_no, .int a1] [.int 1] _ _
          have R1588 : (m 10).toInt ≤ (m1551 10).toInt := (sf_aux70 _ _ _ R1536 X1561)
          obtain ⟨v1589, B1590, e1591⟩ := X1557 _ e1539
          refine pm_R_br pm_M187 (pc_q := 105) (st_q := []) rfl rfl ?_
          refine pm_R_lo pm_M187 (pc_q := 106) rfl rfl rfl ?_
          refine pm_R_op pm_M187 (pc_q := 107) (st_q := [.int 2, .ref 41]) rfl rfl rfl ?_
          refine pm_R_op pm_M187 (pc_q := 108) (st_q := [.int 5, .int 2, .ref 41]) rfl rfl rfl ?_
          refine pm_R_op pm_M187 (pc_q := 109) (st_q := [.int (-1), .int 5, .int 2, .ref 41]) (pm_q187_1 (Nat.le_of_ble_eq_true rfl)) rfl rfl ?_
          refine pm_R_cv pm_M187 (pc_q := 112) (a := 41) (ra := [.int (-1), .int 5, .int 2]) (rest := []) (ls_q := [.ref 41, .int 2, .int 5, .int (-1)]) (pm_q187_1 (Nat.le_of_ble_eq_true rfl)) rfl (Or.inl rfl) pm_M183 T1554.2.1 rfl (by decide) (Nat.lt_of_lt_of_le (by decide) T1554.1) rfl rfl (Nat.le_of_ble_eq_true rfl) rfl rfl ?_
          refine rf_c183_2_5 (d := d + 0) T1554  (fun m1594 w1595 h1596 T1597 F1598 W1599 X1600 => ?_) (fun m1603 w1604 h1605 T1606 F1607 W1608 X1609 X1610 X1611 X1612 X1613 => ?_) (fun m1616 w1617 h1618 T1619 F1620 W1621 X1622 X1623 X1624 B1625 B1626 => ?_)
          · have F1627 := F1582.trans F1598 (by decide)
            have W1628 : rf_W [10, 12, 13, 14, 16, 17, 18, 22] m m1594 := W1583.trans W1599 (by decide)
            have B1629 : sf_B 0 600 (m1594 10) := T1597.2.2.1 10
            have B1630 : sf_B 0 4 (m1594 13) := T1597.2.2.1 13
            have B1631 : sf_B 0 4 (m1594 17) := T1597.2.2.1 17
            have B1632 : sf_B 0 1 (m1594 22) := T1597.2.2.1 22
            show pm_R _ 187 112 [.ref 41, .long a0, pm_no, .int a1] [.int 0] _ _
            have R1633 : (m 10).toInt ≤ (m1594 10).toInt := (sf_aux70 _ _ _ R1588 X1600)
            refine pm_R_br pm_M187 (pc_q := 122) (st_q := []) (pm_q187_1 (Nat.le_of_ble_eq_true rfl)) rfl ?_
            refine pm_R_op pm_M187 (pc_q := 123) (st_q := [.int 0]) (pm_q187_1 (Nat.le_of_ble_eq_true rfl)) rfl rfl ?_
            exact pm_R_ret pm_M187 (r := some (.int 0)) (pm_q187_1 (Nat.le_of_ble_eq_true rfl)) rfl (K0 m1594 w1595 h1596 T1597 F1627 W1628 (sf_aux51 _ _ R1633))
          · have F1634 := F1582.trans F1607 (by decide)
            have W1635 : rf_W [10, 12, 13, 14, 16, 17, 18, 22] m m1603 := W1583.trans W1608 (by decide)
            have B1636 : sf_B 0 600 (m1603 10) := T1606.2.2.1 10
            have B1637 : sf_B 0 4 (m1603 13) := T1606.2.2.1 13
            have B1638 : sf_B 0 4 (m1603 17) := T1606.2.2.1 17
            have B1639 : sf_B 0 1 (m1603 22) := T1606.2.2.1 22
            show pm_R _ 187 112 [.ref 41, .long a0, pm_no, .int a1] [.int 1] _ _
            have R1640 : (m 10).toInt ≤ (m1603 10).toInt := (sf_aux70 _ _ _ R1588 X1613)
            obtain ⟨v1641, B1642, e1643⟩ := X1609 _ e1591
            refine pm_R_br pm_M187 (pc_q := 115) (st_q := []) (pm_q187_1 (Nat.le_of_ble_eq_true rfl)) rfl ?_
            refine pm_R_lo pm_M187 (pc_q := 116) (pm_q187_1 (Nat.le_of_ble_eq_true rfl)) rfl rfl ?_
            refine pm_R_cv pm_M187 (pc_q := 119) (a := 41) (ra := []) (rest := []) (ls_q := [.ref 41, pm_no, pm_no]) (pm_q187_1 (Nat.le_of_ble_eq_true rfl)) rfl (Or.inl rfl) pm_M188 T1606.2.1 rfl (by decide) (Nat.lt_of_lt_of_le (by decide) T1606.1) rfl rfl (Nat.le_of_ble_eq_true rfl) rfl rfl ?_
            refine rf_c188 (d := d + 0) T1606  (fun m1646 w1647 h1648 T1649 F1650 W1651 X1652 => ?_) (fun m1655 w1656 h1657 T1658 F1659 W1660 X1661 X1662 => ?_)
            · have F1663 := F1634.trans F1650 (by decide)
              have B1664 : sf_B 1 4 (m1646 17) := by rw [W1651 17 (by decide)]; exact (sf_eqT X1610 (sf_eqT X1558 B1069))
              have ek1665 : (m1646 17).toInt = ((m1551 17)).toInt := by rw [W1651 17 (by decide)]; exact X1610
              have B1666 : sf_B 0 0 (m1646 22) := by rw [W1651 22 (by decide)]; exact (sf_eqT X1611 (sf_eqT X1559 B1070))
              have ek1667 : (m1646 22).toInt = ((m1551 22)).toInt := by rw [W1651 22 (by decide)]; exact X1611
              have W1668 : rf_W [10, 12, 13, 14, 16, 17, 18, 22] m m1646 := W1635.trans W1651 (by decide)
              have B1669 : sf_B 0 600 (m1646 10) := T1649.2.2.1 10
              have B1670 : sf_B 0 4 (m1646 13) := T1649.2.2.1 13
              show pm_R _ 187 119 [.ref 41, .long a0, pm_no, .int a1] [.int 0] _ _
              have R1671 : (m 10).toInt ≤ (m1646 10).toInt := (sf_aux70 _ _ _ R1640 X1652)
              refine pm_R_br pm_M187 (pc_q := 122) (st_q := []) (pm_q187_1 (Nat.le_of_ble_eq_true rfl)) rfl ?_
              refine pm_R_op pm_M187 (pc_q := 123) (st_q := [.int 0]) (pm_q187_1 (Nat.le_of_ble_eq_true rfl)) rfl rfl ?_
              exact pm_R_ret pm_M187 (r := some (.int 0)) (pm_q187_1 (Nat.le_of_ble_eq_true rfl)) rfl (K0 m1646 w1647 h1648 T1649 F1663 W1668 (sf_aux51 _ _ R1671))
            · have F1672 := F1634.trans F1659 (by decide)
              have B1673 : sf_B 1 4 (m1655 17) := by rw [W1660 17 (by decide)]; exact (sf_eqT X1610 (sf_eqT X1558 B1069))
              have ek1674 : (m1655 17).toInt = ((m1551 17)).toInt := by rw [W1660 17 (by decide)]; exact X1610
              have B1675 : sf_B 0 0 (m1655 22) := by rw [W1660 22 (by decide)]; exact (sf_eqT X1611 (sf_eqT X1559 B1070))
              have ek1676 : (m1655 22).toInt = ((m1551 22)).toInt := by rw [W1660 22 (by decide)]; exact X1611
              have W1677 : rf_W [10, 12, 13, 14, 16, 17, 18, 22] m m1655 := W1635.trans W1660 (by decide)
              have B1678 : sf_B 0 600 (m1655 10) := T1658.2.2.1 10
              have B1679 : sf_B 0 4 (m1655 13) := T1658.2.2.1 13
              show pm_R _ 187 119 [.ref 41, .long a0, pm_no, .int a1] [.int 1] _ _
              have R1680 : (m 10).toInt ≤ (m1655 10).toInt := (sf_aux70 _ _ _ R1640 X1662)
              obtain ⟨v1681, B1682, e1683⟩ := X1661 _ e1643
              refine pm_R_br pm_M187 (pc_q := 124) (st_q := []) (pm_q187_1 (Nat.le_of_ble_eq_true rfl)) rfl ?_
              refine pm_R_lo pm_M187 (pc_q := 125) (pm_q187_1 (Nat.le_of_ble_eq_true rfl)) rfl rfl ?_
              refine pm_R_op pm_M187 (pc_q := 126) (st_q := [.int 0, .ref 41]) (pm_q187_1 (Nat.le_of_ble_eq_true rfl)) rfl rfl ?_
              refine pm_R_op pm_M187 (pc_q := 127) (st_q := [.int 2, .int 0, .ref 41]) (pm_q187_1 (Nat.le_of_ble_eq_true rfl)) rfl rfl ?_
              refine pm_R_op pm_M187 (pc_q := 128) (st_q := [.int 4, .int 2, .int 0, .ref 41]) (pm_q187_1 (Nat.le_of_ble_eq_true rfl)) rfl rfl ?_
              refine pm_R_op pm_M187 (pc_q := 130) (st_q := [.int 10, .int 4, .int 2, .int 0, .ref 41]) (pm_q187_1 (Nat.le_of_ble_eq_true rfl)) rfl rfl ?_
              refine pm_R_op pm_M187 (pc_q := 131) (st_q := [.int 0, .int 10, .int 4, .int 2, .int 0, .ref 41]) (pm_q187_1 (Nat.le_of_ble_eq_true rfl)) rfl rfl ?_
              refine pm_R_cv pm_M187 (pc_q := 134) (a := 41) (ra := [.int 0, .int 10, .int 4, .int 2, .int 0]) (rest := []) (ls_q := [.ref 41, .int 0, .int 2, .int 4, .int 10, .int 0, pm_no, pm_no]) (pm_q187_1 (Nat.le_of_ble_eq_true rfl)) rfl (Or.inl rfl) pm_M185 T1658.2.1 rfl (by decide) (Nat.lt_of_lt_of_le (by decide) T1658.1) rfl rfl (Nat.le_of_ble_eq_true rfl) rfl rfl ?_
              have e1684 := (F1659.cell (by decide) (F1607.cell (by decide) (F1555.cell (by decide) (F1064.cell (by decide) (F1018.cell (by decide) e3)))))
              refine rf_c185_r (d := d + 2) T1658 (⟨f2, e1684, ct4, fun z => (sf_pos B1673 (by decide) z)⟩) (fun z => sf_pos B1673 (by decide) z) (fun m1687 w1688 h1689 T1690 F1691 W1692 X1693 => ?_)
              have F1694 := F1672.trans F1691 (by decide)
              have B1695 : sf_B 1 4 (m1687 17) := by rw [W1692 17 (by decide)]; exact B1673
              have ek1696 : (m1687 17).toInt = ((m1551 17)).toInt := by rw [W1692 17 (by decide)]; exact ek1674
              have B1697 : sf_B 0 0 (m1687 22) := by rw [W1692 22 (by decide)]; exact B1675
              have ek1698 : (m1687 22).toInt = ((m1551 22)).toInt := by rw [W1692 22 (by decide)]; exact ek1676
              have B1699 : sf_B 0 600 (m1687 10) := by rw [W1692 10 (by decide)]; exact B1678
              have ek1700 : (m1687 10).toInt = ((m1655 10)).toInt := by rw [W1692 10 (by decide)]
              have B1701 : sf_B 0 4 (m1687 13) := by rw [W1692 13 (by decide)]; exact B1679
              have ek1702 : (m1687 13).toInt = ((m1655 13)).toInt := by rw [W1692 13 (by decide)]
              have W1703 : rf_W [10, 12, 13, 14, 16, 17, 18, 22] m m1687 := W1677.trans W1692 (by decide)
              show pm_R _ 187 134 [.ref 41, .long a0, pm_no, .int a1] [] _ _
              obtain ⟨f1704, e1705, ct1706, bd1707⟩ := X1693
              refine pm_R_op pm_M187 (pc_q := 135) (st_q := [.int 1]) (pm_q187_1 (Nat.le_of_ble_eq_true rfl)) rfl rfl ?_
              exact pm_R_ret pm_M187 (r := some (.int 1)) (pm_q187_1 (Nat.le_of_ble_eq_true rfl)) rfl (K1 m1687 w1688 h1689 T1690 F1694 W1703 (⟨f1704, e1705, ct1706, fun z => (sf_pos B1695 (by decide) z)⟩) (sf_aux39 _ _ _ ek1700 R1680))
          · have F1708 := F1582.trans F1620 (by decide)
            have W1709 : rf_W [10, 12, 13, 14, 16, 17, 18, 22] m m1616 := W1583.trans W1621 (by decide)
            have B1710 : sf_B 0 600 (m1616 10) := T1619.2.2.1 10
            have B1711 : sf_B 0 4 (m1616 13) := T1619.2.2.1 13
            have B1712 : sf_B 0 4 (m1616 17) := T1619.2.2.1 17
            have B1713 : sf_B 0 1 (m1616 22) := T1619.2.2.1 22
            show pm_R _ 187 112 [.ref 41, .long a0, pm_no, .int a1] [.int 1] _ _
            have R1714 : (m 10).toInt ≤ (m1616 10).toInt := (sf_aux70 _ _ _ R1588 X1624)
            obtain ⟨v1715, B1716, e1717⟩ := X1622 _ e1591
            refine pm_R_br pm_M187 (pc_q := 115) (st_q := []) (pm_q187_1 (Nat.le_of_ble_eq_true rfl)) rfl ?_
            refine pm_R_lo pm_M187 (pc_q := 116) (pm_q187_1 (Nat.le_of_ble_eq_true rfl)) rfl rfl ?_
            refine pm_R_cv pm_M187 (pc_q := 119) (a := 41) (ra := []) (rest := []) (ls_q := [.ref 41, pm_no, pm_no]) (pm_q187_1 (Nat.le_of_ble_eq_true rfl)) rfl (Or.inl rfl) pm_M188 T1619.2.1 rfl (by decide) (Nat.lt_of_lt_of_le (by decide) T1619.1) rfl rfl (Nat.le_of_ble_eq_true rfl) rfl rfl ?_
            refine rf_c188 (d := d + 0) T1619  (fun m1720 w1721 h1722 T1723 F1724 W1725 X1726 => ?_) (fun m1729 w1730 h1731 T1732 F1733 W1734 X1735 X1736 => ?_)
            · have F1737 := F1708.trans F1724 (by decide)
              have B1738 : sf_B 1 4 (m1720 17) := by rw [W1725 17 (by decide)]; exact B1625
              have ek1739 : (m1720 17).toInt = ((m1616 17)).toInt := by rw [W1725 17 (by decide)]
              have B1740 : sf_B 0 0 (m1720 22) := by rw [W1725 22 (by decide)]; exact B1626
              have ek1741 : (m1720 22).toInt = ((m1616 22)).toInt := by rw [W1725 22 (by decide)]
              have W1742 : rf_W [10, 12, 13, 14, 16, 17, 18, 22] m m1720 := W1709.trans W1725 (by decide)
              have B1743 : sf_B 0 600 (m1720 10) := T1723.2.2.1 10
              have B1744 : sf_B 0 4 (m1720 13) := T1723.2.2.1 13
              show pm_R _ 187 119 [.ref 41, .long a0, pm_no, .int a1] [.int 0] _ _
              have R1745 : (m 10).toInt ≤ (m1720 10).toInt := (sf_aux70 _ _ _ R1714 X1726)
              refine pm_R_br pm_M187 (pc_q := 122) (st_q := []) (pm_q187_1 (Nat.le_of_ble_eq_true rfl)) rfl ?_
              refine pm_R_op pm_M187 (pc_q := 123) (st_q := [.int 0]) (pm_q187_1 (Nat.le_of_ble_eq_true rfl)) rfl rfl ?_
              exact pm_R_ret pm_M187 (r := some (.int 0)) (pm_q187_1 (Nat.le_of_ble_eq_true rfl)) rfl (K0 m1720 w1721 h1722 T1723 F1737 W1742 (sf_aux51 _ _ R1745))
            · have F1746 := F1708.trans F1733 (by decide)
              have B1747 : sf_B 1 4 (m1729 17) := by rw [W1734 17 (by decide)]; exact B1625
              have ek1748 : (m1729 17).toInt = ((m1616 17)).toInt := by rw [W1734 17 (by decide)]
              have B1749 : sf_B 0 0 (m1729 22) := by rw [W1734 22 (by decide)]; exact B1626
              have ek1750 : (m1729 22).toInt = ((m1616 22)).toInt := by rw [W1734 22 (by decide)]
              have W1751 : rf_W [10, 12, 13, 14, 16, 17, 18, 22] m m1729 := W1709.trans W1734 (by decide)
              have B1752 : sf_B 0 600 (m1729 10) := T1732.2.2.1 10
              have B1753 : sf_B 0 4 (m1729 13) := T1732.2.2.1 13
              show pm_R _ 187 119 [.ref 41, .long a0, pm_no, .int a1] [.int 1] _ _
              have R1754 : (m 10).toInt ≤ (m1729 10).toInt := (sf_aux70 _ _ _ R1714 X1736)
              obtain ⟨v1755, B1756, e1757⟩ := X1735 _ e1717
              refine pm_R_br pm_M187 (pc_q := 124) (st_q := []) (pm_q187_1 (Nat.le_of_ble_eq_true rfl)) rfl ?_
              refine pm_R_lo pm_M187 (pc_q := 125) (pm_q187_1 (Nat.le_of_ble_eq_true rfl)) rfl rfl ?_
              refine pm_R_op pm_M187 (pc_q := 126) (st_q := [.int 0, .ref 41]) (pm_q187_1 (Nat.le_of_ble_eq_true rfl)) rfl rfl ?_
              refine pm_R_op pm_M187 (pc_q := 127) (st_q := [.int 2, .int 0, .ref 41]) (pm_q187_1 (Nat.le_of_ble_eq_true rfl)) rfl rfl ?_
              refine pm_R_op pm_M187 (pc_q := 128) (st_q := [.int 4, .int 2, .int 0, .ref 41]) (pm_q187_1 (Nat.le_of_ble_eq_true rfl)) rfl rfl ?_
              refine pm_R_op pm_M187 (pc_q := 130) (st_q := [.int 10, .int 4, .int 2, .int 0, .ref 41]) (pm_q187_1 (Nat.le_of_ble_eq_true rfl)) rfl rfl ?_
              refine pm_R_op pm_M187 (pc_q := 131) (st_q := [.int 0, .int 10, .int 4, .int 2, .int 0, .ref 41]) (pm_q187_1 (Nat.le_of_ble_eq_true rfl)) rfl rfl ?_
              refine pm_R_cv pm_M187 (pc_q := 134) (a := 41) (ra := [.int 0, .int 10, .int 4, .int 2, .int 0]) (rest := []) (ls_q := [.ref 41, .int 0, .int 2, .int 4, .int 10, .int 0, pm_no, pm_no]) (pm_q187_1 (Nat.le_of_ble_eq_true rfl)) rfl (Or.inl rfl) pm_M185 T1732.2.1 rfl (by decide) (Nat.lt_of_lt_of_le (by decide) T1732.1) rfl rfl (Nat.le_of_ble_eq_true rfl) rfl rfl ?_
              have e1758 := (F1733.cell (by decide) (F1620.cell (by decide) (F1555.cell (by decide) (F1064.cell (by decide) (F1018.cell (by decide) e3)))))
              refine rf_c185_r (d := d + 2) T1732 (⟨f2, e1758, ct4, fun z => (sf_pos B1747 (by decide) z)⟩) (fun z => sf_pos B1747 (by decide) z) (fun m1761 w1762 h1763 T1764 F1765 W1766 X1767 => ?_)
              have F1768 := F1746.trans F1765 (by decide)
              have B1769 : sf_B 1 4 (m1761 17) := by rw [W1766 17 (by decide)]; exact B1747
              have ek1770 : (m1761 17).toInt = ((m1616 17)).toInt := by rw [W1766 17 (by decide)]; exact ek1748
              have B1771 : sf_B 0 0 (m1761 22) := by rw [W1766 22 (by decide)]; exact B1749
              have ek1772 : (m1761 22).toInt = ((m1616 22)).toInt := by rw [W1766 22 (by decide)]; exact ek1750
              have B1773 : sf_B 0 600 (m1761 10) := by rw [W1766 10 (by decide)]; exact B1752
              have ek1774 : (m1761 10).toInt = ((m1729 10)).toInt := by rw [W1766 10 (by decide)]
              have B1775 : sf_B 0 4 (m1761 13) := by rw [W1766 13 (by decide)]; exact B1753
              have ek1776 : (m1761 13).toInt = ((m1729 13)).toInt := by rw [W1766 13 (by decide)]
              have W1777 : rf_W [10, 12, 13, 14, 16, 17, 18, 22] m m1761 := W1751.trans W1766 (by decide)
              show pm_R _ 187 134 [.ref 41, .long a0, pm_no, .int a1] [] _ _
              obtain ⟨f1778, e1779, ct1780, bd1781⟩ := X1767
              refine pm_R_op pm_M187 (pc_q := 135) (st_q := [.int 1]) (pm_q187_1 (Nat.le_of_ble_eq_true rfl)) rfl rfl ?_
              exact pm_R_ret pm_M187 (r := some (.int 1)) (pm_q187_1 (Nat.le_of_ble_eq_true rfl)) rfl (K1 m1761 w1762 h1763 T1764 F1768 W1777 (⟨f1778, e1779, ct1780, fun z => (sf_pos B1769 (by decide) z)⟩) (sf_aux39 _ _ _ ek1774 R1754))
        · have F1782 := F1530.trans F1568 (by decide)
          have W1783 : rf_W [10, 12, 13, 14, 16, 17, 18, 22] m m1564 := W1531.trans W1569 (by decide)
          have B1784 : sf_B 0 600 (m1564 10) := T1567.2.2.1 10
          have B1785 : sf_B 0 4 (m1564 13) := T1567.2.2.1 13
          have B1786 : sf_B 0 4 (m1564 17) := T1567.2.2.1 17
          have B1787 : sf_B 0 1 (m1564 22) := T1567.2.2.1 22
          show pm_R _ 187 102 [.ref 41, .long a0, pm_no, .int a1] [.int 1] _ _
          have R1788 : (m 10).toInt ≤ (m1564 10).toInt := (sf_aux70 _ _ _ R1536 X1572)
          obtain ⟨v1789, B1790, e1791⟩ := X1570 _ e1539
          refine pm_R_br pm_M187 (pc_q := 105) (st_q := []) rfl rfl ?_
          refine pm_R_lo pm_M187 (pc_q := 106) rfl rfl rfl ?_
          refine pm_R_op pm_M187 (pc_q := 107) (st_q := [.int 2, .ref 41]) rfl rfl rfl ?_
          refine pm_R_op pm_M187 (pc_q := 108) (st_q := [.int 5, .int 2, .ref 41]) rfl rfl rfl ?_
          refine pm_R_op pm_M187 (pc_q := 109) (st_q := [.int (-1), .int 5, .int 2, .ref 41]) (pm_q187_1 (Nat.le_of_ble_eq_true rfl)) rfl rfl ?_
          refine pm_R_cv pm_M187 (pc_q := 112) (a := 41) (ra := [.int (-1), .int 5, .int 2]) (rest := []) (ls_q := [.ref 41, .int 2, .int 5, .int (-1)]) (pm_q187_1 (Nat.le_of_ble_eq_true rfl)) rfl (Or.inl rfl) pm_M183 T1567.2.1 rfl (by decide) (Nat.lt_of_lt_of_le (by decide) T1567.1) rfl rfl (Nat.le_of_ble_eq_true rfl) rfl rfl ?_
          refine rf_c183_2_5 (d := d + 0) T1567  (fun m1794 w1795 h1796 T1797 F1798 W1799 X1800 => ?_) (fun m1803 w1804 h1805 T1806 F1807 W1808 X1809 X1810 X1811 X1812 X1813 => ?_) (fun m1816 w1817 h1818 T1819 F1820 W1821 X1822 X1823 X1824 B1825 B1826 => ?_)
          · have F1827 := F1782.trans F1798 (by decide)
            have W1828 : rf_W [10, 12, 13, 14, 16, 17, 18, 22] m m1794 := W1783.trans W1799 (by decide)
            have B1829 : sf_B 0 600 (m1794 10) := T1797.2.2.1 10
            have B1830 : sf_B 0 4 (m1794 13) := T1797.2.2.1 13
            have B1831 : sf_B 0 4 (m1794 17) := T1797.2.2.1 17
            have B1832 : sf_B 0 1 (m1794 22) := T1797.2.2.1 22
            show pm_R _ 187 112 [.ref 41, .long a0, pm_no, .int a1] [.int 0] _ _
            have R1833 : (m 10).toInt ≤ (m1794 10).toInt := (sf_aux70 _ _ _ R1788 X1800)
            refine pm_R_br pm_M187 (pc_q := 122) (st_q := []) (pm_q187_1 (Nat.le_of_ble_eq_true rfl)) rfl ?_
            refine pm_R_op pm_M187 (pc_q := 123) (st_q := [.int 0]) (pm_q187_1 (Nat.le_of_ble_eq_true rfl)) rfl rfl ?_
            exact pm_R_ret pm_M187 (r := some (.int 0)) (pm_q187_1 (Nat.le_of_ble_eq_true rfl)) rfl (K0 m1794 w1795 h1796 T1797 F1827 W1828 (sf_aux51 _ _ R1833))
          · have F1834 := F1782.trans F1807 (by decide)
            have W1835 : rf_W [10, 12, 13, 14, 16, 17, 18, 22] m m1803 := W1783.trans W1808 (by decide)
            have B1836 : sf_B 0 600 (m1803 10) := T1806.2.2.1 10
            have B1837 : sf_B 0 4 (m1803 13) := T1806.2.2.1 13
            have B1838 : sf_B 0 4 (m1803 17) := T1806.2.2.1 17
            have B1839 : sf_B 0 1 (m1803 22) := T1806.2.2.1 22
            show pm_R _ 187 112 [.ref 41, .long a0, pm_no, .int a1] [.int 1] _ _
            have R1840 : (m 10).toInt ≤ (m1803 10).toInt := (sf_aux70 _ _ _ R1788 X1813)
            obtain ⟨v1841, B1842, e1843⟩ := X1809 _ e1791
            refine pm_R_br pm_M187 (pc_q := 115) (st_q := []) (pm_q187_1 (Nat.le_of_ble_eq_true rfl)) rfl ?_
            refine pm_R_lo pm_M187 (pc_q := 116) (pm_q187_1 (Nat.le_of_ble_eq_true rfl)) rfl rfl ?_
            refine pm_R_cv pm_M187 (pc_q := 119) (a := 41) (ra := []) (rest := []) (ls_q := [.ref 41, pm_no, pm_no]) (pm_q187_1 (Nat.le_of_ble_eq_true rfl)) rfl (Or.inl rfl) pm_M188 T1806.2.1 rfl (by decide) (Nat.lt_of_lt_of_le (by decide) T1806.1) rfl rfl (Nat.le_of_ble_eq_true rfl) rfl rfl ?_
            refine rf_c188 (d := d + 0) T1806  (fun m1846 w1847 h1848 T1849 F1850 W1851 X1852 => ?_) (fun m1855 w1856 h1857 T1858 F1859 W1860 X1861 X1862 => ?_)
            · have F1863 := F1834.trans F1850 (by decide)
              have B1864 : sf_B 1 4 (m1846 17) := by rw [W1851 17 (by decide)]; exact (sf_eqT X1810 B1573)
              have ek1865 : (m1846 17).toInt = ((m1564 17)).toInt := by rw [W1851 17 (by decide)]; exact X1810
              have B1866 : sf_B 0 0 (m1846 22) := by rw [W1851 22 (by decide)]; exact (sf_eqT X1811 B1574)
              have ek1867 : (m1846 22).toInt = ((m1564 22)).toInt := by rw [W1851 22 (by decide)]; exact X1811
              have W1868 : rf_W [10, 12, 13, 14, 16, 17, 18, 22] m m1846 := W1835.trans W1851 (by decide)
              have B1869 : sf_B 0 600 (m1846 10) := T1849.2.2.1 10
              have B1870 : sf_B 0 4 (m1846 13) := T1849.2.2.1 13
              show pm_R _ 187 119 [.ref 41, .long a0, pm_no, .int a1] [.int 0] _ _
              have R1871 : (m 10).toInt ≤ (m1846 10).toInt := (sf_aux70 _ _ _ R1840 X1852)
              refine pm_R_br pm_M187 (pc_q := 122) (st_q := []) (pm_q187_1 (Nat.le_of_ble_eq_true rfl)) rfl ?_
              refine pm_R_op pm_M187 (pc_q := 123) (st_q := [.int 0]) (pm_q187_1 (Nat.le_of_ble_eq_true rfl)) rfl rfl ?_
              exact pm_R_ret pm_M187 (r := some (.int 0)) (pm_q187_1 (Nat.le_of_ble_eq_true rfl)) rfl (K0 m1846 w1847 h1848 T1849 F1863 W1868 (sf_aux51 _ _ R1871))
            · have F1872 := F1834.trans F1859 (by decide)
              have B1873 : sf_B 1 4 (m1855 17) := by rw [W1860 17 (by decide)]; exact (sf_eqT X1810 B1573)
              have ek1874 : (m1855 17).toInt = ((m1564 17)).toInt := by rw [W1860 17 (by decide)]; exact X1810
              have B1875 : sf_B 0 0 (m1855 22) := by rw [W1860 22 (by decide)]; exact (sf_eqT X1811 B1574)
              have ek1876 : (m1855 22).toInt = ((m1564 22)).toInt := by rw [W1860 22 (by decide)]; exact X1811
              have W1877 : rf_W [10, 12, 13, 14, 16, 17, 18, 22] m m1855 := W1835.trans W1860 (by decide)
              have B1878 : sf_B 0 600 (m1855 10) := T1858.2.2.1 10
              have B1879 : sf_B 0 4 (m1855 13) := T1858.2.2.1 13
              show pm_R _ 187 119 [.ref 41, .long a0, pm_no, .int a1] [.int 1] _ _
              have R1880 : (m 10).toInt ≤ (m1855 10).toInt := (sf_aux70 _ _ _ R1840 X1862)
              obtain ⟨v1881, B1882, e1883⟩ := X1861 _ e1843
              refine pm_R_br pm_M187 (pc_q := 124) (st_q := []) (pm_q187_1 (Nat.le_of_ble_eq_true rfl)) rfl ?_
              refine pm_R_lo pm_M187 (pc_q := 125) (pm_q187_1 (Nat.le_of_ble_eq_true rfl)) rfl rfl ?_
              refine pm_R_op pm_M187 (pc_q := 126) (st_q := [.int 0, .ref 41]) (pm_q187_1 (Nat.le_of_ble_eq_true rfl)) rfl rfl ?_
              refine pm_R_op pm_M187 (pc_q := 127) (st_q := [.int 2, .int 0, .ref 41]) (pm_q187_1 (Nat.le_of_ble_eq_true rfl)) rfl rfl ?_
              refine pm_R_op pm_M187 (pc_q := 128) (st_q := [.int 4, .int 2, .int 0, .ref 41]) (pm_q187_1 (Nat.le_of_ble_eq_true rfl)) rfl rfl ?_
              refine pm_R_op pm_M187 (pc_q := 130) (st_q := [.int 10, .int 4, .int 2, .int 0, .ref 41]) (pm_q187_1 (Nat.le_of_ble_eq_true rfl)) rfl rfl ?_
              refine pm_R_op pm_M187 (pc_q := 131) (st_q := [.int 0, .int 10, .int 4, .int 2, .int 0, .ref 41]) (pm_q187_1 (Nat.le_of_ble_eq_true rfl)) rfl rfl ?_
              refine pm_R_cv pm_M187 (pc_q := 134) (a := 41) (ra := [.int 0, .int 10, .int 4, .int 2, .int 0]) (rest := []) (ls_q := [.ref 41, .int 0, .int 2, .int 4, .int 10, .int 0, pm_no, pm_no]) (pm_q187_1 (Nat.le_of_ble_eq_true rfl)) rfl (Or.inl rfl) pm_M185 T1858.2.1 rfl (by decide) (Nat.lt_of_lt_of_le (by decide) T1858.1) rfl rfl (Nat.le_of_ble_eq_true rfl) rfl rfl ?_
              have e1884 := (F1859.cell (by decide) (F1807.cell (by decide) (F1568.cell (by decide) (F1064.cell (by decide) (F1018.cell (by decide) e3)))))
              refine rf_c185_r (d := d + 2) T1858 (⟨f2, e1884, ct4, fun z => (sf_pos B1873 (by decide) z)⟩) (fun z => sf_pos B1873 (by decide) z) (fun m1887 w1888 h1889 T1890 F1891 W1892 X1893 => ?_)
              have F1894 := F1872.trans F1891 (by decide)
              have B1895 : sf_B 1 4 (m1887 17) := by rw [W1892 17 (by decide)]; exact B1873
              have ek1896 : (m1887 17).toInt = ((m1564 17)).toInt := by rw [W1892 17 (by decide)]; exact ek1874
              have B1897 : sf_B 0 0 (m1887 22) := by rw [W1892 22 (by decide)]; exact B1875
              have ek1898 : (m1887 22).toInt = ((m1564 22)).toInt := by rw [W1892 22 (by decide)]; exact ek1876
              have B1899 : sf_B 0 600 (m1887 10) := by rw [W1892 10 (by decide)]; exact B1878
              have ek1900 : (m1887 10).toInt = ((m1855 10)).toInt := by rw [W1892 10 (by decide)]
              have B1901 : sf_B 0 4 (m1887 13) := by rw [W1892 13 (by decide)]; exact B1879
              have ek1902 : (m1887 13).toInt = ((m1855 13)).toInt := by rw [W1892 13 (by decide)]
              have W1903 : rf_W [10, 12, 13, 14, 16, 17, 18, 22] m m1887 := W1877.trans W1892 (by decide)
              show pm_R _ 187 134 [.ref 41, .long a0, pm_no, .int a1] [] _ _
              obtain ⟨f1904, e1905, ct1906, bd1907⟩ := X1893
              refine pm_R_op pm_M187 (pc_q := 135) (st_q := [.int 1]) (pm_q187_1 (Nat.le_of_ble_eq_true rfl)) rfl rfl ?_
              exact pm_R_ret pm_M187 (r := some (.int 1)) (pm_q187_1 (Nat.le_of_ble_eq_true rfl)) rfl (K1 m1887 w1888 h1889 T1890 F1894 W1903 (⟨f1904, e1905, ct1906, fun z => (sf_pos B1895 (by decide) z)⟩) (sf_aux39 _ _ _ ek1900 R1880))
          · have F1908 := F1782.trans F1820 (by decide)
            have W1909 : rf_W [10, 12, 13, 14, 16, 17, 18, 22] m m1816 := W1783.trans W1821 (by decide)
            have B1910 : sf_B 0 600 (m1816 10) := T1819.2.2.1 10
            have B1911 : sf_B 0 4 (m1816 13) := T1819.2.2.1 13
            have B1912 : sf_B 0 4 (m1816 17) := T1819.2.2.1 17
            have B1913 : sf_B 0 1 (m1816 22) := T1819.2.2.1 22
            show pm_R _ 187 112 [.ref 41, .long a0, pm_no, .int a1] [.int 1] _ _
            have R1914 : (m 10).toInt ≤ (m1816 10).toInt := (sf_aux70 _ _ _ R1788 X1824)
            obtain ⟨v1915, B1916, e1917⟩ := X1822 _ e1791
            refine pm_R_br pm_M187 (pc_q := 115) (st_q := []) (pm_q187_1 (Nat.le_of_ble_eq_true rfl)) rfl ?_
            refine pm_R_lo pm_M187 (pc_q := 116) (pm_q187_1 (Nat.le_of_ble_eq_true rfl)) rfl rfl ?_
            refine pm_R_cv pm_M187 (pc_q := 119) (a := 41) (ra := []) (rest := []) (ls_q := [.ref 41, pm_no, pm_no]) (pm_q187_1 (Nat.le_of_ble_eq_true rfl)) rfl (Or.inl rfl) pm_M188 T1819.2.1 rfl (by decide) (Nat.lt_of_lt_of_le (by decide) T1819.1) rfl rfl (Nat.le_of_ble_eq_true rfl) rfl rfl ?_
            refine rf_c188 (d := d + 0) T1819  (fun m1920 w1921 h1922 T1923 F1924 W1925 X1926 => ?_) (fun m1929 w1930 h1931 T1932 F1933 W1934 X1935 X1936 => ?_)
            · have F1937 := F1908.trans F1924 (by decide)
              have B1938 : sf_B 1 4 (m1920 17) := by rw [W1925 17 (by decide)]; exact B1825
              have ek1939 : (m1920 17).toInt = ((m1816 17)).toInt := by rw [W1925 17 (by decide)]
              have B1940 : sf_B 0 0 (m1920 22) := by rw [W1925 22 (by decide)]; exact B1826
              have ek1941 : (m1920 22).toInt = ((m1816 22)).toInt := by rw [W1925 22 (by decide)]
              have W1942 : rf_W [10, 12, 13, 14, 16, 17, 18, 22] m m1920 := W1909.trans W1925 (by decide)
              have B1943 : sf_B 0 600 (m1920 10) := T1923.2.2.1 10
              have B1944 : sf_B 0 4 (m1920 13) := T1923.2.2.1 13
              show pm_R _ 187 119 [.ref 41, .long a0, pm_no, .int a1] [.int 0] _ _
              have R1945 : (m 10).toInt ≤ (m1920 10).toInt := (sf_aux70 _ _ _ R1914 X1926)
              refine pm_R_br pm_M187 (pc_q := 122) (st_q := []) (pm_q187_1 (Nat.le_of_ble_eq_true rfl)) rfl ?_
              refine pm_R_op pm_M187 (pc_q := 123) (st_q := [.int 0]) (pm_q187_1 (Nat.le_of_ble_eq_true rfl)) rfl rfl ?_
              exact pm_R_ret pm_M187 (r := some (.int 0)) (pm_q187_1 (Nat.le_of_ble_eq_true rfl)) rfl (K0 m1920 w1921 h1922 T1923 F1937 W1942 (sf_aux51 _ _ R1945))
            · have F1946 := F1908.trans F1933 (by decide)
              have B1947 : sf_B 1 4 (m1929 17) := by rw [W1934 17 (by decide)]; exact B1825
              have ek1948 : (m1929 17).toInt = ((m1816 17)).toInt := by rw [W1934 17 (by decide)]
              have B1949 : sf_B 0 0 (m1929 22) := by rw [W1934 22 (by decide)]; exact B1826
              have ek1950 : (m1929 22).toInt = ((m1816 22)).toInt := by rw [W1934 22 (by decide)]
              have W1951 : rf_W [10, 12, 13, 14, 16, 17, 18, 22] m m1929 := W1909.trans W1934 (by decide)
              have B1952 : sf_B 0 600 (m1929 10) := T1932.2.2.1 10
              have B1953 : sf_B 0 4 (m1929 13) := T1932.2.2.1 13
              show pm_R _ 187 119 [.ref 41, .long a0, pm_no, .int a1] [.int 1] _ _
              have R1954 : (m 10).toInt ≤ (m1929 10).toInt := (sf_aux70 _ _ _ R1914 X1936)
              obtain ⟨v1955, B1956, e1957⟩ := X1935 _ e1917
              refine pm_R_br pm_M187 (pc_q := 124) (st_q := []) (pm_q187_1 (Nat.le_of_ble_eq_true rfl)) rfl ?_
              refine pm_R_lo pm_M187 (pc_q := 125) (pm_q187_1 (Nat.le_of_ble_eq_true rfl)) rfl rfl ?_
              refine pm_R_op pm_M187 (pc_q := 126) (st_q := [.int 0, .ref 41]) (pm_q187_1 (Nat.le_of_ble_eq_true rfl)) rfl rfl ?_
              refine pm_R_op pm_M187 (pc_q := 127) (st_q := [.int 2, .int 0, .ref 41]) (pm_q187_1 (Nat.le_of_ble_eq_true rfl)) rfl rfl ?_
              refine pm_R_op pm_M187 (pc_q := 128) (st_q := [.int 4, .int 2, .int 0, .ref 41]) (pm_q187_1 (Nat.le_of_ble_eq_true rfl)) rfl rfl ?_
              refine pm_R_op pm_M187 (pc_q := 130) (st_q := [.int 10, .int 4, .int 2, .int 0, .ref 41]) (pm_q187_1 (Nat.le_of_ble_eq_true rfl)) rfl rfl ?_
              refine pm_R_op pm_M187 (pc_q := 131) (st_q := [.int 0, .int 10, .int 4, .int 2, .int 0, .ref 41]) (pm_q187_1 (Nat.le_of_ble_eq_true rfl)) rfl rfl ?_
              refine pm_R_cv pm_M187 (pc_q := 134) (a := 41) (ra := [.int 0, .int 10, .int 4, .int 2, .int 0]) (rest := []) (ls_q := [.ref 41, .int 0, .int 2, .int 4, .int 10, .int 0, pm_no, pm_no]) (pm_q187_1 (Nat.le_of_ble_eq_true rfl)) rfl (Or.inl rfl) pm_M185 T1932.2.1 rfl (by decide) (Nat.lt_of_lt_of_le (by decide) T1932.1) rfl rfl (Nat.le_of_ble_eq_true rfl) rfl rfl ?_
              have e1958 := (F1933.cell (by decide) (F1820.cell (by decide) (F1568.cell (by decide) (F1064.cell (by decide) (F1018.cell (by decide) e3)))))
              refine rf_c185_r (d := d + 2) T1932 (⟨f2, e1958, ct4, fun z => (sf_pos B1947 (by decide) z)⟩) (fun z => sf_pos B1947 (by decide) z) (fun m1961 w1962 h1963 T1964 F1965 W1966 X1967 => ?_)
              have F1968 := F1946.trans F1965 (by decide)
              have B1969 : sf_B 1 4 (m1961 17) := by rw [W1966 17 (by decide)]; exact B1947
              have ek1970 : (m1961 17).toInt = ((m1816 17)).toInt := by rw [W1966 17 (by decide)]; exact ek1948
              have B1971 : sf_B 0 0 (m1961 22) := by rw [W1966 22 (by decide)]; exact B1949
              have ek1972 : (m1961 22).toInt = ((m1816 22)).toInt := by rw [W1966 22 (by decide)]; exact ek1950
              have B1973 : sf_B 0 600 (m1961 10) := by rw [W1966 10 (by decide)]; exact B1952
              have ek1974 : (m1961 10).toInt = ((m1929 10)).toInt := by rw [W1966 10 (by decide)]
              have B1975 : sf_B 0 4 (m1961 13) := by rw [W1966 13 (by decide)]; exact B1953
              have ek1976 : (m1961 13).toInt = ((m1929 13)).toInt := by rw [W1966 13 (by decide)]
              have W1977 : rf_W [10, 12, 13, 14, 16, 17, 18, 22] m m1961 := W1951.trans W1966 (by decide)
              show pm_R _ 187 134 [.ref 41, .long a0, pm_no, .int a1] [] _ _
              obtain ⟨f1978, e1979, ct1980, bd1981⟩ := X1967
              refine pm_R_op pm_M187 (pc_q := 135) (st_q := [.int 1]) (pm_q187_1 (Nat.le_of_ble_eq_true rfl)) rfl rfl ?_
              exact pm_R_ret pm_M187 (r := some (.int 1)) (pm_q187_1 (Nat.le_of_ble_eq_true rfl)) rfl (K1 m1961 w1962 h1963 T1964 F1968 W1977 (⟨f1978, e1979, ct1980, fun z => (sf_pos B1969 (by decide) z)⟩) (sf_aux39 _ _ _ ek1974 R1954))
  · have k1982 := sf_lneC e8 c9
    refine pm_R_lo pm_M187 (pc_q := 9) rfl rfl rfl ?_
    refine pm_R_ldc2 pm_M187 (pc_q := 12) rfl rfl rfl ?_
    refine sf_R_lcmp pm_M187 (pc_q := 13) rfl rfl (fun z1983 e1984 => ?_)
    refine pm_R_ifc pm_M187 (t := 29) (pc_q := 16) rfl rfl rfl (fun c1985 => ?_) (fun c1985 => ?_)
    · have B1986 : sf_B 0 0 z1983 := sf_eqL c1985 sf_k0
      have B1987 : lf_B 1936287598 1936287598 a0 := lf_eqB e1984 B1986 (⟨by decide, by decide⟩ : lf_B 1936287598 1936287598 1936287598)
      refine pm_R_lo pm_M187 (pc_q := 30) rfl rfl rfl ?_
      refine pm_R_ldc2 pm_M187 (pc_q := 33) rfl rfl rfl ?_
      refine pm_R_op pm_M187 (pc_q := 34) (st_q := [.int z7]) rfl (by show some (Value.int (lg_cmp a0 1920298085) :: _) = _; rw [← e8]) rfl ?_
      refine pm_R_ifc pm_M187 (t := 48) (pc_q := 37) rfl rfl rfl (fun c1990 => ?_) (fun c1990 => absurd (Classical.not_not.mp c1990) c9)
      have k1991 := sf_lneC e8 c1990
      refine pm_R_lo pm_M187 (pc_q := 49) rfl rfl rfl ?_
      refine pm_R_ldc2 pm_M187 (pc_q := 52) rfl rfl rfl ?_
      refine pm_R_op pm_M187 (pc_q := 53) (st_q := [.int z1983]) rfl (by show some (Value.int (lg_cmp a0 1936287598) :: _) = _; rw [← e1984]) rfl ?_
      refine pm_R_ifc pm_M187 (t := 73) (pc_q := 56) rfl rfl rfl (fun c1994 => absurd (sf_pt2 B1986 sf_k0) c1994) (fun c1994 => ?_)
      refine pm_R_lo pm_M187 (pc_q := 57) rfl rfl rfl ?_
      refine rf_R_get pm_M187 T (pc_q := 60) (v := .ref 51) rfl rfl rfl rfl ?_
      refine pm_R_op pm_M187 (pc_q := 61) (st_q := [.int 1, .ref 51]) rfl rfl rfl ?_
      refine pm_R_iald pm_M187 (pc_q := 62) (v := (f2 1)) rfl e3 (Nat.lt_of_lt_of_le (by decide) T.1) rfl rfl rfl ?_
      refine pm_R_op pm_M187 (pc_q := 64) (st_q := [.int 16, .int (f2 1)]) rfl rfl rfl ?_
      refine pm_R_icmp pm_M187 (t := 73) (pc_q := 67) rfl rfl rfl (fun c1997 => ?_) (fun c1997 => ?_)
      · have B1998 : sf_B 0 15 (f2 1) := sf_neH0 c1997 sf_k16 ct4.2
        refine pm_R_lo pm_M187 (pc_q := 74) rfl rfl rfl ?_
        refine pm_R_cv pm_M187 (pc_q := 77) (a := 41) (ra := []) (rest := []) (ls_q := [.ref 41, pm_no, pm_no]) rfl rfl (Or.inl rfl) pm_M179 T.2.1 rfl (by decide) (Nat.lt_of_lt_of_le (by decide) T.1) rfl rfl (Nat.le_of_ble_eq_true rfl) rfl rfl ?_
        refine rf_c179 (d := d + 1) T  (fun m2001 w2002 h2003 T2004 F2005 W2006 X2007 X2008 => ?_)
        have F2009 := (rf_G.refl [41, 51, 52] h).trans F2005 (by decide)
        have B2010 : sf_B 0 4 (m2001 17) := by rw [W2006 17 (by decide)]; exact B6
        have ek2011 : (m2001 17).toInt = ((m 17)).toInt := by rw [W2006 17 (by decide)]
        have W2012 : rf_W [10, 12, 13, 14, 16, 17, 18, 22] m m2001 := (rf_W.refl [10, 12, 13, 14, 16, 17, 18, 22] m).trans W2006 (by decide)
        have B2013 : sf_B 0 600 (m2001 10) := T2004.2.2.1 10
        have B2014 : sf_B 0 4 (m2001 13) := T2004.2.2.1 13
        have B2015 : sf_B 0 1 (m2001 22) := T2004.2.2.1 22
        show pm_R _ 187 77 [.ref 41, .long a0, pm_no, .int a1] [] _ _
        have R2016 : (m 10).toInt ≤ (m2001 10).toInt := (sf_aux51 _ _ X2007)
        refine pm_R_lo pm_M187 (pc_q := 78) rfl rfl rfl ?_
        refine pm_R_ldc2 pm_M187 (pc_q := 81) rfl rfl rfl ?_
        refine pm_R_op pm_M187 (pc_q := 82) (st_q := [.int z7]) rfl (by show some (Value.int (lg_cmp a0 1920298085) :: _) = _; rw [← e8]) rfl ?_
        refine pm_R_ifc pm_M187 (t := 136) (pc_q := 85) rfl rfl rfl (fun c2019 => ?_) (fun c2019 => absurd (Classical.not_not.mp c2019) c9)
        have k2020 := sf_lneC e8 c2019
        refine pm_R_lo pm_M187 (pc_q := 137) (pm_q187_1 (Nat.le_of_ble_eq_true rfl)) rfl rfl ?_
        refine pm_R_ldc2 pm_M187 (pc_q := 140) (pm_q187_1 (Nat.le_of_ble_eq_true rfl)) rfl rfl ?_
        refine pm_R_op pm_M187 (pc_q := 141) (st_q := [.int z1983]) (pm_q187_1 (Nat.le_of_ble_eq_true rfl)) (by show some (Value.int (lg_cmp a0 1936287598) :: _) = _; rw [← e1984]) rfl ?_
        refine pm_R_ifc pm_M187 (t := 191) (pc_q := 144) (pm_q187_1 (Nat.le_of_ble_eq_true rfl)) rfl rfl (fun c2023 => absurd (sf_pt2 B1986 sf_k0) c2023) (fun c2023 => ?_)
        refine pm_R_lo pm_M187 (pc_q := 145) (pm_q187_1 (Nat.le_of_ble_eq_true rfl)) rfl rfl ?_
        refine pm_R_op pm_M187 (pc_q := 146) (st_q := [.int 0, .ref 41]) (pm_q187_1 (Nat.le_of_ble_eq_true rfl)) rfl rfl ?_
        refine pm_R_op pm_M187 (pc_q := 148) (st_q := [.int 9, .int 0, .ref 41]) (pm_q187_1 (Nat.le_of_ble_eq_true rfl)) rfl rfl ?_
        refine pm_R_op pm_M187 (pc_q := 149) (st_q := [.int (-1), .int 9, .int 0, .ref 41]) (pm_q187_1 (Nat.le_of_ble_eq_true rfl)) rfl rfl ?_
        refine pm_R_cv pm_M187 (pc_q := 152) (a := 41) (ra := [.int (-1), .int 9, .int 0]) (rest := []) (ls_q := [.ref 41, .int 0, .int 9, .int (-1)]) (pm_q187_1 (Nat.le_of_ble_eq_true rfl)) rfl (Or.inl rfl) pm_M183 T2004.2.1 rfl (by decide) (Nat.lt_of_lt_of_le (by decide) T2004.1) rfl rfl (Nat.le_of_ble_eq_true rfl) rfl rfl ?_
        obtain ⟨f2024, e2025, b2026⟩ := T2004.2.2.2.1 52 (by decide) (by decide)
        refine rf_c183_0_9 (d := d + 0) T2004  (fun m2029 w2030 h2031 T2032 F2033 W2034 X2035 => ?_) (fun m2038 w2039 h2040 T2041 F2042 W2043 X2044 X2045 X2046 X2047 X2048 => ?_) (fun m2051 w2052 h2053 T2054 F2055 W2056 X2057 X2058 X2059 B2060 B2061 => ?_)
        · have F2062 := F2009.trans F2033 (by decide)
          have W2063 : rf_W [10, 12, 13, 14, 16, 17, 18, 22] m m2029 := W2012.trans W2034 (by decide)
          have B2064 : sf_B 0 600 (m2029 10) := T2032.2.2.1 10
          have B2065 : sf_B 0 4 (m2029 13) := T2032.2.2.1 13
          have B2066 : sf_B 0 4 (m2029 17) := T2032.2.2.1 17
          have B2067 : sf_B 0 1 (m2029 22) := T2032.2.2.1 22
          show pm_R _ 187 152 [.ref 41, .long a0, pm_no, .int a1] [.int 0] _ _
          have R2068 : (m 10).toInt ≤ (m2029 10).toInt := (sf_aux70 _ _ _ R2016 X2035)
          refine pm_R_br pm_M187 (pc_q := 176) (st_q := []) (pm_q187_1 (Nat.le_of_ble_eq_true rfl)) rfl ?_
          refine pm_R_op pm_M187 (pc_q := 177) (st_q := [.int 0]) (pm_q187_1 (Nat.le_of_ble_eq_true rfl)) rfl rfl ?_
          exact pm_R_ret pm_M187 (r := some (.int 0)) (pm_q187_1 (Nat.le_of_ble_eq_true rfl)) rfl (K0 m2029 w2030 h2031 T2032 F2062 W2063 (sf_aux51 _ _ R2068))
        · have F2069 := F2009.trans F2042 (by decide)
          have W2070 : rf_W [10, 12, 13, 14, 16, 17, 18, 22] m m2038 := W2012.trans W2043 (by decide)
          have B2071 : sf_B 0 600 (m2038 10) := T2041.2.2.1 10
          have B2072 : sf_B 0 4 (m2038 13) := T2041.2.2.1 13
          have B2073 : sf_B 0 4 (m2038 17) := T2041.2.2.1 17
          have B2074 : sf_B 0 1 (m2038 22) := T2041.2.2.1 22
          show pm_R _ 187 152 [.ref 41, .long a0, pm_no, .int a1] [.int 1] _ _
          have R2075 : (m 10).toInt ≤ (m2038 10).toInt := (sf_aux70 _ _ _ R2016 X2048)
          obtain ⟨v2076, B2077, e2078⟩ := X2044 _ e2025
          refine pm_R_br pm_M187 (pc_q := 155) (st_q := []) (pm_q187_1 (Nat.le_of_ble_eq_true rfl)) rfl ?_
          refine pm_R_lo pm_M187 (pc_q := 156) (pm_q187_1 (Nat.le_of_ble_eq_true rfl)) rfl rfl ?_
          refine pm_R_op pm_M187 (pc_q := 157) (st_q := [.int 1, .ref 41]) (pm_q187_1 (Nat.le_of_ble_eq_true rfl)) rfl rfl ?_
          refine pm_R_op pm_M187 (pc_q := 158) (st_q := [.int 5, .int 1, .ref 41]) (pm_q187_1 (Nat.le_of_ble_eq_true rfl)) rfl rfl ?_
          refine pm_R_op pm_M187 (pc_q := 159) (st_q := [.int (-1), .int 5, .int 1, .ref 41]) (pm_q187_1 (Nat.le_of_ble_eq_true rfl)) rfl rfl ?_
          refine pm_R_cv pm_M187 (pc_q := 162) (a := 41) (ra := [.int (-1), .int 5, .int 1]) (rest := []) (ls_q := [.ref 41, .int 1, .int 5, .int (-1)]) (pm_q187_1 (Nat.le_of_ble_eq_true rfl)) rfl (Or.inl rfl) pm_M183 T2041.2.1 rfl (by decide) (Nat.lt_of_lt_of_le (by decide) T2041.1) rfl rfl (Nat.le_of_ble_eq_true rfl) rfl rfl ?_
          refine rf_c183_1_5 (d := d + 0) T2041  (fun m2081 w2082 h2083 T2084 F2085 W2086 X2087 => ?_) (fun m2090 w2091 h2092 T2093 F2094 W2095 X2096 X2097 X2098 X2099 X2100 => ?_) (fun m2103 w2104 h2105 T2106 F2107 W2108 X2109 X2110 X2111 B2112 B2113 => ?_)
          · have F2114 := F2069.trans F2085 (by decide)
            have W2115 : rf_W [10, 12, 13, 14, 16, 17, 18, 22] m m2081 := W2070.trans W2086 (by decide)
            have B2116 : sf_B 0 600 (m2081 10) := T2084.2.2.1 10
            have B2117 : sf_B 0 4 (m2081 13) := T2084.2.2.1 13
            have B2118 : sf_B 0 4 (m2081 17) := T2084.2.2.1 17
            have B2119 : sf_B 0 1 (m2081 22) := T2084.2.2.1 22
            show pm_R _ 187 162 [.ref 41, .long a0, pm_no, .int a1] [.int 0] _ _
            have R2120 : (m 10).toInt ≤ (m2081 10).toInt := (sf_aux70 _ _ _ R2075 X2087)
            refine pm_R_br pm_M187 (pc_q := 176) (st_q := []) (pm_q187_1 (Nat.le_of_ble_eq_true rfl)) rfl ?_
            refine pm_R_op pm_M187 (pc_q := 177) (st_q := [.int 0]) (pm_q187_1 (Nat.le_of_ble_eq_true rfl)) rfl rfl ?_
            exact pm_R_ret pm_M187 (r := some (.int 0)) (pm_q187_1 (Nat.le_of_ble_eq_true rfl)) rfl (K0 m2081 w2082 h2083 T2084 F2114 W2115 (sf_aux51 _ _ R2120))
          · have F2121 := F2069.trans F2094 (by decide)
            have W2122 : rf_W [10, 12, 13, 14, 16, 17, 18, 22] m m2090 := W2070.trans W2095 (by decide)
            have B2123 : sf_B 0 600 (m2090 10) := T2093.2.2.1 10
            have B2124 : sf_B 0 4 (m2090 13) := T2093.2.2.1 13
            have B2125 : sf_B 0 4 (m2090 17) := T2093.2.2.1 17
            have B2126 : sf_B 0 1 (m2090 22) := T2093.2.2.1 22
            show pm_R _ 187 162 [.ref 41, .long a0, pm_no, .int a1] [.int 1] _ _
            have R2127 : (m 10).toInt ≤ (m2090 10).toInt := (sf_aux70 _ _ _ R2075 X2100)
            obtain ⟨v2128, B2129, e2130⟩ := X2096 _ e2078
            refine pm_R_br pm_M187 (pc_q := 165) (st_q := []) (pm_q187_1 (Nat.le_of_ble_eq_true rfl)) rfl ?_
            refine pm_R_lo pm_M187 (pc_q := 166) (pm_q187_1 (Nat.le_of_ble_eq_true rfl)) rfl rfl ?_
            refine pm_R_op pm_M187 (pc_q := 167) (st_q := [.int 2, .ref 41]) (pm_q187_1 (Nat.le_of_ble_eq_true rfl)) rfl rfl ?_
            refine pm_R_op pm_M187 (pc_q := 169) (st_q := [.int 49, .int 2, .ref 41]) (pm_q187_1 (Nat.le_of_ble_eq_true rfl)) rfl rfl ?_
            refine pm_R_op pm_M187 (pc_q := 170) (st_q := [.int (-1), .int 49, .int 2, .ref 41]) (pm_q187_1 (Nat.le_of_ble_eq_true rfl)) rfl rfl ?_
            refine pm_R_cv pm_M187 (pc_q := 173) (a := 41) (ra := [.int (-1), .int 49, .int 2]) (rest := []) (ls_q := [.ref 41, .int 2, .int 49, .int (-1)]) (pm_q187_1 (Nat.le_of_ble_eq_true rfl)) rfl (Or.inl rfl) pm_M183 T2093.2.1 rfl (by decide) (Nat.lt_of_lt_of_le (by decide) T2093.1) rfl rfl (Nat.le_of_ble_eq_true rfl) rfl rfl ?_
            refine rf_c183_2_49 (d := d + 0) T2093  (fun m2133 w2134 h2135 T2136 F2137 W2138 X2139 => ?_) (fun m2142 w2143 h2144 T2145 F2146 W2147 X2148 X2149 X2150 X2151 X2152 => ?_) (fun m2155 w2156 h2157 T2158 F2159 W2160 X2161 X2162 X2163 B2164 B2165 => ?_)
            · have F2166 := F2121.trans F2137 (by decide)
              have W2167 : rf_W [10, 12, 13, 14, 16, 17, 18, 22] m m2133 := W2122.trans W2138 (by decide)
              have B2168 : sf_B 0 600 (m2133 10) := T2136.2.2.1 10
              have B2169 : sf_B 0 4 (m2133 13) := T2136.2.2.1 13
              have B2170 : sf_B 0 4 (m2133 17) := T2136.2.2.1 17
              have B2171 : sf_B 0 1 (m2133 22) := T2136.2.2.1 22
              show pm_R _ 187 173 [.ref 41, .long a0, pm_no, .int a1] [.int 0] _ _
              have R2172 : (m 10).toInt ≤ (m2133 10).toInt := (sf_aux70 _ _ _ R2127 X2139)
              refine pm_R_br pm_M187 (pc_q := 176) (st_q := []) (pm_q187_1 (Nat.le_of_ble_eq_true rfl)) rfl ?_
              refine pm_R_op pm_M187 (pc_q := 177) (st_q := [.int 0]) (pm_q187_1 (Nat.le_of_ble_eq_true rfl)) rfl rfl ?_
              exact pm_R_ret pm_M187 (r := some (.int 0)) (pm_q187_1 (Nat.le_of_ble_eq_true rfl)) rfl (K0 m2133 w2134 h2135 T2136 F2166 W2167 (sf_aux51 _ _ R2172))
            · have F2173 := F2121.trans F2146 (by decide)
              have W2174 : rf_W [10, 12, 13, 14, 16, 17, 18, 22] m m2142 := W2122.trans W2147 (by decide)
              have B2175 : sf_B 0 600 (m2142 10) := T2145.2.2.1 10
              have B2176 : sf_B 0 4 (m2142 13) := T2145.2.2.1 13
              have B2177 : sf_B 0 4 (m2142 17) := T2145.2.2.1 17
              have B2178 : sf_B 0 1 (m2142 22) := T2145.2.2.1 22
              show pm_R _ 187 173 [.ref 41, .long a0, pm_no, .int a1] [.int 1] _ _
              have R2179 : (m 10).toInt ≤ (m2142 10).toInt := (sf_aux70 _ _ _ R2127 X2152)
              obtain ⟨v2180, B2181, e2182⟩ := X2148 _ e2130
              refine pm_R_br pm_M187 (pc_q := 178) (st_q := []) (pm_q187_1 (Nat.le_of_ble_eq_true rfl)) rfl ?_
              refine pm_R_lo pm_M187 (pc_q := 179) (pm_q187_1 (Nat.le_of_ble_eq_true rfl)) rfl rfl ?_
              refine pm_R_op pm_M187 (pc_q := 180) (st_q := [.int 1, .ref 41]) (pm_q187_1 (Nat.le_of_ble_eq_true rfl)) rfl rfl ?_
              refine pm_R_op pm_M187 (pc_q := 182) (st_q := [.int 42, .int 1, .ref 41]) (pm_q187_1 (Nat.le_of_ble_eq_true rfl)) rfl rfl ?_
              refine pm_R_op pm_M187 (pc_q := 183) (st_q := [.int 3, .int 42, .int 1, .ref 41]) (pm_q187_1 (Nat.le_of_ble_eq_true rfl)) rfl rfl ?_
              refine pm_R_op pm_M187 (pc_q := 185) (st_q := [.int 16, .int 3, .int 42, .int 1, .ref 41]) (pm_q187_1 (Nat.le_of_ble_eq_true rfl)) rfl rfl ?_
              refine pm_R_op pm_M187 (pc_q := 186) (st_q := [.int 0, .int 16, .int 3, .int 42, .int 1, .ref 41]) (pm_q187_1 (Nat.le_of_ble_eq_true rfl)) rfl rfl ?_
              refine pm_R_cv pm_M187 (pc_q := 189) (a := 41) (ra := [.int 0, .int 16, .int 3, .int 42, .int 1]) (rest := []) (ls_q := [.ref 41, .int 1, .int 42, .int 3, .int 16, .int 0, pm_no, pm_no]) (pm_q187_1 (Nat.le_of_ble_eq_true rfl)) rfl (Or.inl rfl) pm_M185 T2145.2.1 rfl (by decide) (Nat.lt_of_lt_of_le (by decide) T2145.1) rfl rfl (Nat.le_of_ble_eq_true rfl) rfl rfl ?_
              have e2183 := (F2146.cell (by decide) (F2094.cell (by decide) (F2042.cell (by decide) (F2005.cell (by decide) e3))))
              refine rf_c185_s (d := d + 2) T2145 (⟨f2, e2183, ct4, fun z => (bd5 (sf_aux71 _ _ _ _ _ ek2011 X2045 X2097 X2149 z))⟩) (fun _ g eg => by rw [e2182] at eg; cases eg; exact ⟨sf_eqL (Eq.trans (sf_upd_nec (k := Int32.toNatClampNeg 2) (j := Int32.toNatClampNeg 0) (by decide)) (Eq.trans (sf_upd_nec (k := Int32.toNatClampNeg 1) (j := Int32.toNatClampNeg 0) (by decide)) sf_upd_eq)) B2077, sf_eqL (Eq.trans (sf_upd_nec (k := Int32.toNatClampNeg 2) (j := Int32.toNatClampNeg 1) (by decide)) sf_upd_eq) B2129, sf_eqL sf_upd_eq B2181⟩) (fun m2186 w2187 h2188 T2189 F2190 W2191 X2192 => ?_)
              have F2193 := F2173.trans F2190 (by decide)
              have B2194 : sf_B 0 600 (m2186 10) := by rw [W2191 10 (by decide)]; exact B2175
              have ek2195 : (m2186 10).toInt = ((m2142 10)).toInt := by rw [W2191 10 (by decide)]
              have B2196 : sf_B 0 4 (m2186 13) := by rw [W2191 13 (by decide)]; exact B2176
              have ek2197 : (m2186 13).toInt = ((m2142 13)).toInt := by rw [W2191 13 (by decide)]
              have B2198 : sf_B 0 4 (m2186 17) := by rw [W2191 17 (by decide)]; exact (sf_eqT X2149 (sf_eqT X2097 (sf_eqT X2045 B2010)))
              have ek2199 : (m2186 17).toInt = ((m2090 17)).toInt := by rw [W2191 17 (by decide)]; exact X2149
              have B2200 : sf_B 0 1 (m2186 22) := by rw [W2191 22 (by decide)]; exact (sf_eqT X2150 (sf_eqT X2098 (sf_eqT X2046 B2015)))
              have ek2201 : (m2186 22).toInt = ((m2090 22)).toInt := by rw [W2191 22 (by decide)]; exact X2150
              have W2202 : rf_W [10, 12, 13, 14, 16, 17, 18, 22] m m2186 := W2174.trans W2191 (by decide)
              show pm_R _ 187 189 [.ref 41, .long a0, pm_no, .int a1] [] _ _
              obtain ⟨f2203, e2204, ct2205, bd2206⟩ := X2192
              refine pm_R_op pm_M187 (pc_q := 190) (st_q := [.int 1]) (pm_q187_1 (Nat.le_of_ble_eq_true rfl)) rfl rfl ?_
              exact pm_R_ret pm_M187 (r := some (.int 1)) (pm_q187_1 (Nat.le_of_ble_eq_true rfl)) rfl (K1 m2186 w2187 h2188 T2189 F2193 W2202 (⟨f2203, e2204, ct2205, fun z => (bd2206 z)⟩) (sf_aux39 _ _ _ ek2195 R2179))
            · have F2207 := F2121.trans F2159 (by decide)
              have W2208 : rf_W [10, 12, 13, 14, 16, 17, 18, 22] m m2155 := W2122.trans W2160 (by decide)
              have B2209 : sf_B 0 600 (m2155 10) := T2158.2.2.1 10
              have B2210 : sf_B 0 4 (m2155 13) := T2158.2.2.1 13
              have B2211 : sf_B 0 4 (m2155 17) := T2158.2.2.1 17
              have B2212 : sf_B 0 1 (m2155 22) := T2158.2.2.1 22
              show pm_R _ 187 173 [.ref 41, .long a0, pm_no, .int a1] [.int 1] _ _
              have R2213 : (m 10).toInt ≤ (m2155 10).toInt := (sf_aux70 _ _ _ R2127 X2163)
              obtain ⟨v2214, B2215, e2216⟩ := X2161 _ e2130
              refine pm_R_br pm_M187 (pc_q := 178) (st_q := []) (pm_q187_1 (Nat.le_of_ble_eq_true rfl)) rfl ?_
              refine pm_R_lo pm_M187 (pc_q := 179) (pm_q187_1 (Nat.le_of_ble_eq_true rfl)) rfl rfl ?_
              refine pm_R_op pm_M187 (pc_q := 180) (st_q := [.int 1, .ref 41]) (pm_q187_1 (Nat.le_of_ble_eq_true rfl)) rfl rfl ?_
              refine pm_R_op pm_M187 (pc_q := 182) (st_q := [.int 42, .int 1, .ref 41]) (pm_q187_1 (Nat.le_of_ble_eq_true rfl)) rfl rfl ?_
              refine pm_R_op pm_M187 (pc_q := 183) (st_q := [.int 3, .int 42, .int 1, .ref 41]) (pm_q187_1 (Nat.le_of_ble_eq_true rfl)) rfl rfl ?_
              refine pm_R_op pm_M187 (pc_q := 185) (st_q := [.int 16, .int 3, .int 42, .int 1, .ref 41]) (pm_q187_1 (Nat.le_of_ble_eq_true rfl)) rfl rfl ?_
              refine pm_R_op pm_M187 (pc_q := 186) (st_q := [.int 0, .int 16, .int 3, .int 42, .int 1, .ref 41]) (pm_q187_1 (Nat.le_of_ble_eq_true rfl)) rfl rfl ?_
              refine pm_R_cv pm_M187 (pc_q := 189) (a := 41) (ra := [.int 0, .int 16, .int 3, .int 42, .int 1]) (rest := []) (ls_q := [.ref 41, .int 1, .int 42, .int 3, .int 16, .int 0, pm_no, pm_no]) (pm_q187_1 (Nat.le_of_ble_eq_true rfl)) rfl (Or.inl rfl) pm_M185 T2158.2.1 rfl (by decide) (Nat.lt_of_lt_of_le (by decide) T2158.1) rfl rfl (Nat.le_of_ble_eq_true rfl) rfl rfl ?_
              have e2217 := (F2159.cell (by decide) (F2094.cell (by decide) (F2042.cell (by decide) (F2005.cell (by decide) e3))))
              refine rf_c185_s (d := d + 2) T2158 (⟨f2, e2217, ct4, fun z => (sf_pos B2164 (by decide) z)⟩) (fun z => sf_pos B2164 (by decide) z) (fun m2220 w2221 h2222 T2223 F2224 W2225 X2226 => ?_)
              have F2227 := F2207.trans F2224 (by decide)
              have B2228 : sf_B 0 600 (m2220 10) := by rw [W2225 10 (by decide)]; exact B2209
              have ek2229 : (m2220 10).toInt = ((m2155 10)).toInt := by rw [W2225 10 (by decide)]
              have B2230 : sf_B 0 4 (m2220 13) := by rw [W2225 13 (by decide)]; exact B2210
              have ek2231 : (m2220 13).toInt = ((m2155 13)).toInt := by rw [W2225 13 (by decide)]
              have B2232 : sf_B 1 4 (m2220 17) := by rw [W2225 17 (by decide)]; exact B2164
              have ek2233 : (m2220 17).toInt = ((m2155 17)).toInt := by rw [W2225 17 (by decide)]
              have B2234 : sf_B 0 0 (m2220 22) := by rw [W2225 22 (by decide)]; exact B2165
              have ek2235 : (m2220 22).toInt = ((m2155 22)).toInt := by rw [W2225 22 (by decide)]
              have W2236 : rf_W [10, 12, 13, 14, 16, 17, 18, 22] m m2220 := W2208.trans W2225 (by decide)
              show pm_R _ 187 189 [.ref 41, .long a0, pm_no, .int a1] [] _ _
              obtain ⟨f2237, e2238, ct2239, bd2240⟩ := X2226
              refine pm_R_op pm_M187 (pc_q := 190) (st_q := [.int 1]) (pm_q187_1 (Nat.le_of_ble_eq_true rfl)) rfl rfl ?_
              exact pm_R_ret pm_M187 (r := some (.int 1)) (pm_q187_1 (Nat.le_of_ble_eq_true rfl)) rfl (K1 m2220 w2221 h2222 T2223 F2227 W2236 (⟨f2237, e2238, ct2239, fun z => (sf_pos B2232 (by decide) z)⟩) (sf_aux39 _ _ _ ek2229 R2213))
          · have F2241 := F2069.trans F2107 (by decide)
            have W2242 : rf_W [10, 12, 13, 14, 16, 17, 18, 22] m m2103 := W2070.trans W2108 (by decide)
            have B2243 : sf_B 0 600 (m2103 10) := T2106.2.2.1 10
            have B2244 : sf_B 0 4 (m2103 13) := T2106.2.2.1 13
            have B2245 : sf_B 0 4 (m2103 17) := T2106.2.2.1 17
            have B2246 : sf_B 0 1 (m2103 22) := T2106.2.2.1 22
            show pm_R _ 187 162 [.ref 41, .long a0, pm_no, .int a1] [.int 1] _ _
            have R2247 : (m 10).toInt ≤ (m2103 10).toInt := (sf_aux70 _ _ _ R2075 X2111)
            obtain ⟨v2248, B2249, e2250⟩ := X2109 _ e2078
            refine pm_R_br pm_M187 (pc_q := 165) (st_q := []) (pm_q187_1 (Nat.le_of_ble_eq_true rfl)) rfl ?_
            refine pm_R_lo pm_M187 (pc_q := 166) (pm_q187_1 (Nat.le_of_ble_eq_true rfl)) rfl rfl ?_
            refine pm_R_op pm_M187 (pc_q := 167) (st_q := [.int 2, .ref 41]) (pm_q187_1 (Nat.le_of_ble_eq_true rfl)) rfl rfl ?_
            refine pm_R_op pm_M187 (pc_q := 169) (st_q := [.int 49, .int 2, .ref 41]) (pm_q187_1 (Nat.le_of_ble_eq_true rfl)) rfl rfl ?_
            refine pm_R_op pm_M187 (pc_q := 170) (st_q := [.int (-1), .int 49, .int 2, .ref 41]) (pm_q187_1 (Nat.le_of_ble_eq_true rfl)) rfl rfl ?_
            refine pm_R_cv pm_M187 (pc_q := 173) (a := 41) (ra := [.int (-1), .int 49, .int 2]) (rest := []) (ls_q := [.ref 41, .int 2, .int 49, .int (-1)]) (pm_q187_1 (Nat.le_of_ble_eq_true rfl)) rfl (Or.inl rfl) pm_M183 T2106.2.1 rfl (by decide) (Nat.lt_of_lt_of_le (by decide) T2106.1) rfl rfl (Nat.le_of_ble_eq_true rfl) rfl rfl ?_
            refine rf_c183_2_49 (d := d + 0) T2106  (fun m2253 w2254 h2255 T2256 F2257 W2258 X2259 => ?_) (fun m2262 w2263 h2264 T2265 F2266 W2267 X2268 X2269 X2270 X2271 X2272 => ?_) (fun m2275 w2276 h2277 T2278 F2279 W2280 X2281 X2282 X2283 B2284 B2285 => ?_)
            · have F2286 := F2241.trans F2257 (by decide)
              have W2287 : rf_W [10, 12, 13, 14, 16, 17, 18, 22] m m2253 := W2242.trans W2258 (by decide)
              have B2288 : sf_B 0 600 (m2253 10) := T2256.2.2.1 10
              have B2289 : sf_B 0 4 (m2253 13) := T2256.2.2.1 13
              have B2290 : sf_B 0 4 (m2253 17) := T2256.2.2.1 17
              have B2291 : sf_B 0 1 (m2253 22) := T2256.2.2.1 22
              show pm_R _ 187 173 [.ref 41, .long a0, pm_no, .int a1] [.int 0] _ _
              have R2292 : (m 10).toInt ≤ (m2253 10).toInt := (sf_aux70 _ _ _ R2247 X2259)
              refine pm_R_br pm_M187 (pc_q := 176) (st_q := []) (pm_q187_1 (Nat.le_of_ble_eq_true rfl)) rfl ?_
              refine pm_R_op pm_M187 (pc_q := 177) (st_q := [.int 0]) (pm_q187_1 (Nat.le_of_ble_eq_true rfl)) rfl rfl ?_
              exact pm_R_ret pm_M187 (r := some (.int 0)) (pm_q187_1 (Nat.le_of_ble_eq_true rfl)) rfl (K0 m2253 w2254 h2255 T2256 F2286 W2287 (sf_aux51 _ _ R2292))
            · have F2293 := F2241.trans F2266 (by decide)
              have W2294 : rf_W [10, 12, 13, 14, 16, 17, 18, 22] m m2262 := W2242.trans W2267 (by decide)
              have B2295 : sf_B 0 600 (m2262 10) := T2265.2.2.1 10
              have B2296 : sf_B 0 4 (m2262 13) := T2265.2.2.1 13
              have B2297 : sf_B 0 4 (m2262 17) := T2265.2.2.1 17
              have B2298 : sf_B 0 1 (m2262 22) := T2265.2.2.1 22
              show pm_R _ 187 173 [.ref 41, .long a0, pm_no, .int a1] [.int 1] _ _
              have R2299 : (m 10).toInt ≤ (m2262 10).toInt := (sf_aux70 _ _ _ R2247 X2272)
              obtain ⟨v2300, B2301, e2302⟩ := X2268 _ e2250
              refine pm_R_br pm_M187 (pc_q := 178) (st_q := []) (pm_q187_1 (Nat.le_of_ble_eq_true rfl)) rfl ?_
              refine pm_R_lo pm_M187 (pc_q := 179) (pm_q187_1 (Nat.le_of_ble_eq_true rfl)) rfl rfl ?_
              refine pm_R_op pm_M187 (pc_q := 180) (st_q := [.int 1, .ref 41]) (pm_q187_1 (Nat.le_of_ble_eq_true rfl)) rfl rfl ?_
              refine pm_R_op pm_M187 (pc_q := 182) (st_q := [.int 42, .int 1, .ref 41]) (pm_q187_1 (Nat.le_of_ble_eq_true rfl)) rfl rfl ?_
              refine pm_R_op pm_M187 (pc_q := 183) (st_q := [.int 3, .int 42, .int 1, .ref 41]) (pm_q187_1 (Nat.le_of_ble_eq_true rfl)) rfl rfl ?_
              refine pm_R_op pm_M187 (pc_q := 185) (st_q := [.int 16, .int 3, .int 42, .int 1, .ref 41]) (pm_q187_1 (Nat.le_of_ble_eq_true rfl)) rfl rfl ?_
              refine pm_R_op pm_M187 (pc_q := 186) (st_q := [.int 0, .int 16, .int 3, .int 42, .int 1, .ref 41]) (pm_q187_1 (Nat.le_of_ble_eq_true rfl)) rfl rfl ?_
              refine pm_R_cv pm_M187 (pc_q := 189) (a := 41) (ra := [.int 0, .int 16, .int 3, .int 42, .int 1]) (rest := []) (ls_q := [.ref 41, .int 1, .int 42, .int 3, .int 16, .int 0, pm_no, pm_no]) (pm_q187_1 (Nat.le_of_ble_eq_true rfl)) rfl (Or.inl rfl) pm_M185 T2265.2.1 rfl (by decide) (Nat.lt_of_lt_of_le (by decide) T2265.1) rfl rfl (Nat.le_of_ble_eq_true rfl) rfl rfl ?_
              have e2303 := (F2266.cell (by decide) (F2107.cell (by decide) (F2042.cell (by decide) (F2005.cell (by decide) e3))))
              refine rf_c185_s (d := d + 2) T2265 (⟨f2, e2303, ct4, fun z => (sf_pos (sf_eqT X2269 B2112) (by decide) z)⟩) (fun z => sf_pos (sf_eqT X2269 B2112) (by decide) z) (fun m2306 w2307 h2308 T2309 F2310 W2311 X2312 => ?_)
              have F2313 := F2293.trans F2310 (by decide)
              have B2314 : sf_B 0 600 (m2306 10) := by rw [W2311 10 (by decide)]; exact B2295
              have ek2315 : (m2306 10).toInt = ((m2262 10)).toInt := by rw [W2311 10 (by decide)]
              have B2316 : sf_B 0 4 (m2306 13) := by rw [W2311 13 (by decide)]; exact B2296
              have ek2317 : (m2306 13).toInt = ((m2262 13)).toInt := by rw [W2311 13 (by decide)]
              have B2318 : sf_B 1 4 (m2306 17) := by rw [W2311 17 (by decide)]; exact (sf_eqT X2269 B2112)
              have ek2319 : (m2306 17).toInt = ((m2103 17)).toInt := by rw [W2311 17 (by decide)]; exact X2269
              have B2320 : sf_B 0 0 (m2306 22) := by rw [W2311 22 (by decide)]; exact (sf_eqT X2270 B2113)
              have ek2321 : (m2306 22).toInt = ((m2103 22)).toInt := by rw [W2311 22 (by decide)]; exact X2270
              have W2322 : rf_W [10, 12, 13, 14, 16, 17, 18, 22] m m2306 := W2294.trans W2311 (by decide)
              show pm_R _ 187 189 [.ref 41, .long a0, pm_no, .int a1] [] _ _
              obtain ⟨f2323, e2324, ct2325, bd2326⟩ := X2312
              refine pm_R_op pm_M187 (pc_q := 190) (st_q := [.int 1]) (pm_q187_1 (Nat.le_of_ble_eq_true rfl)) rfl rfl ?_
              exact pm_R_ret pm_M187 (r := some (.int 1)) (pm_q187_1 (Nat.le_of_ble_eq_true rfl)) rfl (K1 m2306 w2307 h2308 T2309 F2313 W2322 (⟨f2323, e2324, ct2325, fun z => (sf_pos B2318 (by decide) z)⟩) (sf_aux39 _ _ _ ek2315 R2299))
            · have F2327 := F2241.trans F2279 (by decide)
              have W2328 : rf_W [10, 12, 13, 14, 16, 17, 18, 22] m m2275 := W2242.trans W2280 (by decide)
              have B2329 : sf_B 0 600 (m2275 10) := T2278.2.2.1 10
              have B2330 : sf_B 0 4 (m2275 13) := T2278.2.2.1 13
              have B2331 : sf_B 0 4 (m2275 17) := T2278.2.2.1 17
              have B2332 : sf_B 0 1 (m2275 22) := T2278.2.2.1 22
              show pm_R _ 187 173 [.ref 41, .long a0, pm_no, .int a1] [.int 1] _ _
              have R2333 : (m 10).toInt ≤ (m2275 10).toInt := (sf_aux70 _ _ _ R2247 X2283)
              obtain ⟨v2334, B2335, e2336⟩ := X2281 _ e2250
              refine pm_R_br pm_M187 (pc_q := 178) (st_q := []) (pm_q187_1 (Nat.le_of_ble_eq_true rfl)) rfl ?_
              refine pm_R_lo pm_M187 (pc_q := 179) (pm_q187_1 (Nat.le_of_ble_eq_true rfl)) rfl rfl ?_
              refine pm_R_op pm_M187 (pc_q := 180) (st_q := [.int 1, .ref 41]) (pm_q187_1 (Nat.le_of_ble_eq_true rfl)) rfl rfl ?_
              refine pm_R_op pm_M187 (pc_q := 182) (st_q := [.int 42, .int 1, .ref 41]) (pm_q187_1 (Nat.le_of_ble_eq_true rfl)) rfl rfl ?_
              refine pm_R_op pm_M187 (pc_q := 183) (st_q := [.int 3, .int 42, .int 1, .ref 41]) (pm_q187_1 (Nat.le_of_ble_eq_true rfl)) rfl rfl ?_
              refine pm_R_op pm_M187 (pc_q := 185) (st_q := [.int 16, .int 3, .int 42, .int 1, .ref 41]) (pm_q187_1 (Nat.le_of_ble_eq_true rfl)) rfl rfl ?_
              refine pm_R_op pm_M187 (pc_q := 186) (st_q := [.int 0, .int 16, .int 3, .int 42, .int 1, .ref 41]) (pm_q187_1 (Nat.le_of_ble_eq_true rfl)) rfl rfl ?_
              refine pm_R_cv pm_M187 (pc_q := 189) (a := 41) (ra := [.int 0, .int 16, .int 3, .int 42, .int 1]) (rest := []) (ls_q := [.ref 41, .int 1, .int 42, .int 3, .int 16, .int 0, pm_no, pm_no]) (pm_q187_1 (Nat.le_of_ble_eq_true rfl)) rfl (Or.inl rfl) pm_M185 T2278.2.1 rfl (by decide) (Nat.lt_of_lt_of_le (by decide) T2278.1) rfl rfl (Nat.le_of_ble_eq_true rfl) rfl rfl ?_
              have e2337 := (F2279.cell (by decide) (F2107.cell (by decide) (F2042.cell (by decide) (F2005.cell (by decide) e3))))
              refine rf_c185_s (d := d + 2) T2278 (⟨f2, e2337, ct4, fun z => (sf_pos B2284 (by decide) z)⟩) (fun z => sf_pos B2284 (by decide) z) (fun m2340 w2341 h2342 T2343 F2344 W2345 X2346 => ?_)
              have F2347 := F2327.trans F2344 (by decide)
              have B2348 : sf_B 0 600 (m2340 10) := by rw [W2345 10 (by decide)]; exact B2329
              have ek2349 : (m2340 10).toInt = ((m2275 10)).toInt := by rw [W2345 10 (by decide)]
              have B2350 : sf_B 0 4 (m2340 13) := by rw [W2345 13 (by decide)]; exact B2330
              have ek2351 : (m2340 13).toInt = ((m2275 13)).toInt := by rw [W2345 13 (by decide)]
              have B2352 : sf_B 1 4 (m2340 17) := by rw [W2345 17 (by decide)]; exact B2284
              have ek2353 : (m2340 17).toInt = ((m2275 17)).toInt := by rw [W2345 17 (by decide)]
              have B2354 : sf_B 0 0 (m2340 22) := by rw [W2345 22 (by decide)]; exact B2285
              have ek2355 : (m2340 22).toInt = ((m2275 22)).toInt := by rw [W2345 22 (by decide)]
              have W2356 : rf_W [10, 12, 13, 14, 16, 17, 18, 22] m m2340 := W2328.trans W2345 (by decide)
              show pm_R _ 187 189 [.ref 41, .long a0, pm_no, .int a1] [] _ _
              obtain ⟨f2357, e2358, ct2359, bd2360⟩ := X2346
              refine pm_R_op pm_M187 (pc_q := 190) (st_q := [.int 1]) (pm_q187_1 (Nat.le_of_ble_eq_true rfl)) rfl rfl ?_
              exact pm_R_ret pm_M187 (r := some (.int 1)) (pm_q187_1 (Nat.le_of_ble_eq_true rfl)) rfl (K1 m2340 w2341 h2342 T2343 F2347 W2356 (⟨f2357, e2358, ct2359, fun z => (sf_pos B2352 (by decide) z)⟩) (sf_aux39 _ _ _ ek2349 R2333))
        · have F2361 := F2009.trans F2055 (by decide)
          have W2362 : rf_W [10, 12, 13, 14, 16, 17, 18, 22] m m2051 := W2012.trans W2056 (by decide)
          have B2363 : sf_B 0 600 (m2051 10) := T2054.2.2.1 10
          have B2364 : sf_B 0 4 (m2051 13) := T2054.2.2.1 13
          have B2365 : sf_B 0 4 (m2051 17) := T2054.2.2.1 17
          have B2366 : sf_B 0 1 (m2051 22) := T2054.2.2.1 22
          show pm_R _ 187 152 [.ref 41, .long a0, pm_no, .int a1] [.int 1] _ _
          have R2367 : (m 10).toInt ≤ (m2051 10).toInt := (sf_aux70 _ _ _ R2016 X2059)
          obtain ⟨v2368, B2369, e2370⟩ := X2057 _ e2025
          refine pm_R_br pm_M187 (pc_q := 155) (st_q := []) (pm_q187_1 (Nat.le_of_ble_eq_true rfl)) rfl ?_
          refine pm_R_lo pm_M187 (pc_q := 156) (pm_q187_1 (Nat.le_of_ble_eq_true rfl)) rfl rfl ?_
          refine pm_R_op pm_M187 (pc_q := 157) (st_q := [.int 1, .ref 41]) (pm_q187_1 (Nat.le_of_ble_eq_true rfl)) rfl rfl ?_
          refine pm_R_op pm_M187 (pc_q := 158) (st_q := [.int 5, .int 1, .ref 41]) (pm_q187_1 (Nat.le_of_ble_eq_true rfl)) rfl rfl ?_
          refine pm_R_op pm_M187 (pc_q := 159) (st_q := [.int (-1), .int 5, .int 1, .ref 41]) (pm_q187_1 (Nat.le_of_ble_eq_true rfl)) rfl rfl ?_
          refine pm_R_cv pm_M187 (pc_q := 162) (a := 41) (ra := [.int (-1), .int 5, .int 1]) (rest := []) (ls_q := [.ref 41, .int 1, .int 5, .int (-1)]) (pm_q187_1 (Nat.le_of_ble_eq_true rfl)) rfl (Or.inl rfl) pm_M183 T2054.2.1 rfl (by decide) (Nat.lt_of_lt_of_le (by decide) T2054.1) rfl rfl (Nat.le_of_ble_eq_true rfl) rfl rfl ?_
          refine rf_c183_1_5 (d := d + 0) T2054  (fun m2373 w2374 h2375 T2376 F2377 W2378 X2379 => ?_) (fun m2382 w2383 h2384 T2385 F2386 W2387 X2388 X2389 X2390 X2391 X2392 => ?_) (fun m2395 w2396 h2397 T2398 F2399 W2400 X2401 X2402 X2403 B2404 B2405 => ?_)
          · have F2406 := F2361.trans F2377 (by decide)
            have W2407 : rf_W [10, 12, 13, 14, 16, 17, 18, 22] m m2373 := W2362.trans W2378 (by decide)
            have B2408 : sf_B 0 600 (m2373 10) := T2376.2.2.1 10
            have B2409 : sf_B 0 4 (m2373 13) := T2376.2.2.1 13
            have B2410 : sf_B 0 4 (m2373 17) := T2376.2.2.1 17
            have B2411 : sf_B 0 1 (m2373 22) := T2376.2.2.1 22
            show pm_R _ 187 162 [.ref 41, .long a0, pm_no, .int a1] [.int 0] _ _
            have R2412 : (m 10).toInt ≤ (m2373 10).toInt := (sf_aux70 _ _ _ R2367 X2379)
            refine pm_R_br pm_M187 (pc_q := 176) (st_q := []) (pm_q187_1 (Nat.le_of_ble_eq_true rfl)) rfl ?_
            refine pm_R_op pm_M187 (pc_q := 177) (st_q := [.int 0]) (pm_q187_1 (Nat.le_of_ble_eq_true rfl)) rfl rfl ?_
            exact pm_R_ret pm_M187 (r := some (.int 0)) (pm_q187_1 (Nat.le_of_ble_eq_true rfl)) rfl (K0 m2373 w2374 h2375 T2376 F2406 W2407 (sf_aux51 _ _ R2412))
          · have F2413 := F2361.trans F2386 (by decide)
            have W2414 : rf_W [10, 12, 13, 14, 16, 17, 18, 22] m m2382 := W2362.trans W2387 (by decide)
            have B2415 : sf_B 0 600 (m2382 10) := T2385.2.2.1 10
            have B2416 : sf_B 0 4 (m2382 13) := T2385.2.2.1 13
            have B2417 : sf_B 0 4 (m2382 17) := T2385.2.2.1 17
            have B2418 : sf_B 0 1 (m2382 22) := T2385.2.2.1 22
            show pm_R _ 187 162 [.ref 41, .long a0, pm_no, .int a1] [.int 1] _ _
            have R2419 : (m 10).toInt ≤ (m2382 10).toInt := (sf_aux70 _ _ _ R2367 X2392)
            obtain ⟨v2420, B2421, e2422⟩ := X2388 _ e2370
            refine pm_R_br pm_M187 (pc_q := 165) (st_q := []) (pm_q187_1 (Nat.le_of_ble_eq_true rfl)) rfl ?_
            refine pm_R_lo pm_M187 (pc_q := 166) (pm_q187_1 (Nat.le_of_ble_eq_true rfl)) rfl rfl ?_
            refine pm_R_op pm_M187 (pc_q := 167) (st_q := [.int 2, .ref 41]) (pm_q187_1 (Nat.le_of_ble_eq_true rfl)) rfl rfl ?_
            refine pm_R_op pm_M187 (pc_q := 169) (st_q := [.int 49, .int 2, .ref 41]) (pm_q187_1 (Nat.le_of_ble_eq_true rfl)) rfl rfl ?_
            refine pm_R_op pm_M187 (pc_q := 170) (st_q := [.int (-1), .int 49, .int 2, .ref 41]) (pm_q187_1 (Nat.le_of_ble_eq_true rfl)) rfl rfl ?_
            refine pm_R_cv pm_M187 (pc_q := 173) (a := 41) (ra := [.int (-1), .int 49, .int 2]) (rest := []) (ls_q := [.ref 41, .int 2, .int 49, .int (-1)]) (pm_q187_1 (Nat.le_of_ble_eq_true rfl)) rfl (Or.inl rfl) pm_M183 T2385.2.1 rfl (by decide) (Nat.lt_of_lt_of_le (by decide) T2385.1) rfl rfl (Nat.le_of_ble_eq_true rfl) rfl rfl ?_
            refine rf_c183_2_49 (d := d + 0) T2385  (fun m2425 w2426 h2427 T2428 F2429 W2430 X2431 => ?_) (fun m2434 w2435 h2436 T2437 F2438 W2439 X2440 X2441 X2442 X2443 X2444 => ?_) (fun m2447 w2448 h2449 T2450 F2451 W2452 X2453 X2454 X2455 B2456 B2457 => ?_)
            · have F2458 := F2413.trans F2429 (by decide)
              have W2459 : rf_W [10, 12, 13, 14, 16, 17, 18, 22] m m2425 := W2414.trans W2430 (by decide)
              have B2460 : sf_B 0 600 (m2425 10) := T2428.2.2.1 10
              have B2461 : sf_B 0 4 (m2425 13) := T2428.2.2.1 13
              have B2462 : sf_B 0 4 (m2425 17) := T2428.2.2.1 17
              have B2463 : sf_B 0 1 (m2425 22) := T2428.2.2.1 22
              show pm_R _ 187 173 [.ref 41, .long a0, pm_no, .int a1] [.int 0] _ _
              have R2464 : (m 10).toInt ≤ (m2425 10).toInt := (sf_aux70 _ _ _ R2419 X2431)
              refine pm_R_br pm_M187 (pc_q := 176) (st_q := []) (pm_q187_1 (Nat.le_of_ble_eq_true rfl)) rfl ?_
              refine pm_R_op pm_M187 (pc_q := 177) (st_q := [.int 0]) (pm_q187_1 (Nat.le_of_ble_eq_true rfl)) rfl rfl ?_
              exact pm_R_ret pm_M187 (r := some (.int 0)) (pm_q187_1 (Nat.le_of_ble_eq_true rfl)) rfl (K0 m2425 w2426 h2427 T2428 F2458 W2459 (sf_aux51 _ _ R2464))
            · have F2465 := F2413.trans F2438 (by decide)
              have W2466 : rf_W [10, 12, 13, 14, 16, 17, 18, 22] m m2434 := W2414.trans W2439 (by decide)
              have B2467 : sf_B 0 600 (m2434 10) := T2437.2.2.1 10
              have B2468 : sf_B 0 4 (m2434 13) := T2437.2.2.1 13
              have B2469 : sf_B 0 4 (m2434 17) := T2437.2.2.1 17
              have B2470 : sf_B 0 1 (m2434 22) := T2437.2.2.1 22
              show pm_R _ 187 173 [.ref 41, .long a0, pm_no, .int a1] [.int 1] _ _
              have R2471 : (m 10).toInt ≤ (m2434 10).toInt := (sf_aux70 _ _ _ R2419 X2444)
              obtain ⟨v2472, B2473, e2474⟩ := X2440 _ e2422
              refine pm_R_br pm_M187 (pc_q := 178) (st_q := []) (pm_q187_1 (Nat.le_of_ble_eq_true rfl)) rfl ?_
              refine pm_R_lo pm_M187 (pc_q := 179) (pm_q187_1 (Nat.le_of_ble_eq_true rfl)) rfl rfl ?_
              refine pm_R_op pm_M187 (pc_q := 180) (st_q := [.int 1, .ref 41]) (pm_q187_1 (Nat.le_of_ble_eq_true rfl)) rfl rfl ?_
              refine pm_R_op pm_M187 (pc_q := 182) (st_q := [.int 42, .int 1, .ref 41]) (pm_q187_1 (Nat.le_of_ble_eq_true rfl)) rfl rfl ?_
              refine pm_R_op pm_M187 (pc_q := 183) (st_q := [.int 3, .int 42, .int 1, .ref 41]) (pm_q187_1 (Nat.le_of_ble_eq_true rfl)) rfl rfl ?_
              refine pm_R_op pm_M187 (pc_q := 185) (st_q := [.int 16, .int 3, .int 42, .int 1, .ref 41]) (pm_q187_1 (Nat.le_of_ble_eq_true rfl)) rfl rfl ?_
              refine pm_R_op pm_M187 (pc_q := 186) (st_q := [.int 0, .int 16, .int 3, .int 42, .int 1, .ref 41]) (pm_q187_1 (Nat.le_of_ble_eq_true rfl)) rfl rfl ?_
              refine pm_R_cv pm_M187 (pc_q := 189) (a := 41) (ra := [.int 0, .int 16, .int 3, .int 42, .int 1]) (rest := []) (ls_q := [.ref 41, .int 1, .int 42, .int 3, .int 16, .int 0, pm_no, pm_no]) (pm_q187_1 (Nat.le_of_ble_eq_true rfl)) rfl (Or.inl rfl) pm_M185 T2437.2.1 rfl (by decide) (Nat.lt_of_lt_of_le (by decide) T2437.1) rfl rfl (Nat.le_of_ble_eq_true rfl) rfl rfl ?_
              have e2475 := (F2438.cell (by decide) (F2386.cell (by decide) (F2055.cell (by decide) (F2005.cell (by decide) e3))))
              refine rf_c185_s (d := d + 2) T2437 (⟨f2, e2475, ct4, fun z => (sf_pos (sf_eqT X2441 (sf_eqT X2389 B2060)) (by decide) z)⟩) (fun z => sf_pos (sf_eqT X2441 (sf_eqT X2389 B2060)) (by decide) z) (fun m2478 w2479 h2480 T2481 F2482 W2483 X2484 => ?_)
              have F2485 := F2465.trans F2482 (by decide)
              have B2486 : sf_B 0 600 (m2478 10) := by rw [W2483 10 (by decide)]; exact B2467
              have ek2487 : (m2478 10).toInt = ((m2434 10)).toInt := by rw [W2483 10 (by decide)]
              have B2488 : sf_B 0 4 (m2478 13) := by rw [W2483 13 (by decide)]; exact B2468
              have ek2489 : (m2478 13).toInt = ((m2434 13)).toInt := by rw [W2483 13 (by decide)]
              have B2490 : sf_B 1 4 (m2478 17) := by rw [W2483 17 (by decide)]; exact (sf_eqT X2441 (sf_eqT X2389 B2060))
              have ek2491 : (m2478 17).toInt = ((m2382 17)).toInt := by rw [W2483 17 (by decide)]; exact X2441
              have B2492 : sf_B 0 0 (m2478 22) := by rw [W2483 22 (by decide)]; exact (sf_eqT X2442 (sf_eqT X2390 B2061))
              have ek2493 : (m2478 22).toInt = ((m2382 22)).toInt := by rw [W2483 22 (by decide)]; exact X2442
              have W2494 : rf_W [10, 12, 13, 14, 16, 17, 18, 22] m m2478 := W2466.trans W2483 (by decide)
              show pm_R _ 187 189 [.ref 41, .long a0, pm_no, .int a1] [] _ _
              obtain ⟨f2495, e2496, ct2497, bd2498⟩ := X2484
              refine pm_R_op pm_M187 (pc_q := 190) (st_q := [.int 1]) (pm_q187_1 (Nat.le_of_ble_eq_true rfl)) rfl rfl ?_
              exact pm_R_ret pm_M187 (r := some (.int 1)) (pm_q187_1 (Nat.le_of_ble_eq_true rfl)) rfl (K1 m2478 w2479 h2480 T2481 F2485 W2494 (⟨f2495, e2496, ct2497, fun z => (sf_pos B2490 (by decide) z)⟩) (sf_aux39 _ _ _ ek2487 R2471))
            · have F2499 := F2413.trans F2451 (by decide)
              have W2500 : rf_W [10, 12, 13, 14, 16, 17, 18, 22] m m2447 := W2414.trans W2452 (by decide)
              have B2501 : sf_B 0 600 (m2447 10) := T2450.2.2.1 10
              have B2502 : sf_B 0 4 (m2447 13) := T2450.2.2.1 13
              have B2503 : sf_B 0 4 (m2447 17) := T2450.2.2.1 17
              have B2504 : sf_B 0 1 (m2447 22) := T2450.2.2.1 22
              show pm_R _ 187 173 [.ref 41, .long a0, pm_no, .int a1] [.int 1] _ _
              have R2505 : (m 10).toInt ≤ (m2447 10).toInt := (sf_aux70 _ _ _ R2419 X2455)
              obtain ⟨v2506, B2507, e2508⟩ := X2453 _ e2422
              refine pm_R_br pm_M187 (pc_q := 178) (st_q := []) (pm_q187_1 (Nat.le_of_ble_eq_true rfl)) rfl ?_
              refine pm_R_lo pm_M187 (pc_q := 179) (pm_q187_1 (Nat.le_of_ble_eq_true rfl)) rfl rfl ?_
              refine pm_R_op pm_M187 (pc_q := 180) (st_q := [.int 1, .ref 41]) (pm_q187_1 (Nat.le_of_ble_eq_true rfl)) rfl rfl ?_
              refine pm_R_op pm_M187 (pc_q := 182) (st_q := [.int 42, .int 1, .ref 41]) (pm_q187_1 (Nat.le_of_ble_eq_true rfl)) rfl rfl ?_
              refine pm_R_op pm_M187 (pc_q := 183) (st_q := [.int 3, .int 42, .int 1, .ref 41]) (pm_q187_1 (Nat.le_of_ble_eq_true rfl)) rfl rfl ?_
              refine pm_R_op pm_M187 (pc_q := 185) (st_q := [.int 16, .int 3, .int 42, .int 1, .ref 41]) (pm_q187_1 (Nat.le_of_ble_eq_true rfl)) rfl rfl ?_
              refine pm_R_op pm_M187 (pc_q := 186) (st_q := [.int 0, .int 16, .int 3, .int 42, .int 1, .ref 41]) (pm_q187_1 (Nat.le_of_ble_eq_true rfl)) rfl rfl ?_
              refine pm_R_cv pm_M187 (pc_q := 189) (a := 41) (ra := [.int 0, .int 16, .int 3, .int 42, .int 1]) (rest := []) (ls_q := [.ref 41, .int 1, .int 42, .int 3, .int 16, .int 0, pm_no, pm_no]) (pm_q187_1 (Nat.le_of_ble_eq_true rfl)) rfl (Or.inl rfl) pm_M185 T2450.2.1 rfl (by decide) (Nat.lt_of_lt_of_le (by decide) T2450.1) rfl rfl (Nat.le_of_ble_eq_true rfl) rfl rfl ?_
              have e2509 := (F2451.cell (by decide) (F2386.cell (by decide) (F2055.cell (by decide) (F2005.cell (by decide) e3))))
              refine rf_c185_s (d := d + 2) T2450 (⟨f2, e2509, ct4, fun z => (sf_pos B2456 (by decide) z)⟩) (fun z => sf_pos B2456 (by decide) z) (fun m2512 w2513 h2514 T2515 F2516 W2517 X2518 => ?_)
              have F2519 := F2499.trans F2516 (by decide)
              have B2520 : sf_B 0 600 (m2512 10) := by rw [W2517 10 (by decide)]; exact B2501
              have ek2521 : (m2512 10).toInt = ((m2447 10)).toInt := by rw [W2517 10 (by decide)]
              have B2522 : sf_B 0 4 (m2512 13) := by rw [W2517 13 (by decide)]; exact B2502
              have ek2523 : (m2512 13).toInt = ((m2447 13)).toInt := by rw [W2517 13 (by decide)]
              have B2524 : sf_B 1 4 (m2512 17) := by rw [W2517 17 (by decide)]; exact B2456
              have ek2525 : (m2512 17).toInt = ((m2447 17)).toInt := by rw [W2517 17 (by decide)]
              have B2526 : sf_B 0 0 (m2512 22) := by rw [W2517 22 (by decide)]; exact B2457
              have ek2527 : (m2512 22).toInt = ((m2447 22)).toInt := by rw [W2517 22 (by decide)]
              have W2528 : rf_W [10, 12, 13, 14, 16, 17, 18, 22] m m2512 := W2500.trans W2517 (by decide)
              show pm_R _ 187 189 [.ref 41, .long a0, pm_no, .int a1] [] _ _
              obtain ⟨f2529, e2530, ct2531, bd2532⟩ := X2518
              refine pm_R_op pm_M187 (pc_q := 190) (st_q := [.int 1]) (pm_q187_1 (Nat.le_of_ble_eq_true rfl)) rfl rfl ?_
              exact pm_R_ret pm_M187 (r := some (.int 1)) (pm_q187_1 (Nat.le_of_ble_eq_true rfl)) rfl (K1 m2512 w2513 h2514 T2515 F2519 W2528 (⟨f2529, e2530, ct2531, fun z => (sf_pos B2524 (by decide) z)⟩) (sf_aux39 _ _ _ ek2521 R2505))
          · have F2533 := F2361.trans F2399 (by decide)
            have W2534 : rf_W [10, 12, 13, 14, 16, 17, 18, 22] m m2395 := W2362.trans W2400 (by decide)
            have B2535 : sf_B 0 600 (m2395 10) := T2398.2.2.1 10
            have B2536 : sf_B 0 4 (m2395 13) := T2398.2.2.1 13
            have B2537 : sf_B 0 4 (m2395 17) := T2398.2.2.1 17
            have B2538 : sf_B 0 1 (m2395 22) := T2398.2.2.1 22
            show pm_R _ 187 162 [.ref 41, .long a0, pm_no, .int a1] [.int 1] _ _
            have R2539 : (m 10).toInt ≤ (m2395 10).toInt := (sf_aux70 _ _ _ R2367 X2403)
            obtain ⟨v2540, B2541, e2542⟩ := X2401 _ e2370
            refine pm_R_br pm_M187 (pc_q := 165) (st_q := []) (pm_q187_1 (Nat.le_of_ble_eq_true rfl)) rfl ?_
            refine pm_R_lo pm_M187 (pc_q := 166) (pm_q187_1 (Nat.le_of_ble_eq_true rfl)) rfl rfl ?_
            refine pm_R_op pm_M187 (pc_q := 167) (st_q := [.int 2, .ref 41]) (pm_q187_1 (Nat.le_of_ble_eq_true rfl)) rfl rfl ?_
            refine pm_R_op pm_M187 (pc_q := 169) (st_q := [.int 49, .int 2, .ref 41]) (pm_q187_1 (Nat.le_of_ble_eq_true rfl)) rfl rfl ?_
            refine pm_R_op pm_M187 (pc_q := 170) (st_q := [.int (-1), .int 49, .int 2, .ref 41]) (pm_q187_1 (Nat.le_of_ble_eq_true rfl)) rfl rfl ?_
            refine pm_R_cv pm_M187 (pc_q := 173) (a := 41) (ra := [.int (-1), .int 49, .int 2]) (rest := []) (ls_q := [.ref 41, .int 2, .int 49, .int (-1)]) (pm_q187_1 (Nat.le_of_ble_eq_true rfl)) rfl (Or.inl rfl) pm_M183 T2398.2.1 rfl (by decide) (Nat.lt_of_lt_of_le (by decide) T2398.1) rfl rfl (Nat.le_of_ble_eq_true rfl) rfl rfl ?_
            refine rf_c183_2_49 (d := d + 0) T2398  (fun m2545 w2546 h2547 T2548 F2549 W2550 X2551 => ?_) (fun m2554 w2555 h2556 T2557 F2558 W2559 X2560 X2561 X2562 X2563 X2564 => ?_) (fun m2567 w2568 h2569 T2570 F2571 W2572 X2573 X2574 X2575 B2576 B2577 => ?_)
            · have F2578 := F2533.trans F2549 (by decide)
              have W2579 : rf_W [10, 12, 13, 14, 16, 17, 18, 22] m m2545 := W2534.trans W2550 (by decide)
              have B2580 : sf_B 0 600 (m2545 10) := T2548.2.2.1 10
              have B2581 : sf_B 0 4 (m2545 13) := T2548.2.2.1 13
              have B2582 : sf_B 0 4 (m2545 17) := T2548.2.2.1 17
              have B2583 : sf_B 0 1 (m2545 22) := T2548.2.2.1 22
              show pm_R _ 187 173 [.ref 41, .long a0, pm_no, .int a1] [.int 0] _ _
              have R2584 : (m 10).toInt ≤ (m2545 10).toInt := (sf_aux70 _ _ _ R2539 X2551)
              refine pm_R_br pm_M187 (pc_q := 176) (st_q := []) (pm_q187_1 (Nat.le_of_ble_eq_true rfl)) rfl ?_
              refine pm_R_op pm_M187 (pc_q := 177) (st_q := [.int 0]) (pm_q187_1 (Nat.le_of_ble_eq_true rfl)) rfl rfl ?_
              exact pm_R_ret pm_M187 (r := some (.int 0)) (pm_q187_1 (Nat.le_of_ble_eq_true rfl)) rfl (K0 m2545 w2546 h2547 T2548 F2578 W2579 (sf_aux51 _ _ R2584))
            · have F2585 := F2533.trans F2558 (by decide)
              have W2586 : rf_W [10, 12, 13, 14, 16, 17, 18, 22] m m2554 := W2534.trans W2559 (by decide)
              have B2587 : sf_B 0 600 (m2554 10) := T2557.2.2.1 10
              have B2588 : sf_B 0 4 (m2554 13) := T2557.2.2.1 13
              have B2589 : sf_B 0 4 (m2554 17) := T2557.2.2.1 17
              have B2590 : sf_B 0 1 (m2554 22) := T2557.2.2.1 22
              show pm_R _ 187 173 [.ref 41, .long a0, pm_no, .int a1] [.int 1] _ _
              have R2591 : (m 10).toInt ≤ (m2554 10).toInt := (sf_aux70 _ _ _ R2539 X2564)
              obtain ⟨v2592, B2593, e2594⟩ := X2560 _ e2542
              refine pm_R_br pm_M187 (pc_q := 178) (st_q := []) (pm_q187_1 (Nat.le_of_ble_eq_true rfl)) rfl ?_
              refine pm_R_lo pm_M187 (pc_q := 179) (pm_q187_1 (Nat.le_of_ble_eq_true rfl)) rfl rfl ?_
              refine pm_R_op pm_M187 (pc_q := 180) (st_q := [.int 1, .ref 41]) (pm_q187_1 (Nat.le_of_ble_eq_true rfl)) rfl rfl ?_
              refine pm_R_op pm_M187 (pc_q := 182) (st_q := [.int 42, .int 1, .ref 41]) (pm_q187_1 (Nat.le_of_ble_eq_true rfl)) rfl rfl ?_
              refine pm_R_op pm_M187 (pc_q := 183) (st_q := [.int 3, .int 42, .int 1, .ref 41]) (pm_q187_1 (Nat.le_of_ble_eq_true rfl)) rfl rfl ?_
              refine pm_R_op pm_M187 (pc_q := 185) (st_q := [.int 16, .int 3, .int 42, .int 1, .ref 41]) (pm_q187_1 (Nat.le_of_ble_eq_true rfl)) rfl rfl ?_
              refine pm_R_op pm_M187 (pc_q := 186) (st_q := [.int 0, .int 16, .int 3, .int 42, .int 1, .ref 41]) (pm_q187_1 (Nat.le_of_ble_eq_true rfl)) rfl rfl ?_
              refine pm_R_cv pm_M187 (pc_q := 189) (a := 41) (ra := [.int 0, .int 16, .int 3, .int 42, .int 1]) (rest := []) (ls_q := [.ref 41, .int 1, .int 42, .int 3, .int 16, .int 0, pm_no, pm_no]) (pm_q187_1 (Nat.le_of_ble_eq_true rfl)) rfl (Or.inl rfl) pm_M185 T2557.2.1 rfl (by decide) (Nat.lt_of_lt_of_le (by decide) T2557.1) rfl rfl (Nat.le_of_ble_eq_true rfl) rfl rfl ?_
              have e2595 := (F2558.cell (by decide) (F2399.cell (by decide) (F2055.cell (by decide) (F2005.cell (by decide) e3))))
              refine rf_c185_s (d := d + 2) T2557 (⟨f2, e2595, ct4, fun z => (sf_pos (sf_eqT X2561 B2404) (by decide) z)⟩) (fun z => sf_pos (sf_eqT X2561 B2404) (by decide) z) (fun m2598 w2599 h2600 T2601 F2602 W2603 X2604 => ?_)
              have F2605 := F2585.trans F2602 (by decide)
              have B2606 : sf_B 0 600 (m2598 10) := by rw [W2603 10 (by decide)]; exact B2587
              have ek2607 : (m2598 10).toInt = ((m2554 10)).toInt := by rw [W2603 10 (by decide)]
              have B2608 : sf_B 0 4 (m2598 13) := by rw [W2603 13 (by decide)]; exact B2588
              have ek2609 : (m2598 13).toInt = ((m2554 13)).toInt := by rw [W2603 13 (by decide)]
              have B2610 : sf_B 1 4 (m2598 17) := by rw [W2603 17 (by decide)]; exact (sf_eqT X2561 B2404)
              have ek2611 : (m2598 17).toInt = ((m2395 17)).toInt := by rw [W2603 17 (by decide)]; exact X2561
              have B2612 : sf_B 0 0 (m2598 22) := by rw [W2603 22 (by decide)]; exact (sf_eqT X2562 B2405)
              have ek2613 : (m2598 22).toInt = ((m2395 22)).toInt := by rw [W2603 22 (by decide)]; exact X2562
              have W2614 : rf_W [10, 12, 13, 14, 16, 17, 18, 22] m m2598 := W2586.trans W2603 (by decide)
              show pm_R _ 187 189 [.ref 41, .long a0, pm_no, .int a1] [] _ _
              obtain ⟨f2615, e2616, ct2617, bd2618⟩ := X2604
              refine pm_R_op pm_M187 (pc_q := 190) (st_q := [.int 1]) (pm_q187_1 (Nat.le_of_ble_eq_true rfl)) rfl rfl ?_
              exact pm_R_ret pm_M187 (r := some (.int 1)) (pm_q187_1 (Nat.le_of_ble_eq_true rfl)) rfl (K1 m2598 w2599 h2600 T2601 F2605 W2614 (⟨f2615, e2616, ct2617, fun z => (sf_pos B2610 (by decide) z)⟩) (sf_aux39 _ _ _ ek2607 R2591))
            · have F2619 := F2533.trans F2571 (by decide)
              have W2620 : rf_W [10, 12, 13, 14, 16, 17, 18, 22] m m2567 := W2534.trans W2572 (by decide)
              have B2621 : sf_B 0 600 (m2567 10) := T2570.2.2.1 10
              have B2622 : sf_B 0 4 (m2567 13) := T2570.2.2.1 13
              have B2623 : sf_B 0 4 (m2567 17) := T2570.2.2.1 17
              have B2624 : sf_B 0 1 (m2567 22) := T2570.2.2.1 22
              show pm_R _ 187 173 [.ref 41, .long a0, pm_no, .int a1] [.int 1] _ _
              have R2625 : (m 10).toInt ≤ (m2567 10).toInt := (sf_aux70 _ _ _ R2539 X2575)
              obtain ⟨v2626, B2627, e2628⟩ := X2573 _ e2542
              refine pm_R_br pm_M187 (pc_q := 178) (st_q := []) (pm_q187_1 (Nat.le_of_ble_eq_true rfl)) rfl ?_
              refine pm_R_lo pm_M187 (pc_q := 179) (pm_q187_1 (Nat.le_of_ble_eq_true rfl)) rfl rfl ?_
              refine pm_R_op pm_M187 (pc_q := 180) (st_q := [.int 1, .ref 41]) (pm_q187_1 (Nat.le_of_ble_eq_true rfl)) rfl rfl ?_
              refine pm_R_op pm_M187 (pc_q := 182) (st_q := [.int 42, .int 1, .ref 41]) (pm_q187_1 (Nat.le_of_ble_eq_true rfl)) rfl rfl ?_
              refine pm_R_op pm_M187 (pc_q := 183) (st_q := [.int 3, .int 42, .int 1, .ref 41]) (pm_q187_1 (Nat.le_of_ble_eq_true rfl)) rfl rfl ?_
              refine pm_R_op pm_M187 (pc_q := 185) (st_q := [.int 16, .int 3, .int 42, .int 1, .ref 41]) (pm_q187_1 (Nat.le_of_ble_eq_true rfl)) rfl rfl ?_
              refine pm_R_op pm_M187 (pc_q := 186) (st_q := [.int 0, .int 16, .int 3, .int 42, .int 1, .ref 41]) (pm_q187_1 (Nat.le_of_ble_eq_true rfl)) rfl rfl ?_
              refine pm_R_cv pm_M187 (pc_q := 189) (a := 41) (ra := [.int 0, .int 16, .int 3, .int 42, .int 1]) (rest := []) (ls_q := [.ref 41, .int 1, .int 42, .int 3, .int 16, .int 0, pm_no, pm_no]) (pm_q187_1 (Nat.le_of_ble_eq_true rfl)) rfl (Or.inl rfl) pm_M185 T2570.2.1 rfl (by decide) (Nat.lt_of_lt_of_le (by decide) T2570.1) rfl rfl (Nat.le_of_ble_eq_true rfl) rfl rfl ?_
              have e2629 := (F2571.cell (by decide) (F2399.cell (by decide) (F2055.cell (by decide) (F2005.cell (by decide) e3))))
              refine rf_c185_s (d := d + 2) T2570 (⟨f2, e2629, ct4, fun z => (sf_pos B2576 (by decide) z)⟩) (fun z => sf_pos B2576 (by decide) z) (fun m2632 w2633 h2634 T2635 F2636 W2637 X2638 => ?_)
              have F2639 := F2619.trans F2636 (by decide)
              have B2640 : sf_B 0 600 (m2632 10) := by rw [W2637 10 (by decide)]; exact B2621
              have ek2641 : (m2632 10).toInt = ((m2567 10)).toInt := by rw [W2637 10 (by decide)]
              have B2642 : sf_B 0 4 (m2632 13) := by rw [W2637 13 (by decide)]; exact B2622
              have ek2643 : (m2632 13).toInt = ((m2567 13)).toInt := by rw [W2637 13 (by decide)]
              have B2644 : sf_B 1 4 (m2632 17) := by rw [W2637 17 (by decide)]; exact B2576
              have ek2645 : (m2632 17).toInt = ((m2567 17)).toInt := by rw [W2637 17 (by decide)]
              have B2646 : sf_B 0 0 (m2632 22) := by rw [W2637 22 (by decide)]; exact B2577
              have ek2647 : (m2632 22).toInt = ((m2567 22)).toInt := by rw [W2637 22 (by decide)]
              have W2648 : rf_W [10, 12, 13, 14, 16, 17, 18, 22] m m2632 := W2620.trans W2637 (by decide)
              show pm_R _ 187 189 [.ref 41, .long a0, pm_no, .int a1] [] _ _
              obtain ⟨f2649, e2650, ct2651, bd2652⟩ := X2638
              refine pm_R_op pm_M187 (pc_q := 190) (st_q := [.int 1]) (pm_q187_1 (Nat.le_of_ble_eq_true rfl)) rfl rfl ?_
              exact pm_R_ret pm_M187 (r := some (.int 1)) (pm_q187_1 (Nat.le_of_ble_eq_true rfl)) rfl (K1 m2632 w2633 h2634 T2635 F2639 W2648 (⟨f2649, e2650, ct2651, fun z => (sf_pos B2644 (by decide) z)⟩) (sf_aux39 _ _ _ ek2641 R2625))
      · have B2653 : sf_B 16 16 (f2 1) := sf_eqL (Classical.not_not.mp c1997) sf_k16
        refine pm_R_lo pm_M187 (pc_q := 68) rfl rfl rfl ?_
        refine pm_R_op pm_M187 (pc_q := 69) (st_q := [.int 3, .ref 41]) rfl rfl rfl ?_
        refine pm_R_lo pm_M187 (pc_q := 70) rfl rfl rfl ?_
        refine pm_R_cv pm_M187 (pc_q := 73) (a := 41) (ra := [.int a1, .int 3]) (rest := []) (ls_q := [.ref 41, .int 3, .int a1]) rfl rfl (Or.inl rfl) pm_M182 T.2.1 rfl (by decide) (Nat.lt_of_lt_of_le (by decide) T.1) rfl rfl (Nat.le_of_ble_eq_true rfl) rfl rfl ?_
        refine rf_c182 (d := d + 2) T (sf_weak sf_k3 (by decide) (by decide)) Ba1 (fun m2656 w2657 h2658 T2659 F2660 W2661 B2662 => ?_)
        have F2663 := (rf_G.refl [41, 51, 52] h).trans F2660 (by decide)
        have B2664 : sf_B 0 600 (m2656 10) := by rw [W2661 10 (by decide)]; exact B1
        have ek2665 : (m2656 10).toInt = ((m 10)).toInt := by rw [W2661 10 (by decide)]
        have W2666 : rf_W [10, 12, 13, 14, 16, 17, 18, 22] m m2656 := (rf_W.refl [10, 12, 13, 14, 16, 17, 18, 22] m).trans W2661 (by decide)
        have B2667 : sf_B 0 4 (m2656 13) := T2659.2.2.1 13
        have B2668 : sf_B 0 4 (m2656 17) := T2659.2.2.1 17
        have B2669 : sf_B 0 1 (m2656 22) := T2659.2.2.1 22
        show pm_R _ 187 73 [.ref 41, .long a0, pm_no, .int a1] [] _ _
        refine pm_R_lo pm_M187 (pc_q := 74) rfl rfl rfl ?_
        refine pm_R_cv pm_M187 (pc_q := 77) (a := 41) (ra := []) (rest := []) (ls_q := [.ref 41, pm_no, pm_no]) rfl rfl (Or.inl rfl) pm_M179 T2659.2.1 rfl (by decide) (Nat.lt_of_lt_of_le (by decide) T2659.1) rfl rfl (Nat.le_of_ble_eq_true rfl) rfl rfl ?_
        refine rf_c179 (d := d + 1) T2659  (fun m2672 w2673 h2674 T2675 F2676 W2677 X2678 X2679 => ?_)
        have F2680 := F2663.trans F2676 (by decide)
        have B2681 : sf_B 1 4 (m2672 17) := by rw [W2677 17 (by decide)]; exact B2662
        have ek2682 : (m2672 17).toInt = ((m2656 17)).toInt := by rw [W2677 17 (by decide)]
        have B2683 : sf_B 0 1 (m2672 22) := by rw [W2677 22 (by decide)]; exact B2669
        have ek2684 : (m2672 22).toInt = ((m2656 22)).toInt := by rw [W2677 22 (by decide)]
        have W2685 : rf_W [10, 12, 13, 14, 16, 17, 18, 22] m m2672 := W2666.trans W2677 (by decide)
        have B2686 : sf_B 0 600 (m2672 10) := T2675.2.2.1 10
        have B2687 : sf_B 0 4 (m2672 13) := T2675.2.2.1 13
        show pm_R _ 187 77 [.ref 41, .long a0, pm_no, .int a1] [] _ _
        have R2688 : (m 10).toInt ≤ (m2672 10).toInt := (sf_aux53 _ _ _ ek2665 X2678)
        refine pm_R_lo pm_M187 (pc_q := 78) rfl rfl rfl ?_
        refine pm_R_ldc2 pm_M187 (pc_q := 81) rfl rfl rfl ?_
        refine pm_R_op pm_M187 (pc_q := 82) (st_q := [.int z7]) rfl (by show some (Value.int (lg_cmp a0 1920298085) :: _) = _; rw [← e8]) rfl ?_
        refine pm_R_ifc pm_M187 (t := 136) (pc_q := 85) rfl rfl rfl (fun c2691 => ?_) (fun c2691 => absurd (Classical.not_not.mp c2691) c9)
        have k2692 := sf_lneC e8 c2691
        refine pm_R_lo pm_M187 (pc_q := 137) (pm_q187_1 (Nat.le_of_ble_eq_true rfl)) rfl rfl ?_
        refine pm_R_ldc2 pm_M187 (pc_q := 140) (pm_q187_1 (Nat.le_of_ble_eq_true rfl)) rfl rfl ?_
        refine pm_R_op pm_M187 (pc_q := 141) (st_q := [.int z1983]) (pm_q187_1 (Nat.le_of_ble_eq_true rfl)) (by show some (Value.int (lg_cmp a0 1936287598) :: _) = _; rw [← e1984]) rfl ?_
        refine pm_R_ifc pm_M187 (t := 191) (pc_q := 144) (pm_q187_1 (Nat.le_of_ble_eq_true rfl)) rfl rfl (fun c2695 => absurd (sf_pt2 B1986 sf_k0) c2695) (fun c2695 => ?_)
        refine pm_R_lo pm_M187 (pc_q := 145) (pm_q187_1 (Nat.le_of_ble_eq_true rfl)) rfl rfl ?_
        refine pm_R_op pm_M187 (pc_q := 146) (st_q := [.int 0, .ref 41]) (pm_q187_1 (Nat.le_of_ble_eq_true rfl)) rfl rfl ?_
        refine pm_R_op pm_M187 (pc_q := 148) (st_q := [.int 9, .int 0, .ref 41]) (pm_q187_1 (Nat.le_of_ble_eq_true rfl)) rfl rfl ?_
        refine pm_R_op pm_M187 (pc_q := 149) (st_q := [.int (-1), .int 9, .int 0, .ref 41]) (pm_q187_1 (Nat.le_of_ble_eq_true rfl)) rfl rfl ?_
        refine pm_R_cv pm_M187 (pc_q := 152) (a := 41) (ra := [.int (-1), .int 9, .int 0]) (rest := []) (ls_q := [.ref 41, .int 0, .int 9, .int (-1)]) (pm_q187_1 (Nat.le_of_ble_eq_true rfl)) rfl (Or.inl rfl) pm_M183 T2675.2.1 rfl (by decide) (Nat.lt_of_lt_of_le (by decide) T2675.1) rfl rfl (Nat.le_of_ble_eq_true rfl) rfl rfl ?_
        obtain ⟨f2696, e2697, b2698⟩ := T2675.2.2.2.1 52 (by decide) (by decide)
        refine rf_c183_0_9 (d := d + 0) T2675  (fun m2701 w2702 h2703 T2704 F2705 W2706 X2707 => ?_) (fun m2710 w2711 h2712 T2713 F2714 W2715 X2716 X2717 X2718 X2719 X2720 => ?_) (fun m2723 w2724 h2725 T2726 F2727 W2728 X2729 X2730 X2731 B2732 B2733 => ?_)
        · have F2734 := F2680.trans F2705 (by decide)
          have W2735 : rf_W [10, 12, 13, 14, 16, 17, 18, 22] m m2701 := W2685.trans W2706 (by decide)
          have B2736 : sf_B 0 600 (m2701 10) := T2704.2.2.1 10
          have B2737 : sf_B 0 4 (m2701 13) := T2704.2.2.1 13
          have B2738 : sf_B 0 4 (m2701 17) := T2704.2.2.1 17
          have B2739 : sf_B 0 1 (m2701 22) := T2704.2.2.1 22
          show pm_R _ 187 152 [.ref 41, .long a0, pm_no, .int a1] [.int 0] _ _
          have R2740 : (m 10).toInt ≤ (m2701 10).toInt := (sf_aux70 _ _ _ R2688 X2707)
          refine pm_R_br pm_M187 (pc_q := 176) (st_q := []) (pm_q187_1 (Nat.le_of_ble_eq_true rfl)) rfl ?_
          refine pm_R_op pm_M187 (pc_q := 177) (st_q := [.int 0]) (pm_q187_1 (Nat.le_of_ble_eq_true rfl)) rfl rfl ?_
          exact pm_R_ret pm_M187 (r := some (.int 0)) (pm_q187_1 (Nat.le_of_ble_eq_true rfl)) rfl (K0 m2701 w2702 h2703 T2704 F2734 W2735 (sf_aux51 _ _ R2740))
        · have F2741 := F2680.trans F2714 (by decide)
          have W2742 : rf_W [10, 12, 13, 14, 16, 17, 18, 22] m m2710 := W2685.trans W2715 (by decide)
          have B2743 : sf_B 0 600 (m2710 10) := T2713.2.2.1 10
          have B2744 : sf_B 0 4 (m2710 13) := T2713.2.2.1 13
          have B2745 : sf_B 0 4 (m2710 17) := T2713.2.2.1 17
          have B2746 : sf_B 0 1 (m2710 22) := T2713.2.2.1 22
          show pm_R _ 187 152 [.ref 41, .long a0, pm_no, .int a1] [.int 1] _ _
          have R2747 : (m 10).toInt ≤ (m2710 10).toInt := (sf_aux70 _ _ _ R2688 X2720)
          obtain ⟨v2748, B2749, e2750⟩ := X2716 _ e2697
          refine pm_R_br pm_M187 (pc_q := 155) (st_q := []) (pm_q187_1 (Nat.le_of_ble_eq_true rfl)) rfl ?_
          refine pm_R_lo pm_M187 (pc_q := 156) (pm_q187_1 (Nat.le_of_ble_eq_true rfl)) rfl rfl ?_
          refine pm_R_op pm_M187 (pc_q := 157) (st_q := [.int 1, .ref 41]) (pm_q187_1 (Nat.le_of_ble_eq_true rfl)) rfl rfl ?_
          refine pm_R_op pm_M187 (pc_q := 158) (st_q := [.int 5, .int 1, .ref 41]) (pm_q187_1 (Nat.le_of_ble_eq_true rfl)) rfl rfl ?_
          refine pm_R_op pm_M187 (pc_q := 159) (st_q := [.int (-1), .int 5, .int 1, .ref 41]) (pm_q187_1 (Nat.le_of_ble_eq_true rfl)) rfl rfl ?_
          refine pm_R_cv pm_M187 (pc_q := 162) (a := 41) (ra := [.int (-1), .int 5, .int 1]) (rest := []) (ls_q := [.ref 41, .int 1, .int 5, .int (-1)]) (pm_q187_1 (Nat.le_of_ble_eq_true rfl)) rfl (Or.inl rfl) pm_M183 T2713.2.1 rfl (by decide) (Nat.lt_of_lt_of_le (by decide) T2713.1) rfl rfl (Nat.le_of_ble_eq_true rfl) rfl rfl ?_
          refine rf_c183_1_5 (d := d + 0) T2713  (fun m2753 w2754 h2755 T2756 F2757 W2758 X2759 => ?_) (fun m2762 w2763 h2764 T2765 F2766 W2767 X2768 X2769 X2770 X2771 X2772 => ?_) (fun m2775 w2776 h2777 T2778 F2779 W2780 X2781 X2782 X2783 B2784 B2785 => ?_)
          · have F2786 := F2741.trans F2757 (by decide)
            have W2787 : rf_W [10, 12, 13, 14, 16, 17, 18, 22] m m2753 := W2742.trans W2758 (by decide)
            have B2788 : sf_B 0 600 (m2753 10) := T2756.2.2.1 10
            have B2789 : sf_B 0 4 (m2753 13) := T2756.2.2.1 13
            have B2790 : sf_B 0 4 (m2753 17) := T2756.2.2.1 17
            have B2791 : sf_B 0 1 (m2753 22) := T2756.2.2.1 22
            show pm_R _ 187 162 [.ref 41, .long a0, pm_no, .int a1] [.int 0] _ _
            have R2792 : (m 10).toInt ≤ (m2753 10).toInt := (sf_aux70 _ _ _ R2747 X2759)
            refine pm_R_br pm_M187 (pc_q := 176) (st_q := []) (pm_q187_1 (Nat.le_of_ble_eq_true rfl)) rfl ?_
            refine pm_R_op pm_M187 (pc_q := 177) (st_q := [.int 0]) (pm_q187_1 (Nat.le_of_ble_eq_true rfl)) rfl rfl ?_
            exact pm_R_ret pm_M187 (r := some (.int 0)) (pm_q187_1 (Nat.le_of_ble_eq_true rfl)) rfl (K0 m2753 w2754 h2755 T2756 F2786 W2787 (sf_aux51 _ _ R2792))
          · have F2793 := F2741.trans F2766 (by decide)
            have W2794 : rf_W [10, 12, 13, 14, 16, 17, 18, 22] m m2762 := W2742.trans W2767 (by decide)
            have B2795 : sf_B 0 600 (m2762 10) := T2765.2.2.1 10
            have B2796 : sf_B 0 4 (m2762 13) := T2765.2.2.1 13
            have B2797 : sf_B 0 4 (m2762 17) := T2765.2.2.1 17
            have B2798 : sf_B 0 1 (m2762 22) := T2765.2.2.1 22
            show pm_R _ 187 162 [.ref 41, .long a0, pm_no, .int a1] [.int 1] _ _
            have R2799 : (m 10).toInt ≤ (m2762 10).toInt := (sf_aux70 _ _ _ R2747 X2772)
            obtain ⟨v2800, B2801, e2802⟩ := X2768 _ e2750
            refine pm_R_br pm_M187 (pc_q := 165) (st_q := []) (pm_q187_1 (Nat.le_of_ble_eq_true rfl)) rfl ?_
            refine pm_R_lo pm_M187 (pc_q := 166) (pm_q187_1 (Nat.le_of_ble_eq_true rfl)) rfl rfl ?_
            refine pm_R_op pm_M187 (pc_q := 167) (st_q := [.int 2, .ref 41]) (pm_q187_1 (Nat.le_of_ble_eq_true rfl)) rfl rfl ?_
            refine pm_R_op pm_M187 (pc_q := 169) (st_q := [.int 49, .int 2, .ref 41]) (pm_q187_1 (Nat.le_of_ble_eq_true rfl)) rfl rfl ?_
            refine pm_R_op pm_M187 (pc_q := 170) (st_q := [.int (-1), .int 49, .int 2, .ref 41]) (pm_q187_1 (Nat.le_of_ble_eq_true rfl)) rfl rfl ?_
            refine pm_R_cv pm_M187 (pc_q := 173) (a := 41) (ra := [.int (-1), .int 49, .int 2]) (rest := []) (ls_q := [.ref 41, .int 2, .int 49, .int (-1)]) (pm_q187_1 (Nat.le_of_ble_eq_true rfl)) rfl (Or.inl rfl) pm_M183 T2765.2.1 rfl (by decide) (Nat.lt_of_lt_of_le (by decide) T2765.1) rfl rfl (Nat.le_of_ble_eq_true rfl) rfl rfl ?_
            refine rf_c183_2_49 (d := d + 0) T2765  (fun m2805 w2806 h2807 T2808 F2809 W2810 X2811 => ?_) (fun m2814 w2815 h2816 T2817 F2818 W2819 X2820 X2821 X2822 X2823 X2824 => ?_) (fun m2827 w2828 h2829 T2830 F2831 W2832 X2833 X2834 X2835 B2836 B2837 => ?_)
            · have F2838 := F2793.trans F2809 (by decide)
              have W2839 : rf_W [10, 12, 13, 14, 16, 17, 18, 22] m m2805 := W2794.trans W2810 (by decide)
              have B2840 : sf_B 0 600 (m2805 10) := T2808.2.2.1 10
              have B2841 : sf_B 0 4 (m2805 13) := T2808.2.2.1 13
              have B2842 : sf_B 0 4 (m2805 17) := T2808.2.2.1 17
              have B2843 : sf_B 0 1 (m2805 22) := T2808.2.2.1 22
              show pm_R _ 187 173 [.ref 41, .long a0, pm_no, .int a1] [.int 0] _ _
              have R2844 : (m 10).toInt ≤ (m2805 10).toInt := (sf_aux70 _ _ _ R2799 X2811)
              refine pm_R_br pm_M187 (pc_q := 176) (st_q := []) (pm_q187_1 (Nat.le_of_ble_eq_true rfl)) rfl ?_
              refine pm_R_op pm_M187 (pc_q := 177) (st_q := [.int 0]) (pm_q187_1 (Nat.le_of_ble_eq_true rfl)) rfl rfl ?_
              exact pm_R_ret pm_M187 (r := some (.int 0)) (pm_q187_1 (Nat.le_of_ble_eq_true rfl)) rfl (K0 m2805 w2806 h2807 T2808 F2838 W2839 (sf_aux51 _ _ R2844))
            · have F2845 := F2793.trans F2818 (by decide)
              have W2846 : rf_W [10, 12, 13, 14, 16, 17, 18, 22] m m2814 := W2794.trans W2819 (by decide)
              have B2847 : sf_B 0 600 (m2814 10) := T2817.2.2.1 10
              have B2848 : sf_B 0 4 (m2814 13) := T2817.2.2.1 13
              have B2849 : sf_B 0 4 (m2814 17) := T2817.2.2.1 17
              have B2850 : sf_B 0 1 (m2814 22) := T2817.2.2.1 22
              show pm_R _ 187 173 [.ref 41, .long a0, pm_no, .int a1] [.int 1] _ _
              have R2851 : (m 10).toInt ≤ (m2814 10).toInt := (sf_aux70 _ _ _ R2799 X2824)
              obtain ⟨v2852, B2853, e2854⟩ := X2820 _ e2802
              refine pm_R_br pm_M187 (pc_q := 178) (st_q := []) (pm_q187_1 (Nat.le_of_ble_eq_true rfl)) rfl ?_
              refine pm_R_lo pm_M187 (pc_q := 179) (pm_q187_1 (Nat.le_of_ble_eq_true rfl)) rfl rfl ?_
              refine pm_R_op pm_M187 (pc_q := 180) (st_q := [.int 1, .ref 41]) (pm_q187_1 (Nat.le_of_ble_eq_true rfl)) rfl rfl ?_
              refine pm_R_op pm_M187 (pc_q := 182) (st_q := [.int 42, .int 1, .ref 41]) (pm_q187_1 (Nat.le_of_ble_eq_true rfl)) rfl rfl ?_
              refine pm_R_op pm_M187 (pc_q := 183) (st_q := [.int 3, .int 42, .int 1, .ref 41]) (pm_q187_1 (Nat.le_of_ble_eq_true rfl)) rfl rfl ?_
              refine pm_R_op pm_M187 (pc_q := 185) (st_q := [.int 16, .int 3, .int 42, .int 1, .ref 41]) (pm_q187_1 (Nat.le_of_ble_eq_true rfl)) rfl rfl ?_
              refine pm_R_op pm_M187 (pc_q := 186) (st_q := [.int 0, .int 16, .int 3, .int 42, .int 1, .ref 41]) (pm_q187_1 (Nat.le_of_ble_eq_true rfl)) rfl rfl ?_
              refine pm_R_cv pm_M187 (pc_q := 189) (a := 41) (ra := [.int 0, .int 16, .int 3, .int 42, .int 1]) (rest := []) (ls_q := [.ref 41, .int 1, .int 42, .int 3, .int 16, .int 0, pm_no, pm_no]) (pm_q187_1 (Nat.le_of_ble_eq_true rfl)) rfl (Or.inl rfl) pm_M185 T2817.2.1 rfl (by decide) (Nat.lt_of_lt_of_le (by decide) T2817.1) rfl rfl (Nat.le_of_ble_eq_true rfl) rfl rfl ?_
              have e2855 := (F2818.cell (by decide) (F2766.cell (by decide) (F2714.cell (by decide) (F2676.cell (by decide) (F2660.cell (by decide) e3)))))
              refine rf_c185_s (d := d + 2) T2817 (⟨f2, e2855, ct4, fun z => (sf_pos (sf_eqT X2821 (sf_eqT X2769 (sf_eqT X2717 B2681))) (by decide) z)⟩) (fun z => sf_pos (sf_eqT X2821 (sf_eqT X2769 (sf_eqT X2717 B2681))) (by decide) z) (fun m2858 w2859 h2860 T2861 F2862 W2863 X2864 => ?_)
              have F2865 := F2845.trans F2862 (by decide)
              have B2866 : sf_B 0 600 (m2858 10) := by rw [W2863 10 (by decide)]; exact B2847
              have ek2867 : (m2858 10).toInt = ((m2814 10)).toInt := by rw [W2863 10 (by decide)]
              have B2868 : sf_B 0 4 (m2858 13) := by rw [W2863 13 (by decide)]; exact B2848
              have ek2869 : (m2858 13).toInt = ((m2814 13)).toInt := by rw [W2863 13 (by decide)]
              have B2870 : sf_B 1 4 (m2858 17) := by rw [W2863 17 (by decide)]; exact (sf_eqT X2821 (sf_eqT X2769 (sf_eqT X2717 B2681)))
              have ek2871 : (m2858 17).toInt = ((m2762 17)).toInt := by rw [W2863 17 (by decide)]; exact X2821
              have B2872 : sf_B 0 1 (m2858 22) := by rw [W2863 22 (by decide)]; exact (sf_eqT X2822 (sf_eqT X2770 (sf_eqT X2718 B2683)))
              have ek2873 : (m2858 22).toInt = ((m2762 22)).toInt := by rw [W2863 22 (by decide)]; exact X2822
              have W2874 : rf_W [10, 12, 13, 14, 16, 17, 18, 22] m m2858 := W2846.trans W2863 (by decide)
              show pm_R _ 187 189 [.ref 41, .long a0, pm_no, .int a1] [] _ _
              obtain ⟨f2875, e2876, ct2877, bd2878⟩ := X2864
              refine pm_R_op pm_M187 (pc_q := 190) (st_q := [.int 1]) (pm_q187_1 (Nat.le_of_ble_eq_true rfl)) rfl rfl ?_
              exact pm_R_ret pm_M187 (r := some (.int 1)) (pm_q187_1 (Nat.le_of_ble_eq_true rfl)) rfl (K1 m2858 w2859 h2860 T2861 F2865 W2874 (⟨f2875, e2876, ct2877, fun z => (sf_pos B2870 (by decide) z)⟩) (sf_aux39 _ _ _ ek2867 R2851))
            · have F2879 := F2793.trans F2831 (by decide)
              have W2880 : rf_W [10, 12, 13, 14, 16, 17, 18, 22] m m2827 := W2794.trans W2832 (by decide)
              have B2881 : sf_B 0 600 (m2827 10) := T2830.2.2.1 10
              have B2882 : sf_B 0 4 (m2827 13) := T2830.2.2.1 13
              have B2883 : sf_B 0 4 (m2827 17) := T2830.2.2.1 17
              have B2884 : sf_B 0 1 (m2827 22) := T2830.2.2.1 22
              show pm_R _ 187 173 [.ref 41, .long a0, pm_no, .int a1] [.int 1] _ _
              have R2885 : (m 10).toInt ≤ (m2827 10).toInt := (sf_aux70 _ _ _ R2799 X2835)
              obtain ⟨v2886, B2887, e2888⟩ := X2833 _ e2802
              refine pm_R_br pm_M187 (pc_q := 178) (st_q := []) (pm_q187_1 (Nat.le_of_ble_eq_true rfl)) rfl ?_
              refine pm_R_lo pm_M187 (pc_q := 179) (pm_q187_1 (Nat.le_of_ble_eq_true rfl)) rfl rfl ?_
              refine pm_R_op pm_M187 (pc_q := 180) (st_q := [.int 1, .ref 41]) (pm_q187_1 (Nat.le_of_ble_eq_true rfl)) rfl rfl ?_
              refine pm_R_op pm_M187 (pc_q := 182) (st_q := [.int 42, .int 1, .ref 41]) (pm_q187_1 (Nat.le_of_ble_eq_true rfl)) rfl rfl ?_
              refine pm_R_op pm_M187 (pc_q := 183) (st_q := [.int 3, .int 42, .int 1, .ref 41]) (pm_q187_1 (Nat.le_of_ble_eq_true rfl)) rfl rfl ?_
              refine pm_R_op pm_M187 (pc_q := 185) (st_q := [.int 16, .int 3, .int 42, .int 1, .ref 41]) (pm_q187_1 (Nat.le_of_ble_eq_true rfl)) rfl rfl ?_
              refine pm_R_op pm_M187 (pc_q := 186) (st_q := [.int 0, .int 16, .int 3, .int 42, .int 1, .ref 41]) (pm_q187_1 (Nat.le_of_ble_eq_true rfl)) rfl rfl ?_
              refine pm_R_cv pm_M187 (pc_q := 189) (a := 41) (ra := [.int 0, .int 16, .int 3, .int 42, .int 1]) (rest := []) (ls_q := [.ref 41, .int 1, .int 42, .int 3, .int 16, .int 0, pm_no, pm_no]) (pm_q187_1 (Nat.le_of_ble_eq_true rfl)) rfl (Or.inl rfl) pm_M185 T2830.2.1 rfl (by decide) (Nat.lt_of_lt_of_le (by decide) T2830.1) rfl rfl (Nat.le_of_ble_eq_true rfl) rfl rfl ?_
              have e2889 := (F2831.cell (by decide) (F2766.cell (by decide) (F2714.cell (by decide) (F2676.cell (by decide) (F2660.cell (by decide) e3)))))
              refine rf_c185_s (d := d + 2) T2830 (⟨f2, e2889, ct4, fun z => (sf_pos B2836 (by decide) z)⟩) (fun z => sf_pos B2836 (by decide) z) (fun m2892 w2893 h2894 T2895 F2896 W2897 X2898 => ?_)
              have F2899 := F2879.trans F2896 (by decide)
              have B2900 : sf_B 0 600 (m2892 10) := by rw [W2897 10 (by decide)]; exact B2881
              have ek2901 : (m2892 10).toInt = ((m2827 10)).toInt := by rw [W2897 10 (by decide)]
              have B2902 : sf_B 0 4 (m2892 13) := by rw [W2897 13 (by decide)]; exact B2882
              have ek2903 : (m2892 13).toInt = ((m2827 13)).toInt := by rw [W2897 13 (by decide)]
              have B2904 : sf_B 1 4 (m2892 17) := by rw [W2897 17 (by decide)]; exact B2836
              have ek2905 : (m2892 17).toInt = ((m2827 17)).toInt := by rw [W2897 17 (by decide)]
              have B2906 : sf_B 0 0 (m2892 22) := by rw [W2897 22 (by decide)]; exact B2837
              have ek2907 : (m2892 22).toInt = ((m2827 22)).toInt := by rw [W2897 22 (by decide)]
              have W2908 : rf_W [10, 12, 13, 14, 16, 17, 18, 22] m m2892 := W2880.trans W2897 (by decide)
              show pm_R _ 187 189 [.ref 41, .long a0, pm_no, .int a1] [] _ _
              obtain ⟨f2909, e2910, ct2911, bd2912⟩ := X2898
              refine pm_R_op pm_M187 (pc_q := 190) (st_q := [.int 1]) (pm_q187_1 (Nat.le_of_ble_eq_true rfl)) rfl rfl ?_
              exact pm_R_ret pm_M187 (r := some (.int 1)) (pm_q187_1 (Nat.le_of_ble_eq_true rfl)) rfl (K1 m2892 w2893 h2894 T2895 F2899 W2908 (⟨f2909, e2910, ct2911, fun z => (sf_pos B2904 (by decide) z)⟩) (sf_aux39 _ _ _ ek2901 R2885))
          · have F2913 := F2741.trans F2779 (by decide)
            have W2914 : rf_W [10, 12, 13, 14, 16, 17, 18, 22] m m2775 := W2742.trans W2780 (by decide)
            have B2915 : sf_B 0 600 (m2775 10) := T2778.2.2.1 10
            have B2916 : sf_B 0 4 (m2775 13) := T2778.2.2.1 13
            have B2917 : sf_B 0 4 (m2775 17) := T2778.2.2.1 17
            have B2918 : sf_B 0 1 (m2775 22) := T2778.2.2.1 22
            show pm_R _ 187 162 [.ref 41, .long a0, pm_no, .int a1] [.int 1] _ _
            have R2919 : (m 10).toInt ≤ (m2775 10).toInt := (sf_aux70 _ _ _ R2747 X2783)
            obtain ⟨v2920, B2921, e2922⟩ := X2781 _ e2750
            refine pm_R_br pm_M187 (pc_q := 165) (st_q := []) (pm_q187_1 (Nat.le_of_ble_eq_true rfl)) rfl ?_
            refine pm_R_lo pm_M187 (pc_q := 166) (pm_q187_1 (Nat.le_of_ble_eq_true rfl)) rfl rfl ?_
            refine pm_R_op pm_M187 (pc_q := 167) (st_q := [.int 2, .ref 41]) (pm_q187_1 (Nat.le_of_ble_eq_true rfl)) rfl rfl ?_
            refine pm_R_op pm_M187 (pc_q := 169) (st_q := [.int 49, .int 2, .ref 41]) (pm_q187_1 (Nat.le_of_ble_eq_true rfl)) rfl rfl ?_
            refine pm_R_op pm_M187 (pc_q := 170) (st_q := [.int (-1), .int 49, .int 2, .ref 41]) (pm_q187_1 (Nat.le_of_ble_eq_true rfl)) rfl rfl ?_
            refine pm_R_cv pm_M187 (pc_q := 173) (a := 41) (ra := [.int (-1), .int 49, .int 2]) (rest := []) (ls_q := [.ref 41, .int 2, .int 49, .int (-1)]) (pm_q187_1 (Nat.le_of_ble_eq_true rfl)) rfl (Or.inl rfl) pm_M183 T2778.2.1 rfl (by decide) (Nat.lt_of_lt_of_le (by decide) T2778.1) rfl rfl (Nat.le_of_ble_eq_true rfl) rfl rfl ?_
            refine rf_c183_2_49 (d := d + 0) T2778  (fun m2925 w2926 h2927 T2928 F2929 W2930 X2931 => ?_) (fun m2934 w2935 h2936 T2937 F2938 W2939 X2940 X2941 X2942 X2943 X2944 => ?_) (fun m2947 w2948 h2949 T2950 F2951 W2952 X2953 X2954 X2955 B2956 B2957 => ?_)
            · have F2958 := F2913.trans F2929 (by decide)
              have W2959 : rf_W [10, 12, 13, 14, 16, 17, 18, 22] m m2925 := W2914.trans W2930 (by decide)
              have B2960 : sf_B 0 600 (m2925 10) := T2928.2.2.1 10
              have B2961 : sf_B 0 4 (m2925 13) := T2928.2.2.1 13
              have B2962 : sf_B 0 4 (m2925 17) := T2928.2.2.1 17
              have B2963 : sf_B 0 1 (m2925 22) := T2928.2.2.1 22
              show pm_R _ 187 173 [.ref 41, .long a0, pm_no, .int a1] [.int 0] _ _
              have R2964 : (m 10).toInt ≤ (m2925 10).toInt := (sf_aux70 _ _ _ R2919 X2931)
              refine pm_R_br pm_M187 (pc_q := 176) (st_q := []) (pm_q187_1 (Nat.le_of_ble_eq_true rfl)) rfl ?_
              refine pm_R_op pm_M187 (pc_q := 177) (st_q := [.int 0]) (pm_q187_1 (Nat.le_of_ble_eq_true rfl)) rfl rfl ?_
              exact pm_R_ret pm_M187 (r := some (.int 0)) (pm_q187_1 (Nat.le_of_ble_eq_true rfl)) rfl (K0 m2925 w2926 h2927 T2928 F2958 W2959 (sf_aux51 _ _ R2964))
            · have F2965 := F2913.trans F2938 (by decide)
              have W2966 : rf_W [10, 12, 13, 14, 16, 17, 18, 22] m m2934 := W2914.trans W2939 (by decide)
              have B2967 : sf_B 0 600 (m2934 10) := T2937.2.2.1 10
              have B2968 : sf_B 0 4 (m2934 13) := T2937.2.2.1 13
              have B2969 : sf_B 0 4 (m2934 17) := T2937.2.2.1 17
              have B2970 : sf_B 0 1 (m2934 22) := T2937.2.2.1 22
              show pm_R _ 187 173 [.ref 41, .long a0, pm_no, .int a1] [.int 1] _ _
              have R2971 : (m 10).toInt ≤ (m2934 10).toInt := (sf_aux70 _ _ _ R2919 X2944)
              obtain ⟨v2972, B2973, e2974⟩ := X2940 _ e2922
              refine pm_R_br pm_M187 (pc_q := 178) (st_q := []) (pm_q187_1 (Nat.le_of_ble_eq_true rfl)) rfl ?_
              refine pm_R_lo pm_M187 (pc_q := 179) (pm_q187_1 (Nat.le_of_ble_eq_true rfl)) rfl rfl ?_
              refine pm_R_op pm_M187 (pc_q := 180) (st_q := [.int 1, .ref 41]) (pm_q187_1 (Nat.le_of_ble_eq_true rfl)) rfl rfl ?_
              refine pm_R_op pm_M187 (pc_q := 182) (st_q := [.int 42, .int 1, .ref 41]) (pm_q187_1 (Nat.le_of_ble_eq_true rfl)) rfl rfl ?_
              refine pm_R_op pm_M187 (pc_q := 183) (st_q := [.int 3, .int 42, .int 1, .ref 41]) (pm_q187_1 (Nat.le_of_ble_eq_true rfl)) rfl rfl ?_
              refine pm_R_op pm_M187 (pc_q := 185) (st_q := [.int 16, .int 3, .int 42, .int 1, .ref 41]) (pm_q187_1 (Nat.le_of_ble_eq_true rfl)) rfl rfl ?_
              refine pm_R_op pm_M187 (pc_q := 186) (st_q := [.int 0, .int 16, .int 3, .int 42, .int 1, .ref 41]) (pm_q187_1 (Nat.le_of_ble_eq_true rfl)) rfl rfl ?_
              refine pm_R_cv pm_M187 (pc_q := 189) (a := 41) (ra := [.int 0, .int 16, .int 3, .int 42, .int 1]) (rest := []) (ls_q := [.ref 41, .int 1, .int 42, .int 3, .int 16, .int 0, pm_no, pm_no]) (pm_q187_1 (Nat.le_of_ble_eq_true rfl)) rfl (Or.inl rfl) pm_M185 T2937.2.1 rfl (by decide) (Nat.lt_of_lt_of_le (by decide) T2937.1) rfl rfl (Nat.le_of_ble_eq_true rfl) rfl rfl ?_
              have e2975 := (F2938.cell (by decide) (F2779.cell (by decide) (F2714.cell (by decide) (F2676.cell (by decide) (F2660.cell (by decide) e3)))))
              refine rf_c185_s (d := d + 2) T2937 (⟨f2, e2975, ct4, fun z => (sf_pos (sf_eqT X2941 B2784) (by decide) z)⟩) (fun z => sf_pos (sf_eqT X2941 B2784) (by decide) z) (fun m2978 w2979 h2980 T2981 F2982 W2983 X2984 => ?_)
              have F2985 := F2965.trans F2982 (by decide)
              have B2986 : sf_B 0 600 (m2978 10) := by rw [W2983 10 (by decide)]; exact B2967
              have ek2987 : (m2978 10).toInt = ((m2934 10)).toInt := by rw [W2983 10 (by decide)]
              have B2988 : sf_B 0 4 (m2978 13) := by rw [W2983 13 (by decide)]; exact B2968
              have ek2989 : (m2978 13).toInt = ((m2934 13)).toInt := by rw [W2983 13 (by decide)]
              have B2990 : sf_B 1 4 (m2978 17) := by rw [W2983 17 (by decide)]; exact (sf_eqT X2941 B2784)
              have ek2991 : (m2978 17).toInt = ((m2775 17)).toInt := by rw [W2983 17 (by decide)]; exact X2941
              have B2992 : sf_B 0 0 (m2978 22) := by rw [W2983 22 (by decide)]; exact (sf_eqT X2942 B2785)
              have ek2993 : (m2978 22).toInt = ((m2775 22)).toInt := by rw [W2983 22 (by decide)]; exact X2942
              have W2994 : rf_W [10, 12, 13, 14, 16, 17, 18, 22] m m2978 := W2966.trans W2983 (by decide)
              show pm_R _ 187 189 [.ref 41, .long a0, pm_no, .int a1] [] _ _
              obtain ⟨f2995, e2996, ct2997, bd2998⟩ := X2984
              refine pm_R_op pm_M187 (pc_q := 190) (st_q := [.int 1]) (pm_q187_1 (Nat.le_of_ble_eq_true rfl)) rfl rfl ?_
              exact pm_R_ret pm_M187 (r := some (.int 1)) (pm_q187_1 (Nat.le_of_ble_eq_true rfl)) rfl (K1 m2978 w2979 h2980 T2981 F2985 W2994 (⟨f2995, e2996, ct2997, fun z => (sf_pos B2990 (by decide) z)⟩) (sf_aux39 _ _ _ ek2987 R2971))
            · have F2999 := F2913.trans F2951 (by decide)
              have W3000 : rf_W [10, 12, 13, 14, 16, 17, 18, 22] m m2947 := W2914.trans W2952 (by decide)
              have B3001 : sf_B 0 600 (m2947 10) := T2950.2.2.1 10
              have B3002 : sf_B 0 4 (m2947 13) := T2950.2.2.1 13
              have B3003 : sf_B 0 4 (m2947 17) := T2950.2.2.1 17
              have B3004 : sf_B 0 1 (m2947 22) := T2950.2.2.1 22
              show pm_R _ 187 173 [.ref 41, .long a0, pm_no, .int a1] [.int 1] _ _
              have R3005 : (m 10).toInt ≤ (m2947 10).toInt := (sf_aux70 _ _ _ R2919 X2955)
              obtain ⟨v3006, B3007, e3008⟩ := X2953 _ e2922
              refine pm_R_br pm_M187 (pc_q := 178) (st_q := []) (pm_q187_1 (Nat.le_of_ble_eq_true rfl)) rfl ?_
              refine pm_R_lo pm_M187 (pc_q := 179) (pm_q187_1 (Nat.le_of_ble_eq_true rfl)) rfl rfl ?_
              refine pm_R_op pm_M187 (pc_q := 180) (st_q := [.int 1, .ref 41]) (pm_q187_1 (Nat.le_of_ble_eq_true rfl)) rfl rfl ?_
              refine pm_R_op pm_M187 (pc_q := 182) (st_q := [.int 42, .int 1, .ref 41]) (pm_q187_1 (Nat.le_of_ble_eq_true rfl)) rfl rfl ?_
              refine pm_R_op pm_M187 (pc_q := 183) (st_q := [.int 3, .int 42, .int 1, .ref 41]) (pm_q187_1 (Nat.le_of_ble_eq_true rfl)) rfl rfl ?_
              refine pm_R_op pm_M187 (pc_q := 185) (st_q := [.int 16, .int 3, .int 42, .int 1, .ref 41]) (pm_q187_1 (Nat.le_of_ble_eq_true rfl)) rfl rfl ?_
              refine pm_R_op pm_M187 (pc_q := 186) (st_q := [.int 0, .int 16, .int 3, .int 42, .int 1, .ref 41]) (pm_q187_1 (Nat.le_of_ble_eq_true rfl)) rfl rfl ?_
              refine pm_R_cv pm_M187 (pc_q := 189) (a := 41) (ra := [.int 0, .int 16, .int 3, .int 42, .int 1]) (rest := []) (ls_q := [.ref 41, .int 1, .int 42, .int 3, .int 16, .int 0, pm_no, pm_no]) (pm_q187_1 (Nat.le_of_ble_eq_true rfl)) rfl (Or.inl rfl) pm_M185 T2950.2.1 rfl (by decide) (Nat.lt_of_lt_of_le (by decide) T2950.1) rfl rfl (Nat.le_of_ble_eq_true rfl) rfl rfl ?_
              have e3009 := (F2951.cell (by decide) (F2779.cell (by decide) (F2714.cell (by decide) (F2676.cell (by decide) (F2660.cell (by decide) e3)))))
              refine rf_c185_s (d := d + 2) T2950 (⟨f2, e3009, ct4, fun z => (sf_pos B2956 (by decide) z)⟩) (fun z => sf_pos B2956 (by decide) z) (fun m3012 w3013 h3014 T3015 F3016 W3017 X3018 => ?_)
              have F3019 := F2999.trans F3016 (by decide)
              have B3020 : sf_B 0 600 (m3012 10) := by rw [W3017 10 (by decide)]; exact B3001
              have ek3021 : (m3012 10).toInt = ((m2947 10)).toInt := by rw [W3017 10 (by decide)]
              have B3022 : sf_B 0 4 (m3012 13) := by rw [W3017 13 (by decide)]; exact B3002
              have ek3023 : (m3012 13).toInt = ((m2947 13)).toInt := by rw [W3017 13 (by decide)]
              have B3024 : sf_B 1 4 (m3012 17) := by rw [W3017 17 (by decide)]; exact B2956
              have ek3025 : (m3012 17).toInt = ((m2947 17)).toInt := by rw [W3017 17 (by decide)]
              have B3026 : sf_B 0 0 (m3012 22) := by rw [W3017 22 (by decide)]; exact B2957
              have ek3027 : (m3012 22).toInt = ((m2947 22)).toInt := by rw [W3017 22 (by decide)]
              have W3028 : rf_W [10, 12, 13, 14, 16, 17, 18, 22] m m3012 := W3000.trans W3017 (by decide)
              show pm_R _ 187 189 [.ref 41, .long a0, pm_no, .int a1] [] _ _
              obtain ⟨f3029, e3030, ct3031, bd3032⟩ := X3018
              refine pm_R_op pm_M187 (pc_q := 190) (st_q := [.int 1]) (pm_q187_1 (Nat.le_of_ble_eq_true rfl)) rfl rfl ?_
              exact pm_R_ret pm_M187 (r := some (.int 1)) (pm_q187_1 (Nat.le_of_ble_eq_true rfl)) rfl (K1 m3012 w3013 h3014 T3015 F3019 W3028 (⟨f3029, e3030, ct3031, fun z => (sf_pos B3024 (by decide) z)⟩) (sf_aux39 _ _ _ ek3021 R3005))
        · have F3033 := F2680.trans F2727 (by decide)
          have W3034 : rf_W [10, 12, 13, 14, 16, 17, 18, 22] m m2723 := W2685.trans W2728 (by decide)
          have B3035 : sf_B 0 600 (m2723 10) := T2726.2.2.1 10
          have B3036 : sf_B 0 4 (m2723 13) := T2726.2.2.1 13
          have B3037 : sf_B 0 4 (m2723 17) := T2726.2.2.1 17
          have B3038 : sf_B 0 1 (m2723 22) := T2726.2.2.1 22
          show pm_R _ 187 152 [.ref 41, .long a0, pm_no, .int a1] [.int 1] _ _
          have R3039 : (m 10).toInt ≤ (m2723 10).toInt := (sf_aux70 _ _ _ R2688 X2731)
          obtain ⟨v3040, B3041, e3042⟩ := X2729 _ e2697
          refine pm_R_br pm_M187 (pc_q := 155) (st_q := []) (pm_q187_1 (Nat.le_of_ble_eq_true rfl)) rfl ?_
          refine pm_R_lo pm_M187 (pc_q := 156) (pm_q187_1 (Nat.le_of_ble_eq_true rfl)) rfl rfl ?_
          refine pm_R_op pm_M187 (pc_q := 157) (st_q := [.int 1, .ref 41]) (pm_q187_1 (Nat.le_of_ble_eq_true rfl)) rfl rfl ?_
          refine pm_R_op pm_M187 (pc_q := 158) (st_q := [.int 5, .int 1, .ref 41]) (pm_q187_1 (Nat.le_of_ble_eq_true rfl)) rfl rfl ?_
          refine pm_R_op pm_M187 (pc_q := 159) (st_q := [.int (-1), .int 5, .int 1, .ref 41]) (pm_q187_1 (Nat.le_of_ble_eq_true rfl)) rfl rfl ?_
          refine pm_R_cv pm_M187 (pc_q := 162) (a := 41) (ra := [.int (-1), .int 5, .int 1]) (rest := []) (ls_q := [.ref 41, .int 1, .int 5, .int (-1)]) (pm_q187_1 (Nat.le_of_ble_eq_true rfl)) rfl (Or.inl rfl) pm_M183 T2726.2.1 rfl (by decide) (Nat.lt_of_lt_of_le (by decide) T2726.1) rfl rfl (Nat.le_of_ble_eq_true rfl) rfl rfl ?_
          refine rf_c183_1_5 (d := d + 0) T2726  (fun m3045 w3046 h3047 T3048 F3049 W3050 X3051 => ?_) (fun m3054 w3055 h3056 T3057 F3058 W3059 X3060 X3061 X3062 X3063 X3064 => ?_) (fun m3067 w3068 h3069 T3070 F3071 W3072 X3073 X3074 X3075 B3076 B3077 => ?_)
          · have F3078 := F3033.trans F3049 (by decide)
            have W3079 : rf_W [10, 12, 13, 14, 16, 17, 18, 22] m m3045 := W3034.trans W3050 (by decide)
            have B3080 : sf_B 0 600 (m3045 10) := T3048.2.2.1 10
            have B3081 : sf_B 0 4 (m3045 13) := T3048.2.2.1 13
            have B3082 : sf_B 0 4 (m3045 17) := T3048.2.2.1 17
            have B3083 : sf_B 0 1 (m3045 22) := T3048.2.2.1 22
            show pm_R _ 187 162 [.ref 41, .long a0, pm_no, .int a1] [.int 0] _ _
            have R3084 : (m 10).toInt ≤ (m3045 10).toInt := (sf_aux70 _ _ _ R3039 X3051)
            refine pm_R_br pm_M187 (pc_q := 176) (st_q := []) (pm_q187_1 (Nat.le_of_ble_eq_true rfl)) rfl ?_
            refine pm_R_op pm_M187 (pc_q := 177) (st_q := [.int 0]) (pm_q187_1 (Nat.le_of_ble_eq_true rfl)) rfl rfl ?_
            exact pm_R_ret pm_M187 (r := some (.int 0)) (pm_q187_1 (Nat.le_of_ble_eq_true rfl)) rfl (K0 m3045 w3046 h3047 T3048 F3078 W3079 (sf_aux51 _ _ R3084))
          · have F3085 := F3033.trans F3058 (by decide)
            have W3086 : rf_W [10, 12, 13, 14, 16, 17, 18, 22] m m3054 := W3034.trans W3059 (by decide)
            have B3087 : sf_B 0 600 (m3054 10) := T3057.2.2.1 10
            have B3088 : sf_B 0 4 (m3054 13) := T3057.2.2.1 13
            have B3089 : sf_B 0 4 (m3054 17) := T3057.2.2.1 17
            have B3090 : sf_B 0 1 (m3054 22) := T3057.2.2.1 22
            show pm_R _ 187 162 [.ref 41, .long a0, pm_no, .int a1] [.int 1] _ _
            have R3091 : (m 10).toInt ≤ (m3054 10).toInt := (sf_aux70 _ _ _ R3039 X3064)
            obtain ⟨v3092, B3093, e3094⟩ := X3060 _ e3042
            refine pm_R_br pm_M187 (pc_q := 165) (st_q := []) (pm_q187_1 (Nat.le_of_ble_eq_true rfl)) rfl ?_
            refine pm_R_lo pm_M187 (pc_q := 166) (pm_q187_1 (Nat.le_of_ble_eq_true rfl)) rfl rfl ?_
            refine pm_R_op pm_M187 (pc_q := 167) (st_q := [.int 2, .ref 41]) (pm_q187_1 (Nat.le_of_ble_eq_true rfl)) rfl rfl ?_
            refine pm_R_op pm_M187 (pc_q := 169) (st_q := [.int 49, .int 2, .ref 41]) (pm_q187_1 (Nat.le_of_ble_eq_true rfl)) rfl rfl ?_
            refine pm_R_op pm_M187 (pc_q := 170) (st_q := [.int (-1), .int 49, .int 2, .ref 41]) (pm_q187_1 (Nat.le_of_ble_eq_true rfl)) rfl rfl ?_
            refine pm_R_cv pm_M187 (pc_q := 173) (a := 41) (ra := [.int (-1), .int 49, .int 2]) (rest := []) (ls_q := [.ref 41, .int 2, .int 49, .int (-1)]) (pm_q187_1 (Nat.le_of_ble_eq_true rfl)) rfl (Or.inl rfl) pm_M183 T3057.2.1 rfl (by decide) (Nat.lt_of_lt_of_le (by decide) T3057.1) rfl rfl (Nat.le_of_ble_eq_true rfl) rfl rfl ?_
            refine rf_c183_2_49 (d := d + 0) T3057  (fun m3097 w3098 h3099 T3100 F3101 W3102 X3103 => ?_) (fun m3106 w3107 h3108 T3109 F3110 W3111 X3112 X3113 X3114 X3115 X3116 => ?_) (fun m3119 w3120 h3121 T3122 F3123 W3124 X3125 X3126 X3127 B3128 B3129 => ?_)
            · have F3130 := F3085.trans F3101 (by decide)
              have W3131 : rf_W [10, 12, 13, 14, 16, 17, 18, 22] m m3097 := W3086.trans W3102 (by decide)
              have B3132 : sf_B 0 600 (m3097 10) := T3100.2.2.1 10
              have B3133 : sf_B 0 4 (m3097 13) := T3100.2.2.1 13
              have B3134 : sf_B 0 4 (m3097 17) := T3100.2.2.1 17
              have B3135 : sf_B 0 1 (m3097 22) := T3100.2.2.1 22
              show pm_R _ 187 173 [.ref 41, .long a0, pm_no, .int a1] [.int 0] _ _
              have R3136 : (m 10).toInt ≤ (m3097 10).toInt := (sf_aux70 _ _ _ R3091 X3103)
              refine pm_R_br pm_M187 (pc_q := 176) (st_q := []) (pm_q187_1 (Nat.le_of_ble_eq_true rfl)) rfl ?_
              refine pm_R_op pm_M187 (pc_q := 177) (st_q := [.int 0]) (pm_q187_1 (Nat.le_of_ble_eq_true rfl)) rfl rfl ?_
              exact pm_R_ret pm_M187 (r := some (.int 0)) (pm_q187_1 (Nat.le_of_ble_eq_true rfl)) rfl (K0 m3097 w3098 h3099 T3100 F3130 W3131 (sf_aux51 _ _ R3136))
            · have F3137 := F3085.trans F3110 (by decide)
              have W3138 : rf_W [10, 12, 13, 14, 16, 17, 18, 22] m m3106 := W3086.trans W3111 (by decide)
              have B3139 : sf_B 0 600 (m3106 10) := T3109.2.2.1 10
              have B3140 : sf_B 0 4 (m3106 13) := T3109.2.2.1 13
              have B3141 : sf_B 0 4 (m3106 17) := T3109.2.2.1 17
              have B3142 : sf_B 0 1 (m3106 22) := T3109.2.2.1 22
              show pm_R _ 187 173 [.ref 41, .long a0, pm_no, .int a1] [.int 1] _ _
              have R3143 : (m 10).toInt ≤ (m3106 10).toInt := (sf_aux70 _ _ _ R3091 X3116)
              obtain ⟨v3144, B3145, e3146⟩ := X3112 _ e3094
              refine pm_R_br pm_M187 (pc_q := 178) (st_q := []) (pm_q187_1 (Nat.le_of_ble_eq_true rfl)) rfl ?_
              refine pm_R_lo pm_M187 (pc_q := 179) (pm_q187_1 (Nat.le_of_ble_eq_true rfl)) rfl rfl ?_
              refine pm_R_op pm_M187 (pc_q := 180) (st_q := [.int 1, .ref 41]) (pm_q187_1 (Nat.le_of_ble_eq_true rfl)) rfl rfl ?_
              refine pm_R_op pm_M187 (pc_q := 182) (st_q := [.int 42, .int 1, .ref 41]) (pm_q187_1 (Nat.le_of_ble_eq_true rfl)) rfl rfl ?_
              refine pm_R_op pm_M187 (pc_q := 183) (st_q := [.int 3, .int 42, .int 1, .ref 41]) (pm_q187_1 (Nat.le_of_ble_eq_true rfl)) rfl rfl ?_
              refine pm_R_op pm_M187 (pc_q := 185) (st_q := [.int 16, .int 3, .int 42, .int 1, .ref 41]) (pm_q187_1 (Nat.le_of_ble_eq_true rfl)) rfl rfl ?_
              refine pm_R_op pm_M187 (pc_q := 186) (st_q := [.int 0, .int 16, .int 3, .int 42, .int 1, .ref 41]) (pm_q187_1 (Nat.le_of_ble_eq_true rfl)) rfl rfl ?_
              refine pm_R_cv pm_M187 (pc_q := 189) (a := 41) (ra := [.int 0, .int 16, .int 3, .int 42, .int 1]) (rest := []) (ls_q := [.ref 41, .int 1, .int 42, .int 3, .int 16, .int 0, pm_no, pm_no]) (pm_q187_1 (Nat.le_of_ble_eq_true rfl)) rfl (Or.inl rfl) pm_M185 T3109.2.1 rfl (by decide) (Nat.lt_of_lt_of_le (by decide) T3109.1) rfl rfl (Nat.le_of_ble_eq_true rfl) rfl rfl ?_
              have e3147 := (F3110.cell (by decide) (F3058.cell (by decide) (F2727.cell (by decide) (F2676.cell (by decide) (F2660.cell (by decide) e3)))))
              refine rf_c185_s (d := d + 2) T3109 (⟨f2, e3147, ct4, fun z => (sf_pos (sf_eqT X3113 (sf_eqT X3061 B2732)) (by decide) z)⟩) (fun z => sf_pos (sf_eqT X3113 (sf_eqT X3061 B2732)) (by decide) z) (fun m3150 w3151 h3152 T3153 F3154 W3155 X3156 => ?_)
              have F3157 := F3137.trans F3154 (by decide)
              have B3158 : sf_B 0 600 (m3150 10) := by rw [W3155 10 (by decide)]; exact B3139
              have ek3159 : (m3150 10).toInt = ((m3106 10)).toInt := by rw [W3155 10 (by decide)]
              have B3160 : sf_B 0 4 (m3150 13) := by rw [W3155 13 (by decide)]; exact B3140
              have ek3161 : (m3150 13).toInt = ((m3106 13)).toInt := by rw [W3155 13 (by decide)]
              have B3162 : sf_B 1 4 (m3150 17) := by rw [W3155 17 (by decide)]; exact (sf_eqT X3113 (sf_eqT X3061 B2732))
              have ek3163 : (m3150 17).toInt = ((m3054 17)).toInt := by rw [W3155 17 (by decide)]; exact X3113
              have B3164 : sf_B 0 0 (m3150 22) := by rw [W3155 22 (by decide)]; exact (sf_eqT X3114 (sf_eqT X3062 B2733))
              have ek3165 : (m3150 22).toInt = ((m3054 22)).toInt := by rw [W3155 22 (by decide)]; exact X3114
              have W3166 : rf_W [10, 12, 13, 14, 16, 17, 18, 22] m m3150 := W3138.trans W3155 (by decide)
              show pm_R _ 187 189 [.ref 41, .long a0, pm_no, .int a1] [] _ _
              obtain ⟨f3167, e3168, ct3169, bd3170⟩ := X3156
              refine pm_R_op pm_M187 (pc_q := 190) (st_q := [.int 1]) (pm_q187_1 (Nat.le_of_ble_eq_true rfl)) rfl rfl ?_
              exact pm_R_ret pm_M187 (r := some (.int 1)) (pm_q187_1 (Nat.le_of_ble_eq_true rfl)) rfl (K1 m3150 w3151 h3152 T3153 F3157 W3166 (⟨f3167, e3168, ct3169, fun z => (sf_pos B3162 (by decide) z)⟩) (sf_aux39 _ _ _ ek3159 R3143))
            · have F3171 := F3085.trans F3123 (by decide)
              have W3172 : rf_W [10, 12, 13, 14, 16, 17, 18, 22] m m3119 := W3086.trans W3124 (by decide)
              have B3173 : sf_B 0 600 (m3119 10) := T3122.2.2.1 10
              have B3174 : sf_B 0 4 (m3119 13) := T3122.2.2.1 13
              have B3175 : sf_B 0 4 (m3119 17) := T3122.2.2.1 17
              have B3176 : sf_B 0 1 (m3119 22) := T3122.2.2.1 22
              show pm_R _ 187 173 [.ref 41, .long a0, pm_no, .int a1] [.int 1] _ _
              have R3177 : (m 10).toInt ≤ (m3119 10).toInt := (sf_aux70 _ _ _ R3091 X3127)
              obtain ⟨v3178, B3179, e3180⟩ := X3125 _ e3094
              refine pm_R_br pm_M187 (pc_q := 178) (st_q := []) (pm_q187_1 (Nat.le_of_ble_eq_true rfl)) rfl ?_
              refine pm_R_lo pm_M187 (pc_q := 179) (pm_q187_1 (Nat.le_of_ble_eq_true rfl)) rfl rfl ?_
              refine pm_R_op pm_M187 (pc_q := 180) (st_q := [.int 1, .ref 41]) (pm_q187_1 (Nat.le_of_ble_eq_true rfl)) rfl rfl ?_
              refine pm_R_op pm_M187 (pc_q := 182) (st_q := [.int 42, .int 1, .ref 41]) (pm_q187_1 (Nat.le_of_ble_eq_true rfl)) rfl rfl ?_
              refine pm_R_op pm_M187 (pc_q := 183) (st_q := [.int 3, .int 42, .int 1, .ref 41]) (pm_q187_1 (Nat.le_of_ble_eq_true rfl)) rfl rfl ?_
              refine pm_R_op pm_M187 (pc_q := 185) (st_q := [.int 16, .int 3, .int 42, .int 1, .ref 41]) (pm_q187_1 (Nat.le_of_ble_eq_true rfl)) rfl rfl ?_
              refine pm_R_op pm_M187 (pc_q := 186) (st_q := [.int 0, .int 16, .int 3, .int 42, .int 1, .ref 41]) (pm_q187_1 (Nat.le_of_ble_eq_true rfl)) rfl rfl ?_
              refine pm_R_cv pm_M187 (pc_q := 189) (a := 41) (ra := [.int 0, .int 16, .int 3, .int 42, .int 1]) (rest := []) (ls_q := [.ref 41, .int 1, .int 42, .int 3, .int 16, .int 0, pm_no, pm_no]) (pm_q187_1 (Nat.le_of_ble_eq_true rfl)) rfl (Or.inl rfl) pm_M185 T3122.2.1 rfl (by decide) (Nat.lt_of_lt_of_le (by decide) T3122.1) rfl rfl (Nat.le_of_ble_eq_true rfl) rfl rfl ?_
              have e3181 := (F3123.cell (by decide) (F3058.cell (by decide) (F2727.cell (by decide) (F2676.cell (by decide) (F2660.cell (by decide) e3)))))
              refine rf_c185_s (d := d + 2) T3122 (⟨f2, e3181, ct4, fun z => (sf_pos B3128 (by decide) z)⟩) (fun z => sf_pos B3128 (by decide) z) (fun m3184 w3185 h3186 T3187 F3188 W3189 X3190 => ?_)
              have F3191 := F3171.trans F3188 (by decide)
              have B3192 : sf_B 0 600 (m3184 10) := by rw [W3189 10 (by decide)]; exact B3173
              have ek3193 : (m3184 10).toInt = ((m3119 10)).toInt := by rw [W3189 10 (by decide)]
              have B3194 : sf_B 0 4 (m3184 13) := by rw [W3189 13 (by decide)]; exact B3174
              have ek3195 : (m3184 13).toInt = ((m3119 13)).toInt := by rw [W3189 13 (by decide)]
              have B3196 : sf_B 1 4 (m3184 17) := by rw [W3189 17 (by decide)]; exact B3128
              have ek3197 : (m3184 17).toInt = ((m3119 17)).toInt := by rw [W3189 17 (by decide)]
              have B3198 : sf_B 0 0 (m3184 22) := by rw [W3189 22 (by decide)]; exact B3129
              have ek3199 : (m3184 22).toInt = ((m3119 22)).toInt := by rw [W3189 22 (by decide)]
              have W3200 : rf_W [10, 12, 13, 14, 16, 17, 18, 22] m m3184 := W3172.trans W3189 (by decide)
              show pm_R _ 187 189 [.ref 41, .long a0, pm_no, .int a1] [] _ _
              obtain ⟨f3201, e3202, ct3203, bd3204⟩ := X3190
              refine pm_R_op pm_M187 (pc_q := 190) (st_q := [.int 1]) (pm_q187_1 (Nat.le_of_ble_eq_true rfl)) rfl rfl ?_
              exact pm_R_ret pm_M187 (r := some (.int 1)) (pm_q187_1 (Nat.le_of_ble_eq_true rfl)) rfl (K1 m3184 w3185 h3186 T3187 F3191 W3200 (⟨f3201, e3202, ct3203, fun z => (sf_pos B3196 (by decide) z)⟩) (sf_aux39 _ _ _ ek3193 R3177))
          · have F3205 := F3033.trans F3071 (by decide)
            have W3206 : rf_W [10, 12, 13, 14, 16, 17, 18, 22] m m3067 := W3034.trans W3072 (by decide)
            have B3207 : sf_B 0 600 (m3067 10) := T3070.2.2.1 10
            have B3208 : sf_B 0 4 (m3067 13) := T3070.2.2.1 13
            have B3209 : sf_B 0 4 (m3067 17) := T3070.2.2.1 17
            have B3210 : sf_B 0 1 (m3067 22) := T3070.2.2.1 22
            show pm_R _ 187 162 [.ref 41, .long a0, pm_no, .int a1] [.int 1] _ _
            have R3211 : (m 10).toInt ≤ (m3067 10).toInt := (sf_aux70 _ _ _ R3039 X3075)
            obtain ⟨v3212, B3213, e3214⟩ := X3073 _ e3042
            refine pm_R_br pm_M187 (pc_q := 165) (st_q := []) (pm_q187_1 (Nat.le_of_ble_eq_true rfl)) rfl ?_
            refine pm_R_lo pm_M187 (pc_q := 166) (pm_q187_1 (Nat.le_of_ble_eq_true rfl)) rfl rfl ?_
            refine pm_R_op pm_M187 (pc_q := 167) (st_q := [.int 2, .ref 41]) (pm_q187_1 (Nat.le_of_ble_eq_true rfl)) rfl rfl ?_
            refine pm_R_op pm_M187 (pc_q := 169) (st_q := [.int 49, .int 2, .ref 41]) (pm_q187_1 (Nat.le_of_ble_eq_true rfl)) rfl rfl ?_
            refine pm_R_op pm_M187 (pc_q := 170) (st_q := [.int (-1), .int 49, .int 2, .ref 41]) (pm_q187_1 (Nat.le_of_ble_eq_true rfl)) rfl rfl ?_
            refine pm_R_cv pm_M187 (pc_q := 173) (a := 41) (ra := [.int (-1), .int 49, .int 2]) (rest := []) (ls_q := [.ref 41, .int 2, .int 49, .int (-1)]) (pm_q187_1 (Nat.le_of_ble_eq_true rfl)) rfl (Or.inl rfl) pm_M183 T3070.2.1 rfl (by decide) (Nat.lt_of_lt_of_le (by decide) T3070.1) rfl rfl (Nat.le_of_ble_eq_true rfl) rfl rfl ?_
            refine rf_c183_2_49 (d := d + 0) T3070  (fun m3217 w3218 h3219 T3220 F3221 W3222 X3223 => ?_) (fun m3226 w3227 h3228 T3229 F3230 W3231 X3232 X3233 X3234 X3235 X3236 => ?_) (fun m3239 w3240 h3241 T3242 F3243 W3244 X3245 X3246 X3247 B3248 B3249 => ?_)
            · have F3250 := F3205.trans F3221 (by decide)
              have W3251 : rf_W [10, 12, 13, 14, 16, 17, 18, 22] m m3217 := W3206.trans W3222 (by decide)
              have B3252 : sf_B 0 600 (m3217 10) := T3220.2.2.1 10
              have B3253 : sf_B 0 4 (m3217 13) := T3220.2.2.1 13
              have B3254 : sf_B 0 4 (m3217 17) := T3220.2.2.1 17
              have B3255 : sf_B 0 1 (m3217 22) := T3220.2.2.1 22
              show pm_R _ 187 173 [.ref 41, .long a0, pm_no, .int a1] [.int 0] _ _
              have R3256 : (m 10).toInt ≤ (m3217 10).toInt := (sf_aux70 _ _ _ R3211 X3223)
              refine pm_R_br pm_M187 (pc_q := 176) (st_q := []) (pm_q187_1 (Nat.le_of_ble_eq_true rfl)) rfl ?_
              refine pm_R_op pm_M187 (pc_q := 177) (st_q := [.int 0]) (pm_q187_1 (Nat.le_of_ble_eq_true rfl)) rfl rfl ?_
              exact pm_R_ret pm_M187 (r := some (.int 0)) (pm_q187_1 (Nat.le_of_ble_eq_true rfl)) rfl (K0 m3217 w3218 h3219 T3220 F3250 W3251 (sf_aux51 _ _ R3256))
            · have F3257 := F3205.trans F3230 (by decide)
              have W3258 : rf_W [10, 12, 13, 14, 16, 17, 18, 22] m m3226 := W3206.trans W3231 (by decide)
              have B3259 : sf_B 0 600 (m3226 10) := T3229.2.2.1 10
              have B3260 : sf_B 0 4 (m3226 13) := T3229.2.2.1 13
              have B3261 : sf_B 0 4 (m3226 17) := T3229.2.2.1 17
              have B3262 : sf_B 0 1 (m3226 22) := T3229.2.2.1 22
              show pm_R _ 187 173 [.ref 41, .long a0, pm_no, .int a1] [.int 1] _ _
              have R3263 : (m 10).toInt ≤ (m3226 10).toInt := (sf_aux70 _ _ _ R3211 X3236)
              obtain ⟨v3264, B3265, e3266⟩ := X3232 _ e3214
              refine pm_R_br pm_M187 (pc_q := 178) (st_q := []) (pm_q187_1 (Nat.le_of_ble_eq_true rfl)) rfl ?_
              refine pm_R_lo pm_M187 (pc_q := 179) (pm_q187_1 (Nat.le_of_ble_eq_true rfl)) rfl rfl ?_
              refine pm_R_op pm_M187 (pc_q := 180) (st_q := [.int 1, .ref 41]) (pm_q187_1 (Nat.le_of_ble_eq_true rfl)) rfl rfl ?_
              refine pm_R_op pm_M187 (pc_q := 182) (st_q := [.int 42, .int 1, .ref 41]) (pm_q187_1 (Nat.le_of_ble_eq_true rfl)) rfl rfl ?_
              refine pm_R_op pm_M187 (pc_q := 183) (st_q := [.int 3, .int 42, .int 1, .ref 41]) (pm_q187_1 (Nat.le_of_ble_eq_true rfl)) rfl rfl ?_
              refine pm_R_op pm_M187 (pc_q := 185) (st_q := [.int 16, .int 3, .int 42, .int 1, .ref 41]) (pm_q187_1 (Nat.le_of_ble_eq_true rfl)) rfl rfl ?_
              refine pm_R_op pm_M187 (pc_q := 186) (st_q := [.int 0, .int 16, .int 3, .int 42, .int 1, .ref 41]) (pm_q187_1 (Nat.le_of_ble_eq_true rfl)) rfl rfl ?_
              refine pm_R_cv pm_M187 (pc_q := 189) (a := 41) (ra := [.int 0, .int 16, .int 3, .int 42, .int 1]) (rest := []) (ls_q := [.ref 41, .int 1, .int 42, .int 3, .int 16, .int 0, pm_no, pm_no]) (pm_q187_1 (Nat.le_of_ble_eq_true rfl)) rfl (Or.inl rfl) pm_M185 T3229.2.1 rfl (by decide) (Nat.lt_of_lt_of_le (by decide) T3229.1) rfl rfl (Nat.le_of_ble_eq_true rfl) rfl rfl ?_
              have e3267 := (F3230.cell (by decide) (F3071.cell (by decide) (F2727.cell (by decide) (F2676.cell (by decide) (F2660.cell (by decide) e3)))))
              refine rf_c185_s (d := d + 2) T3229 (⟨f2, e3267, ct4, fun z => (sf_pos (sf_eqT X3233 B3076) (by decide) z)⟩) (fun z => sf_pos (sf_eqT X3233 B3076) (by decide) z) (fun m3270 w3271 h3272 T3273 F3274 W3275 X3276 => ?_)
              have F3277 := F3257.trans F3274 (by decide)
              have B3278 : sf_B 0 600 (m3270 10) := by rw [W3275 10 (by decide)]; exact B3259
              have ek3279 : (m3270 10).toInt = ((m3226 10)).toInt := by rw [W3275 10 (by decide)]
              have B3280 : sf_B 0 4 (m3270 13) := by rw [W3275 13 (by decide)]; exact B3260
              have ek3281 : (m3270 13).toInt = ((m3226 13)).toInt := by rw [W3275 13 (by decide)]
              have B3282 : sf_B 1 4 (m3270 17) := by rw [W3275 17 (by decide)]; exact (sf_eqT X3233 B3076)
              have ek3283 : (m3270 17).toInt = ((m3067 17)).toInt := by rw [W3275 17 (by decide)]; exact X3233
              have B3284 : sf_B 0 0 (m3270 22) := by rw [W3275 22 (by decide)]; exact (sf_eqT X3234 B3077)
              have ek3285 : (m3270 22).toInt = ((m3067 22)).toInt := by rw [W3275 22 (by decide)]; exact X3234
              have W3286 : rf_W [10, 12, 13, 14, 16, 17, 18, 22] m m3270 := W3258.trans W3275 (by decide)
              show pm_R _ 187 189 [.ref 41, .long a0, pm_no, .int a1] [] _ _
              obtain ⟨f3287, e3288, ct3289, bd3290⟩ := X3276
              refine pm_R_op pm_M187 (pc_q := 190) (st_q := [.int 1]) (pm_q187_1 (Nat.le_of_ble_eq_true rfl)) rfl rfl ?_
              exact pm_R_ret pm_M187 (r := some (.int 1)) (pm_q187_1 (Nat.le_of_ble_eq_true rfl)) rfl (K1 m3270 w3271 h3272 T3273 F3277 W3286 (⟨f3287, e3288, ct3289, fun z => (sf_pos B3282 (by decide) z)⟩) (sf_aux39 _ _ _ ek3279 R3263))
            · have F3291 := F3205.trans F3243 (by decide)
              have W3292 : rf_W [10, 12, 13, 14, 16, 17, 18, 22] m m3239 := W3206.trans W3244 (by decide)
              have B3293 : sf_B 0 600 (m3239 10) := T3242.2.2.1 10
              have B3294 : sf_B 0 4 (m3239 13) := T3242.2.2.1 13
              have B3295 : sf_B 0 4 (m3239 17) := T3242.2.2.1 17
              have B3296 : sf_B 0 1 (m3239 22) := T3242.2.2.1 22
              show pm_R _ 187 173 [.ref 41, .long a0, pm_no, .int a1] [.int 1] _ _
              have R3297 : (m 10).toInt ≤ (m3239 10).toInt := (sf_aux70 _ _ _ R3211 X3247)
              obtain ⟨v3298, B3299, e3300⟩ := X3245 _ e3214
              refine pm_R_br pm_M187 (pc_q := 178) (st_q := []) (pm_q187_1 (Nat.le_of_ble_eq_true rfl)) rfl ?_
              refine pm_R_lo pm_M187 (pc_q := 179) (pm_q187_1 (Nat.le_of_ble_eq_true rfl)) rfl rfl ?_
              refine pm_R_op pm_M187 (pc_q := 180) (st_q := [.int 1, .ref 41]) (pm_q187_1 (Nat.le_of_ble_eq_true rfl)) rfl rfl ?_
              refine pm_R_op pm_M187 (pc_q := 182) (st_q := [.int 42, .int 1, .ref 41]) (pm_q187_1 (Nat.le_of_ble_eq_true rfl)) rfl rfl ?_
              refine pm_R_op pm_M187 (pc_q := 183) (st_q := [.int 3, .int 42, .int 1, .ref 41]) (pm_q187_1 (Nat.le_of_ble_eq_true rfl)) rfl rfl ?_
              refine pm_R_op pm_M187 (pc_q := 185) (st_q := [.int 16, .int 3, .int 42, .int 1, .ref 41]) (pm_q187_1 (Nat.le_of_ble_eq_true rfl)) rfl rfl ?_
              refine pm_R_op pm_M187 (pc_q := 186) (st_q := [.int 0, .int 16, .int 3, .int 42, .int 1, .ref 41]) (pm_q187_1 (Nat.le_of_ble_eq_true rfl)) rfl rfl ?_
              refine pm_R_cv pm_M187 (pc_q := 189) (a := 41) (ra := [.int 0, .int 16, .int 3, .int 42, .int 1]) (rest := []) (ls_q := [.ref 41, .int 1, .int 42, .int 3, .int 16, .int 0, pm_no, pm_no]) (pm_q187_1 (Nat.le_of_ble_eq_true rfl)) rfl (Or.inl rfl) pm_M185 T3242.2.1 rfl (by decide) (Nat.lt_of_lt_of_le (by decide) T3242.1) rfl rfl (Nat.le_of_ble_eq_true rfl) rfl rfl ?_
              have e3301 := (F3243.cell (by decide) (F3071.cell (by decide) (F2727.cell (by decide) (F2676.cell (by decide) (F2660.cell (by decide) e3)))))
              refine rf_c185_s (d := d + 2) T3242 (⟨f2, e3301, ct4, fun z => (sf_pos B3248 (by decide) z)⟩) (fun z => sf_pos B3248 (by decide) z) (fun m3304 w3305 h3306 T3307 F3308 W3309 X3310 => ?_)
              have F3311 := F3291.trans F3308 (by decide)
              have B3312 : sf_B 0 600 (m3304 10) := by rw [W3309 10 (by decide)]; exact B3293
              have ek3313 : (m3304 10).toInt = ((m3239 10)).toInt := by rw [W3309 10 (by decide)]
              have B3314 : sf_B 0 4 (m3304 13) := by rw [W3309 13 (by decide)]; exact B3294
              have ek3315 : (m3304 13).toInt = ((m3239 13)).toInt := by rw [W3309 13 (by decide)]
              have B3316 : sf_B 1 4 (m3304 17) := by rw [W3309 17 (by decide)]; exact B3248
              have ek3317 : (m3304 17).toInt = ((m3239 17)).toInt := by rw [W3309 17 (by decide)]
              have B3318 : sf_B 0 0 (m3304 22) := by rw [W3309 22 (by decide)]; exact B3249
              have ek3319 : (m3304 22).toInt = ((m3239 22)).toInt := by rw [W3309 22 (by decide)]
              have W3320 : rf_W [10, 12, 13, 14, 16, 17, 18, 22] m m3304 := W3292.trans W3309 (by decide)
              show pm_R _ 187 189 [.ref 41, .long a0, pm_no, .int a1] [] _ _
              obtain ⟨f3321, e3322, ct3323, bd3324⟩ := X3310
              refine pm_R_op pm_M187 (pc_q := 190) (st_q := [.int 1]) (pm_q187_1 (Nat.le_of_ble_eq_true rfl)) rfl rfl ?_
              exact pm_R_ret pm_M187 (r := some (.int 1)) (pm_q187_1 (Nat.le_of_ble_eq_true rfl)) rfl (K1 m3304 w3305 h3306 T3307 F3311 W3320 (⟨f3321, e3322, ct3323, fun z => (sf_pos B3316 (by decide) z)⟩) (sf_aux39 _ _ _ ek3313 R3297))
    · have k3325 := sf_lneC e1984 c1985
      refine pm_R_lo pm_M187 (pc_q := 17) rfl rfl rfl ?_
      refine pm_R_ldc2 pm_M187 (pc_q := 20) rfl rfl rfl ?_
      refine sf_R_lcmp pm_M187 (pc_q := 21) rfl rfl (fun z3326 e3327 => ?_)
      refine pm_R_ifc pm_M187 (t := 29) (pc_q := 24) rfl rfl rfl (fun c3328 => ?_) (fun c3328 => ?_)
      · have B3329 : sf_B 0 0 z3326 := sf_eqL c3328 sf_k0
        have B3330 : lf_B 1852137842 1852137842 a0 := lf_eqB e3327 B3329 (⟨by decide, by decide⟩ : lf_B 1852137842 1852137842 1852137842)
        refine pm_R_lo pm_M187 (pc_q := 30) rfl rfl rfl ?_
        refine pm_R_ldc2 pm_M187 (pc_q := 33) rfl rfl rfl ?_
        refine pm_R_op pm_M187 (pc_q := 34) (st_q := [.int z7]) rfl (by show some (Value.int (lg_cmp a0 1920298085) :: _) = _; rw [← e8]) rfl ?_
        refine pm_R_ifc pm_M187 (t := 48) (pc_q := 37) rfl rfl rfl (fun c3333 => ?_) (fun c3333 => absurd (Classical.not_not.mp c3333) c9)
        have k3334 := sf_lneC e8 c3333
        refine pm_R_lo pm_M187 (pc_q := 49) rfl rfl rfl ?_
        refine pm_R_ldc2 pm_M187 (pc_q := 52) rfl rfl rfl ?_
        refine pm_R_op pm_M187 (pc_q := 53) (st_q := [.int z1983]) rfl (by show some (Value.int (lg_cmp a0 1936287598) :: _) = _; rw [← e1984]) rfl ?_
        refine pm_R_ifc pm_M187 (t := 73) (pc_q := 56) rfl rfl rfl (fun c3337 => ?_) (fun c3337 => absurd (Classical.not_not.mp c3337) c1985)
        have k3338 := sf_lneC e1984 c3337
        refine pm_R_lo pm_M187 (pc_q := 74) rfl rfl rfl ?_
        refine pm_R_cv pm_M187 (pc_q := 77) (a := 41) (ra := []) (rest := []) (ls_q := [.ref 41, pm_no, pm_no]) rfl rfl (Or.inl rfl) pm_M179 T.2.1 rfl (by decide) (Nat.lt_of_lt_of_le (by decide) T.1) rfl rfl (Nat.le_of_ble_eq_true rfl) rfl rfl ?_
        refine rf_c179 (d := d + 1) T  (fun m3341 w3342 h3343 T3344 F3345 W3346 X3347 X3348 => ?_)
        have F3349 := (rf_G.refl [41, 51, 52] h).trans F3345 (by decide)
        have B3350 : sf_B 0 4 (m3341 17) := by rw [W3346 17 (by decide)]; exact B6
        have ek3351 : (m3341 17).toInt = ((m 17)).toInt := by rw [W3346 17 (by decide)]
        have W3352 : rf_W [10, 12, 13, 14, 16, 17, 18, 22] m m3341 := (rf_W.refl [10, 12, 13, 14, 16, 17, 18, 22] m).trans W3346 (by decide)
        have B3353 : sf_B 0 600 (m3341 10) := T3344.2.2.1 10
        have B3354 : sf_B 0 4 (m3341 13) := T3344.2.2.1 13
        have B3355 : sf_B 0 1 (m3341 22) := T3344.2.2.1 22
        show pm_R _ 187 77 [.ref 41, .long a0, pm_no, .int a1] [] _ _
        have R3356 : (m 10).toInt ≤ (m3341 10).toInt := (sf_aux51 _ _ X3347)
        refine pm_R_lo pm_M187 (pc_q := 78) rfl rfl rfl ?_
        refine pm_R_ldc2 pm_M187 (pc_q := 81) rfl rfl rfl ?_
        refine pm_R_op pm_M187 (pc_q := 82) (st_q := [.int z7]) rfl (by show some (Value.int (lg_cmp a0 1920298085) :: _) = _; rw [← e8]) rfl ?_
        refine pm_R_ifc pm_M187 (t := 136) (pc_q := 85) rfl rfl rfl (fun c3359 => ?_) (fun c3359 => absurd (Classical.not_not.mp c3359) c9)
        have k3360 := sf_lneC e8 c3359
        refine pm_R_lo pm_M187 (pc_q := 137) (pm_q187_1 (Nat.le_of_ble_eq_true rfl)) rfl rfl ?_
        refine pm_R_ldc2 pm_M187 (pc_q := 140) (pm_q187_1 (Nat.le_of_ble_eq_true rfl)) rfl rfl ?_
        refine pm_R_op pm_M187 (pc_q := 141) (st_q := [.int z1983]) (pm_q187_1 (Nat.le_of_ble_eq_true rfl)) (by show some (Value.int (lg_cmp a0 1936287598) :: _) = _; rw [← e1984]) rfl ?_
        refine pm_R_ifc pm_M187 (t := 191) (pc_q := 144) (pm_q187_1 (Nat.le_of_ble_eq_true rfl)) rfl rfl (fun c3363 => ?_) (fun c3363 => absurd (Classical.not_not.mp c3363) c1985)
        have k3364 := sf_lneC e1984 c3363
        refine pm_R_lo pm_M187 (pc_q := 192) (pm_q187_1 (Nat.le_of_ble_eq_true rfl)) rfl rfl ?_
        refine pm_R_op pm_M187 (pc_q := 193) (st_q := [.int 0, .ref 41]) (pm_q187_1 (Nat.le_of_ble_eq_true rfl)) rfl rfl ?_
        refine pm_R_op pm_M187 (pc_q := 195) (st_q := [.int 9, .int 0, .ref 41]) (pm_q187_1 (Nat.le_of_ble_eq_true rfl)) rfl rfl ?_
        refine pm_R_op pm_M187 (pc_q := 196) (st_q := [.int (-1), .int 9, .int 0, .ref 41]) (pm_q187_1 (Nat.le_of_ble_eq_true rfl)) rfl rfl ?_
        refine pm_R_cv pm_M187 (pc_q := 199) (a := 41) (ra := [.int (-1), .int 9, .int 0]) (rest := []) (ls_q := [.ref 41, .int 0, .int 9, .int (-1)]) (pm_q187_1 (Nat.le_of_ble_eq_true rfl)) rfl (Or.inl rfl) pm_M183 T3344.2.1 rfl (by decide) (Nat.lt_of_lt_of_le (by decide) T3344.1) rfl rfl (Nat.le_of_ble_eq_true rfl) rfl rfl ?_
        obtain ⟨f3365, e3366, b3367⟩ := T3344.2.2.2.1 52 (by decide) (by decide)
        refine rf_c183_0_9 (d := d + 0) T3344  (fun m3370 w3371 h3372 T3373 F3374 W3375 X3376 => ?_) (fun m3379 w3380 h3381 T3382 F3383 W3384 X3385 X3386 X3387 X3388 X3389 => ?_) (fun m3392 w3393 h3394 T3395 F3396 W3397 X3398 X3399 X3400 B3401 B3402 => ?_)
        · have F3403 := F3349.trans F3374 (by decide)
          have W3404 : rf_W [10, 12, 13, 14, 16, 17, 18, 22] m m3370 := W3352.trans W3375 (by decide)
          have B3405 : sf_B 0 600 (m3370 10) := T3373.2.2.1 10
          have B3406 : sf_B 0 4 (m3370 13) := T3373.2.2.1 13
          have B3407 : sf_B 0 4 (m3370 17) := T3373.2.2.1 17
          have B3408 : sf_B 0 1 (m3370 22) := T3373.2.2.1 22
          show pm_R _ 187 199 [.ref 41, .long a0, pm_no, .int a1] [.int 0] _ _
          have R3409 : (m 10).toInt ≤ (m3370 10).toInt := (sf_aux70 _ _ _ R3356 X3376)
          refine pm_R_br pm_M187 (pc_q := 218) (st_q := []) (pm_q187_1 (Nat.le_of_ble_eq_true rfl)) rfl ?_
          refine pm_R_op pm_M187 (pc_q := 219) (st_q := [.int 0]) (pm_q187_2 (Nat.le_of_ble_eq_true rfl)) rfl rfl ?_
          exact pm_R_ret pm_M187 (r := some (.int 0)) (pm_q187_2 (Nat.le_of_ble_eq_true rfl)) rfl (K0 m3370 w3371 h3372 T3373 F3403 W3404 (sf_aux51 _ _ R3409))
        · have F3410 := F3349.trans F3383 (by decide)
          have W3411 : rf_W [10, 12, 13, 14, 16, 17, 18, 22] m m3379 := W3352.trans W3384 (by decide)
          have B3412 : sf_B 0 600 (m3379 10) := T3382.2.2.1 10
          have B3413 : sf_B 0 4 (m3379 13) := T3382.2.2.1 13
          have B3414 : sf_B 0 4 (m3379 17) := T3382.2.2.1 17
          have B3415 : sf_B 0 1 (m3379 22) := T3382.2.2.1 22
          show pm_R _ 187 199 [.ref 41, .long a0, pm_no, .int a1] [.int 1] _ _
          have R3416 : (m 10).toInt ≤ (m3379 10).toInt := (sf_aux70 _ _ _ R3356 X3389)
          obtain ⟨v3417, B3418, e3419⟩ := X3385 _ e3366
          refine pm_R_br pm_M187 (pc_q := 202) (st_q := []) (pm_q187_1 (Nat.le_of_ble_eq_true rfl)) rfl ?_
          refine pm_R_lo pm_M187 (pc_q := 203) (pm_q187_1 (Nat.le_of_ble_eq_true rfl)) rfl rfl ?_
          refine pm_R_op pm_M187 (pc_q := 204) (st_q := [.int 1, .ref 41]) (pm_q187_1 (Nat.le_of_ble_eq_true rfl)) rfl rfl ?_
          refine pm_R_op pm_M187 (pc_q := 206) (st_q := [.int 9, .int 1, .ref 41]) (pm_q187_1 (Nat.le_of_ble_eq_true rfl)) rfl rfl ?_
          refine pm_R_lo pm_M187 (pc_q := 207) (pm_q187_1 (Nat.le_of_ble_eq_true rfl)) rfl rfl ?_
          refine rf_R_get pm_M187 T3382 (pc_q := 210) (v := .ref 52) (pm_q187_2 (Nat.le_of_ble_eq_true rfl)) rfl rfl rfl ?_
          refine pm_R_op pm_M187 (pc_q := 211) (st_q := [.int 0, .ref 52, .int 9, .int 1, .ref 41]) (pm_q187_2 (Nat.le_of_ble_eq_true rfl)) rfl rfl ?_
          refine pm_R_iald pm_M187 (pc_q := 212) (v := v3417) (pm_q187_2 (Nat.le_of_ble_eq_true rfl)) e3419 (Nat.lt_of_lt_of_le (by decide) T3382.1) rfl sf_upd_eq rfl ?_
          refine pm_R_cv pm_M187 (pc_q := 215) (a := 41) (ra := [.int v3417, .int 9, .int 1]) (rest := []) (ls_q := [.ref 41, .int 1, .int 9, .int v3417]) (pm_q187_2 (Nat.le_of_ble_eq_true rfl)) rfl (Or.inl rfl) pm_M183 T3382.2.1 rfl (by decide) (Nat.lt_of_lt_of_le (by decide) T3382.1) rfl rfl (Nat.le_of_ble_eq_true rfl) rfl rfl ?_
          refine rf_c183_1_9 (d := d + 0) T3382  (fun m3424 w3425 h3426 T3427 F3428 W3429 X3430 => ?_) (fun m3433 w3434 h3435 T3436 F3437 W3438 X3439 X3440 X3441 X3442 X3443 => ?_) (fun m3446 w3447 h3448 T3449 F3450 W3451 X3452 X3453 X3454 B3455 B3456 => ?_)
          · have F3457 := F3410.trans F3428 (by decide)
            have W3458 : rf_W [10, 12, 13, 14, 16, 17, 18, 22] m m3424 := W3411.trans W3429 (by decide)
            have B3459 : sf_B 0 600 (m3424 10) := T3427.2.2.1 10
            have B3460 : sf_B 0 4 (m3424 13) := T3427.2.2.1 13
            have B3461 : sf_B 0 4 (m3424 17) := T3427.2.2.1 17
            have B3462 : sf_B 0 1 (m3424 22) := T3427.2.2.1 22
            show pm_R _ 187 215 [.ref 41, .long a0, pm_no, .int a1] [.int 0] _ _
            have R3463 : (m 10).toInt ≤ (m3424 10).toInt := (sf_aux70 _ _ _ R3416 X3430)
            refine pm_R_br pm_M187 (pc_q := 218) (st_q := []) (pm_q187_2 (Nat.le_of_ble_eq_true rfl)) rfl ?_
            refine pm_R_op pm_M187 (pc_q := 219) (st_q := [.int 0]) (pm_q187_2 (Nat.le_of_ble_eq_true rfl)) rfl rfl ?_
            exact pm_R_ret pm_M187 (r := some (.int 0)) (pm_q187_2 (Nat.le_of_ble_eq_true rfl)) rfl (K0 m3424 w3425 h3426 T3427 F3457 W3458 (sf_aux51 _ _ R3463))
          · have F3464 := F3410.trans F3437 (by decide)
            have W3465 : rf_W [10, 12, 13, 14, 16, 17, 18, 22] m m3433 := W3411.trans W3438 (by decide)
            have B3466 : sf_B 0 600 (m3433 10) := T3436.2.2.1 10
            have B3467 : sf_B 0 4 (m3433 13) := T3436.2.2.1 13
            have B3468 : sf_B 0 4 (m3433 17) := T3436.2.2.1 17
            have B3469 : sf_B 0 1 (m3433 22) := T3436.2.2.1 22
            show pm_R _ 187 215 [.ref 41, .long a0, pm_no, .int a1] [.int 1] _ _
            have R3470 : (m 10).toInt ≤ (m3433 10).toInt := (sf_aux70 _ _ _ R3416 X3443)
            obtain ⟨v3471, B3472, e3473⟩ := X3439 _ e3419
            refine pm_R_br pm_M187 (pc_q := 220) (st_q := []) (pm_q187_2 (Nat.le_of_ble_eq_true rfl)) rfl ?_
            refine pm_R_lo pm_M187 (pc_q := 221) (pm_q187_2 (Nat.le_of_ble_eq_true rfl)) rfl rfl ?_
            refine rf_R_get pm_M187 T3436 (pc_q := 224) (v := .int (m3341 22)) (pm_q187_2 (Nat.le_of_ble_eq_true rfl)) rfl (congrArg (fun z => some (Value.int z)) (Int32.toInt_inj.mp (sf_aux72 _ _ _ X3387 X3441))) rfl ?_
            refine pm_R_ifc pm_M187 (t := 252) (pc_q := 227) (pm_q187_2 (Nat.le_of_ble_eq_true rfl)) rfl rfl (fun c3474 => ?_) (fun c3474 => ?_)
            · have B3475 : sf_B 0 0 (m3341 22) := sf_eqL c3474 sf_k0
              refine pm_R_op pm_M187 (pc_q := 253) (st_q := [.int 1]) (pm_q187_2 (Nat.le_of_ble_eq_true rfl)) rfl rfl ?_
              have e3476 := (F3437.cell (by decide) (F3383.cell (by decide) (F3345.cell (by decide) e3)))
              exact pm_R_ret pm_M187 (r := some (.int 1)) (pm_q187_2 (Nat.le_of_ble_eq_true rfl)) rfl (K1 m3433 w3434 h3435 T3436 F3464 W3465 (⟨f2, e3476, ct4, fun z => (bd5 (sf_aux73 _ _ _ _ ek3351 X3386 X3440 z))⟩) (sf_aux51 _ _ R3470))
            · have B3477 : sf_B 1 1 (m3341 22) := sf_neL0 c3474 sf_k0 B3355
              refine pm_R_lo pm_M187 (pc_q := 228) (pm_q187_2 (Nat.le_of_ble_eq_true rfl)) rfl rfl ?_
              refine rf_R_get pm_M187 T3436 (pc_q := 231) (v := .ref 51) (pm_q187_2 (Nat.le_of_ble_eq_true rfl)) rfl rfl rfl ?_
              refine pm_R_op pm_M187 (pc_q := 233) (st_q := [.int 90, .ref 51]) (pm_q187_2 (Nat.le_of_ble_eq_true rfl)) rfl rfl ?_
              refine pm_R_lo pm_M187 (pc_q := 234) (pm_q187_2 (Nat.le_of_ble_eq_true rfl)) rfl rfl ?_
              refine rf_R_get pm_M187 T3436 (pc_q := 237) (v := .ref 52) (pm_q187_2 (Nat.le_of_ble_eq_true rfl)) rfl rfl rfl ?_
              refine pm_R_op pm_M187 (pc_q := 238) (st_q := [.int 0, .ref 52, .int 90, .ref 51]) (pm_q187_2 (Nat.le_of_ble_eq_true rfl)) rfl rfl ?_
              refine pm_R_iald pm_M187 (pc_q := 239) (v := v3417) (pm_q187_2 (Nat.le_of_ble_eq_true rfl)) e3473 (Nat.lt_of_lt_of_le (by decide) T3436.1) rfl (Eq.trans (sf_upd_nec (k := Int32.toNatClampNeg 1) (j := Int32.toNatClampNeg 0) (by decide)) sf_upd_eq) rfl ?_
              refine sf_R_iadd pm_M187 (pc_q := 240) (pm_q187_2 (Nat.le_of_ble_eq_true rfl)) rfl sf_k90 B3418 (by decide) (by decide) (fun z3480 e3481 B3482 => ?_)
              refine pm_R_op pm_M187 (pc_q := 241) (st_q := [.int z3480, .ref 51, .int z3480, .ref 51]) (pm_q187_2 (Nat.le_of_ble_eq_true rfl)) rfl rfl ?_
              have e3483 := (F3437.cell (by decide) (F3383.cell (by decide) (F3345.cell (by decide) e3)))
              refine rf_R_ild pm_M187 T3436 (pc_q := 242) (pm_q187_2 (Nat.le_of_ble_eq_true rfl)) e3483 (by decide) (sf_in B3482 (by decide) (by decide)) rfl (fun z3484 ez3485 => ?_)
              refine pm_R_op pm_M187 (pc_q := 243) (st_q := [.int 1, .int z3484, .int z3480, .ref 51]) (pm_q187_2 (Nat.le_of_ble_eq_true rfl)) rfl rfl ?_
              refine pm_R_lo pm_M187 (pc_q := 244) (pm_q187_2 (Nat.le_of_ble_eq_true rfl)) rfl rfl ?_
              refine rf_R_get pm_M187 T3436 (pc_q := 247) (v := .ref 52) (pm_q187_2 (Nat.le_of_ble_eq_true rfl)) rfl rfl rfl ?_
              refine pm_R_op pm_M187 (pc_q := 248) (st_q := [.int 1, .ref 52, .int 1, .int z3484, .int z3480, .ref 51]) (pm_q187_2 (Nat.le_of_ble_eq_true rfl)) rfl rfl ?_
              refine pm_R_iald pm_M187 (pc_q := 249) (v := v3471) (pm_q187_2 (Nat.le_of_ble_eq_true rfl)) e3473 (Nat.lt_of_lt_of_le (by decide) T3436.1) rfl sf_upd_eq rfl ?_
              refine sf_R_iany pm_M187 (pc_q := 250) (st := [.int z3484, .int z3480, .ref 51]) (pm_q187_2 (Nat.le_of_ble_eq_true rfl)) rfl rfl (fun z3491 => ?_)
              refine sf_R_iany pm_M187 (pc_q := 251) (st := [.int z3480, .ref 51]) (pm_q187_2 (Nat.le_of_ble_eq_true rfl)) rfl rfl (fun z3495 => ?_)
              refine rf_R_ist pm_M187 T3436 (pc_q := 252) (pm_q187_2 (Nat.le_of_ble_eq_true rfl)) e3483 (by decide) (by decide) (sf_in B3482 (by decide) (by decide)) ⟨_, rfl⟩ rfl (fun h3496 T3497 F3498 e3499 => ?_)
              have F3500 := F3464.trans F3498 (by decide)
              have ct3501 : rf_ct 0 (upd f2 (Int32.toNatClampNeg z3480) z3495) := ⟨(sf_eqL (Eq.trans (sf_upd_ne (j := Int32.toNatClampNeg 0) B3482 (by decide) (by decide)) rfl) ct4.1), (sf_eqL (Eq.trans (sf_upd_ne (j := Int32.toNatClampNeg 1) B3482 (by decide) (by decide)) rfl) ct4.2)⟩
              have bd3502 : (m3433 17).toInt = 0 → rf_bd 0 (upd f2 (Int32.toNatClampNeg z3480) z3495) := fun z => ((bd5 (sf_aux73 _ _ _ _ ek3351 X3386 X3440 z)).set (k := z3480) (sf_any _) (rf_w0n (sf_aux74 _ _ e3481) B3418).1 (rf_w0n (sf_aux74 _ _ e3481) B3418).2)
              refine pm_R_op pm_M187 (pc_q := 253) (st_q := [.int 1]) (pm_q187_2 (Nat.le_of_ble_eq_true rfl)) rfl rfl ?_
              exact pm_R_ret pm_M187 (r := some (.int 1)) (pm_q187_2 (Nat.le_of_ble_eq_true rfl)) rfl (K1 m3433 w3434 h3496 T3497 F3500 W3465 (⟨(upd f2 (Int32.toNatClampNeg z3480) z3495), e3499, ct3501, fun z => (bd3502 z)⟩) (sf_aux51 _ _ R3470))
          · have F3503 := F3410.trans F3450 (by decide)
            have W3504 : rf_W [10, 12, 13, 14, 16, 17, 18, 22] m m3446 := W3411.trans W3451 (by decide)
            have B3505 : sf_B 0 600 (m3446 10) := T3449.2.2.1 10
            have B3506 : sf_B 0 4 (m3446 13) := T3449.2.2.1 13
            have B3507 : sf_B 0 4 (m3446 17) := T3449.2.2.1 17
            have B3508 : sf_B 0 1 (m3446 22) := T3449.2.2.1 22
            show pm_R _ 187 215 [.ref 41, .long a0, pm_no, .int a1] [.int 1] _ _
            have R3509 : (m 10).toInt ≤ (m3446 10).toInt := (sf_aux70 _ _ _ R3416 X3454)
            obtain ⟨v3510, B3511, e3512⟩ := X3452 _ e3419
            refine pm_R_br pm_M187 (pc_q := 220) (st_q := []) (pm_q187_2 (Nat.le_of_ble_eq_true rfl)) rfl ?_
            refine pm_R_lo pm_M187 (pc_q := 221) (pm_q187_2 (Nat.le_of_ble_eq_true rfl)) rfl rfl ?_
            refine rf_R_get pm_M187 T3449 (pc_q := 224) (v := .int (m3446 22)) (pm_q187_2 (Nat.le_of_ble_eq_true rfl)) rfl rfl rfl ?_
            refine pm_R_ifc pm_M187 (t := 252) (pc_q := 227) (pm_q187_2 (Nat.le_of_ble_eq_true rfl)) rfl rfl (fun c3513 => ?_) (fun c3513 => absurd (sf_pt2 B3456 sf_k0) c3513)
            refine pm_R_op pm_M187 (pc_q := 253) (st_q := [.int 1]) (pm_q187_2 (Nat.le_of_ble_eq_true rfl)) rfl rfl ?_
            have e3514 := (F3450.cell (by decide) (F3383.cell (by decide) (F3345.cell (by decide) e3)))
            exact pm_R_ret pm_M187 (r := some (.int 1)) (pm_q187_2 (Nat.le_of_ble_eq_true rfl)) rfl (K1 m3446 w3447 h3448 T3449 F3503 W3504 (⟨f2, e3514, ct4, fun z => (sf_pos B3455 (by decide) z)⟩) (sf_aux51 _ _ R3509))
        · have F3515 := F3349.trans F3396 (by decide)
          have W3516 : rf_W [10, 12, 13, 14, 16, 17, 18, 22] m m3392 := W3352.trans W3397 (by decide)
          have B3517 : sf_B 0 600 (m3392 10) := T3395.2.2.1 10
          have B3518 : sf_B 0 4 (m3392 13) := T3395.2.2.1 13
          have B3519 : sf_B 0 4 (m3392 17) := T3395.2.2.1 17
          have B3520 : sf_B 0 1 (m3392 22) := T3395.2.2.1 22
          show pm_R _ 187 199 [.ref 41, .long a0, pm_no, .int a1] [.int 1] _ _
          have R3521 : (m 10).toInt ≤ (m3392 10).toInt := (sf_aux70 _ _ _ R3356 X3400)
          obtain ⟨v3522, B3523, e3524⟩ := X3398 _ e3366
          refine pm_R_br pm_M187 (pc_q := 202) (st_q := []) (pm_q187_1 (Nat.le_of_ble_eq_true rfl)) rfl ?_
          refine pm_R_lo pm_M187 (pc_q := 203) (pm_q187_1 (Nat.le_of_ble_eq_true rfl)) rfl rfl ?_
          refine pm_R_op pm_M187 (pc_q := 204) (st_q := [.int 1, .ref 41]) (pm_q187_1 (Nat.le_of_ble_eq_true rfl)) rfl rfl ?_
          refine pm_R_op pm_M187 (pc_q := 206) (st_q := [.int 9, .int 1, .ref 41]) (pm_q187_1 (Nat.le_of_ble_eq_true rfl)) rfl rfl ?_
          refine pm_R_lo pm_M187 (pc_q := 207) (pm_q187_1 (Nat.le_of_ble_eq_true rfl)) rfl rfl ?_
          refine rf_R_get pm_M187 T3395 (pc_q := 210) (v := .ref 52) (pm_q187_2 (Nat.le_of_ble_eq_true rfl)) rfl rfl rfl ?_
          refine pm_R_op pm_M187 (pc_q := 211) (st_q := [.int 0, .ref 52, .int 9, .int 1, .ref 41]) (pm_q187_2 (Nat.le_of_ble_eq_true rfl)) rfl rfl ?_
          refine pm_R_iald pm_M187 (pc_q := 212) (v := v3522) (pm_q187_2 (Nat.le_of_ble_eq_true rfl)) e3524 (Nat.lt_of_lt_of_le (by decide) T3395.1) rfl sf_upd_eq rfl ?_
          refine pm_R_cv pm_M187 (pc_q := 215) (a := 41) (ra := [.int v3522, .int 9, .int 1]) (rest := []) (ls_q := [.ref 41, .int 1, .int 9, .int v3522]) (pm_q187_2 (Nat.le_of_ble_eq_true rfl)) rfl (Or.inl rfl) pm_M183 T3395.2.1 rfl (by decide) (Nat.lt_of_lt_of_le (by decide) T3395.1) rfl rfl (Nat.le_of_ble_eq_true rfl) rfl rfl ?_
          refine rf_c183_1_9 (d := d + 0) T3395  (fun m3529 w3530 h3531 T3532 F3533 W3534 X3535 => ?_) (fun m3538 w3539 h3540 T3541 F3542 W3543 X3544 X3545 X3546 X3547 X3548 => ?_) (fun m3551 w3552 h3553 T3554 F3555 W3556 X3557 X3558 X3559 B3560 B3561 => ?_)
          · have F3562 := F3515.trans F3533 (by decide)
            have W3563 : rf_W [10, 12, 13, 14, 16, 17, 18, 22] m m3529 := W3516.trans W3534 (by decide)
            have B3564 : sf_B 0 600 (m3529 10) := T3532.2.2.1 10
            have B3565 : sf_B 0 4 (m3529 13) := T3532.2.2.1 13
            have B3566 : sf_B 0 4 (m3529 17) := T3532.2.2.1 17
            have B3567 : sf_B 0 1 (m3529 22) := T3532.2.2.1 22
            show pm_R _ 187 215 [.ref 41, .long a0, pm_no, .int a1] [.int 0] _ _
            have R3568 : (m 10).toInt ≤ (m3529 10).toInt := (sf_aux70 _ _ _ R3521 X3535)
            refine pm_R_br pm_M187 (pc_q := 218) (st_q := []) (pm_q187_2 (Nat.le_of_ble_eq_true rfl)) rfl ?_
            refine pm_R_op pm_M187 (pc_q := 219) (st_q := [.int 0]) (pm_q187_2 (Nat.le_of_ble_eq_true rfl)) rfl rfl ?_
            exact pm_R_ret pm_M187 (r := some (.int 0)) (pm_q187_2 (Nat.le_of_ble_eq_true rfl)) rfl (K0 m3529 w3530 h3531 T3532 F3562 W3563 (sf_aux51 _ _ R3568))
          · have F3569 := F3515.trans F3542 (by decide)
            have W3570 : rf_W [10, 12, 13, 14, 16, 17, 18, 22] m m3538 := W3516.trans W3543 (by decide)
            have B3571 : sf_B 0 600 (m3538 10) := T3541.2.2.1 10
            have B3572 : sf_B 0 4 (m3538 13) := T3541.2.2.1 13
            have B3573 : sf_B 0 4 (m3538 17) := T3541.2.2.1 17
            have B3574 : sf_B 0 1 (m3538 22) := T3541.2.2.1 22
            show pm_R _ 187 215 [.ref 41, .long a0, pm_no, .int a1] [.int 1] _ _
            have R3575 : (m 10).toInt ≤ (m3538 10).toInt := (sf_aux70 _ _ _ R3521 X3548)
            obtain ⟨v3576, B3577, e3578⟩ := X3544 _ e3524
            refine pm_R_br pm_M187 (pc_q := 220) (st_q := []) (pm_q187_2 (Nat.le_of_ble_eq_true rfl)) rfl ?_
            refine pm_R_lo pm_M187 (pc_q := 221) (pm_q187_2 (Nat.le_of_ble_eq_true rfl)) rfl rfl ?_
            refine rf_R_get pm_M187 T3541 (pc_q := 224) (v := .int (m3392 22)) (pm_q187_2 (Nat.le_of_ble_eq_true rfl)) rfl (congrArg (fun z => some (Value.int z)) (Int32.toInt_inj.mp (sf_aux37 _ _ X3546))) rfl ?_
            refine pm_R_ifc pm_M187 (t := 252) (pc_q := 227) (pm_q187_2 (Nat.le_of_ble_eq_true rfl)) rfl rfl (fun c3579 => ?_) (fun c3579 => absurd (sf_pt2 B3402 sf_k0) c3579)
            refine pm_R_op pm_M187 (pc_q := 253) (st_q := [.int 1]) (pm_q187_2 (Nat.le_of_ble_eq_true rfl)) rfl rfl ?_
            have e3580 := (F3542.cell (by decide) (F3396.cell (by decide) (F3345.cell (by decide) e3)))
            exact pm_R_ret pm_M187 (r := some (.int 1)) (pm_q187_2 (Nat.le_of_ble_eq_true rfl)) rfl (K1 m3538 w3539 h3540 T3541 F3569 W3570 (⟨f2, e3580, ct4, fun z => (sf_pos (sf_eqT X3545 B3401) (by decide) z)⟩) (sf_aux51 _ _ R3575))
          · have F3581 := F3515.trans F3555 (by decide)
            have W3582 : rf_W [10, 12, 13, 14, 16, 17, 18, 22] m m3551 := W3516.trans W3556 (by decide)
            have B3583 : sf_B 0 600 (m3551 10) := T3554.2.2.1 10
            have B3584 : sf_B 0 4 (m3551 13) := T3554.2.2.1 13
            have B3585 : sf_B 0 4 (m3551 17) := T3554.2.2.1 17
            have B3586 : sf_B 0 1 (m3551 22) := T3554.2.2.1 22
            show pm_R _ 187 215 [.ref 41, .long a0, pm_no, .int a1] [.int 1] _ _
            have R3587 : (m 10).toInt ≤ (m3551 10).toInt := (sf_aux70 _ _ _ R3521 X3559)
            obtain ⟨v3588, B3589, e3590⟩ := X3557 _ e3524
            refine pm_R_br pm_M187 (pc_q := 220) (st_q := []) (pm_q187_2 (Nat.le_of_ble_eq_true rfl)) rfl ?_
            refine pm_R_lo pm_M187 (pc_q := 221) (pm_q187_2 (Nat.le_of_ble_eq_true rfl)) rfl rfl ?_
            refine rf_R_get pm_M187 T3554 (pc_q := 224) (v := .int (m3551 22)) (pm_q187_2 (Nat.le_of_ble_eq_true rfl)) rfl rfl rfl ?_
            refine pm_R_ifc pm_M187 (t := 252) (pc_q := 227) (pm_q187_2 (Nat.le_of_ble_eq_true rfl)) rfl rfl (fun c3591 => ?_) (fun c3591 => absurd (sf_pt2 B3561 sf_k0) c3591)
            refine pm_R_op pm_M187 (pc_q := 253) (st_q := [.int 1]) (pm_q187_2 (Nat.le_of_ble_eq_true rfl)) rfl rfl ?_
            have e3592 := (F3555.cell (by decide) (F3396.cell (by decide) (F3345.cell (by decide) e3)))
            exact pm_R_ret pm_M187 (r := some (.int 1)) (pm_q187_2 (Nat.le_of_ble_eq_true rfl)) rfl (K1 m3551 w3552 h3553 T3554 F3581 W3582 (⟨f2, e3592, ct4, fun z => (sf_pos B3560 (by decide) z)⟩) (sf_aux51 _ _ R3587))
      · have k3593 := sf_lneC e3327 c3328
        refine pm_R_lo pm_M187 (pc_q := 25) rfl rfl rfl ?_
        refine pm_R_cv pm_M187 (pc_q := 28) (a := 41) (ra := []) (rest := []) (ls_q := [.ref 41]) rfl rfl (Or.inl rfl) pm_M184 T.2.1 rfl (by decide) (Nat.lt_of_lt_of_le (by decide) T.1) rfl rfl (Nat.le_of_ble_eq_true rfl) rfl rfl ?_
        refine pm_R_lo pm_M184 (pc_q := 1) rfl rfl rfl ?_
        refine pm_R_lo pm_M184 (pc_q := 2) rfl rfl rfl ?_
        have B3594 : sf_B 0 600 (m 12) := T.2.2.1 12
        refine rf_R_get pm_M184 T (pc_q := 5) (v := .int (m 12)) rfl rfl rfl rfl ?_
        refine rf_R_put pm_M184 T (pc_q := 8) rfl rfl rfl (by decide) rfl rfl B3594 rfl rfl (fun h3595 m3598 em3599 T3596 F3597 => ?_)
        have F3600 := (rf_G.refl [41, 51, 52] h).trans F3597 (by decide)
        have B3601 : sf_B 0 600 (m3598 10) := by rw [em3599]; exact B1
        have ek3602 : (m3598 10).toInt = ((m 10)).toInt := by rw [em3599]; rfl
        have B3603 : sf_B 0 4 (m3598 17) := by rw [em3599]; exact B6
        have ek3604 : (m3598 17).toInt = ((m 17)).toInt := by rw [em3599]; rfl
        have B3605 : sf_B 0 600 (m3598 16) := by rw [em3599]; exact B3594
        have ek3606 : (m3598 16).toInt = ((m 12)).toInt := by rw [em3599]; rfl
        have W3607 : rf_W [10, 12, 13, 14, 16, 17, 18, 22] m m3598 := by rw [em3599]; exact (rf_W.refl [10, 12, 13, 14, 16, 17, 18, 22] m).put (by decide)
        have B3608 : sf_B 0 4 (m3598 13) := T3596.2.2.1 13
        have B3609 : sf_B 0 1 (m3598 22) := T3596.2.2.1 22
        refine pm_R_op pm_M184 (pc_q := 9) (st_q := [.int 0]) rfl rfl rfl ?_
        refine pm_R_ret pm_M184 (r := some (.int 0)) rfl rfl ?_
        show pm_R _ 187 28 [.ref 41, .long a0, pm_no, .int a1] [.int 0] _ _
        exact pm_R_ret pm_M187 (r := some (.int 0)) rfl rfl (K0 m3598 w h3595 T3596 F3600 W3607 (sf_aux52 _ _ ek3602))
