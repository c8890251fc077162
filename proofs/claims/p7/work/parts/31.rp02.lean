set_option maxRecDepth 100000 in
set_option maxHeartbeats 4000000 in
/-- SilentTableModel.take -/
theorem rf_c183_1_9 {d : Nat} {m : Nat → Int32} {w : Int64} {h : pm_H} {Q : Option Value → pm_H → Prop} {a2 : Int32} (T : rf_T m w h)  (K0 : ∀ (m_q : Nat → Int32) (w_q : Int64) (h_q : pm_H), rf_T m_q w_q h_q → rf_G [41, 52] h h_q → rf_W [10, 12, 13, 14, 16, 17, 18, 22] m m_q → (m 10).toInt ≤ (m_q 10).toInt → Q (some (.int 0)) h_q) (K1 : ∀ (m_q : Nat → Int32) (w_q : Int64) (h_q : pm_H), rf_T m_q w_q h_q → rf_G [41, 52] h h_q → rf_W [10, 12, 13, 14, 16, 17, 18, 22] m m_q → (∀ g : Nat → Int32, h.2.2 52 = .inl (0, 4, .inl g) → ∃ v, sf_B 0 9 v ∧ h_q.2.2 52 = .inl (0, 4, .inl (upd g (Int32.toNatClampNeg 1) v))) → (m_q 17).toInt = (m 17).toInt → (m_q 22).toInt = (m 22).toInt → ((m 10).toInt + 1 ≤ (m_q 10).toInt ∨ (m_q 13).toInt = 0) → (m 10).toInt ≤ (m_q 10).toInt → Q (some (.int 1)) h_q) (K2 : ∀ (m_q : Nat → Int32) (w_q : Int64) (h_q : pm_H), rf_T m_q w_q h_q → rf_G [41, 52] h h_q → rf_W [10, 12, 13, 14, 16, 17, 18, 22] m m_q → (∀ g : Nat → Int32, h.2.2 52 = .inl (0, 4, .inl g) → ∃ v, sf_B 0 99 v ∧ h_q.2.2 52 = .inl (0, 4, .inl (upd g (Int32.toNatClampNeg 1) v))) → ((m 10).toInt + 1 ≤ (m_q 10).toInt ∨ (m_q 13).toInt = 0) → (m 10).toInt ≤ (m_q 10).toInt → sf_B 1 4 (m_q 17) → sf_B 0 0 (m_q 22) → Q (some (.int 1)) h_q) : pm_R (d + 2) 183 0 [.ref 41, .int 1, .int 9, .int a2] [] h Q := by
  have B1 : sf_B 0 600 (m 10) := T.2.2.1 10
  have B2 : sf_B 0 4 (m 17) := T.2.2.1 17
  have B3 : sf_B 0 1 (m 22) := T.2.2.1 22
  obtain ⟨f4, e5, b6⟩ := T.2.2.2.1 52 (by decide) (by decide)
  refine pm_R_lo pm_M183 (pc_q := 1) rfl rfl rfl ?_
  have B7 : sf_B 0 4 (m 13) := T.2.2.1 13
  refine rf_R_get pm_M183 T (pc_q := 4) (v := .int (m 13)) rfl rfl rfl rfl ?_
  refine pm_R_op pm_M183 (pc_q := 5) (st_q := [.int 3, .int (m 13)]) rfl rfl rfl ?_
  refine pm_R_icmp pm_M183 (t := 13) (pc_q := 8) rfl rfl rfl (fun c8 => ?_) (fun c8 => ?_)
  · have B9 : sf_B 3 3 (m 13) := sf_eqL c8 sf_k3
    refine pm_R_lo pm_M183 (pc_q := 14) rfl rfl rfl ?_
    refine rf_R_get pm_M183 T (pc_q := 17) (v := .ref 52) rfl rfl rfl rfl ?_
    refine pm_R_lo pm_M183 (pc_q := 18) rfl rfl rfl ?_
    refine pm_R_lo pm_M183 (pc_q := 19) rfl rfl rfl ?_
    have B10 : sf_B 0 99 (m 14) := T.2.2.1 14
    refine rf_R_get pm_M183 T (pc_q := 22) (v := .int (m 14)) rfl rfl rfl rfl ?_
    refine rf_R_ist pm_M183 T (pc_q := 23) rfl e5 (by decide) (by decide) rfl ⟨_, rfl, sf_upd b6 (sf_weak B10 (by decide) (by decide)) _⟩ rfl (fun h11 T12 F13 e14 => ?_)
    have F15 := (rf_G.refl [41, 52] h).trans F13 (by decide)
    refine pm_R_lo pm_M183 (pc_q := 24) rfl rfl rfl ?_
    refine rf_R_get pm_M183 T12 (pc_q := 27) (v := .int (m 14)) rfl rfl rfl rfl ?_
    refine pm_R_lo pm_M183 (pc_q := 28) rfl rfl rfl ?_
    refine pm_R_icmp pm_M183 (t := 39) (pc_q := 31) rfl rfl rfl (fun c16 => ?_) (fun c16 => ?_)
    · have B17 : sf_B 10 99 (m 14) := sf_ltR c16 sf_k9 B10
      refine pm_R_lo pm_M183 (pc_q := 40) rfl rfl rfl ?_
      refine pm_R_op pm_M183 (pc_q := 41) (st_q := [.int 2, .ref 41]) rfl rfl rfl ?_
      refine pm_R_lo pm_M183 (pc_q := 42) rfl rfl rfl ?_
      have B18 : sf_B 0 600 (m 12) := T12.2.2.1 12
      refine rf_R_get pm_M183 T12 (pc_q := 45) (v := .int (m 12)) rfl rfl rfl rfl ?_
      refine pm_R_cv pm_M183 (pc_q := 48) (a := 41) (ra := [.int (m 12), .int 2]) (rest := []) (ls_q := [.ref 41, .int 2, .int (m 12)]) rfl rfl (Or.inl rfl) pm_M182 T12.2.1 rfl (by decide) (Nat.lt_of_lt_of_le (by decide) T12.1) rfl rfl (Nat.le_of_ble_eq_true rfl) rfl rfl ?_
      refine rf_c182 (d := d + 1) T12 (sf_weak sf_k2 (by decide) (by decide)) B18 (fun m21 w22 h23 T24 F25 W26 B27 => ?_)
      have F28 := F15.trans F25 (by decide)
      have B29 : sf_B 0 600 (m21 10) := by rw [W26 10 (by decide)]; exact B1
      have ek30 : (m21 10).toInt = ((m 10)).toInt := by rw [W26 10 (by decide)]
      have B31 : sf_B 0 1 (m21 22) := by rw [W26 22 (by decide)]; exact B3
      have ek32 : (m21 22).toInt = ((m 22)).toInt := by rw [W26 22 (by decide)]
      have B33 : sf_B 3 3 (m21 13) := by rw [W26 13 (by decide)]; exact B9
      have B34 : sf_B 10 99 (m21 14) := by rw [W26 14 (by decide)]; exact B17
      have W35 : rf_W [10, 12, 13, 14, 16, 17, 18, 22] m m21 := (rf_W.refl [10, 12, 13, 14, 16, 17, 18, 22] m).trans W26 (by decide)
      have B36 : sf_B 0 4 (m21 17) := T24.2.2.1 17
      show pm_R _ 183 48 [.ref 41, .int 1, .int 9, .int a2] [] _ _
      refine pm_R_lo pm_M183 (pc_q := 49) rfl rfl rfl ?_
      refine pm_R_op pm_M183 (pc_q := 50) (st_q := [.int 0, .ref 41]) rfl rfl rfl ?_
      refine rf_R_put pm_M183 T24 (pc_q := 53) rfl rfl rfl (by decide) rfl rfl (sf_weak sf_k0 (by decide) (by decide)) rfl rfl (fun h37 m40 em41 T38 F39 => ?_)
      have F42 := F28.trans F39 (by decide)
      have B43 : sf_B 0 600 (m40 10) := by rw [em41]; exact B29
      have ek44 : (m40 10).toInt = ((m 10)).toInt := by rw [em41]; exact ek30
      have B45 : sf_B 3 3 (m40 13) := by rw [em41]; exact B33
      have B46 : sf_B 10 99 (m40 14) := by rw [em41]; exact B34
      have B47 : sf_B 1 4 (m40 17) := by rw [em41]; exact B27
      have ek48 : (m40 17).toInt = ((m21 17)).toInt := by rw [em41]; rfl
      have B49 : sf_B 0 0 (m40 22) := by rw [em41]; exact sf_k0
      have W51 : rf_W [10, 12, 13, 14, 16, 17, 18, 22] m m40 := by rw [em41]; exact W35.put (by decide)
      refine pm_R_lo pm_M183 (pc_q := 54) rfl rfl rfl ?_
      refine pm_R_cv pm_M183 (pc_q := 57) (a := 41) (ra := []) (rest := []) (ls_q := [.ref 41, pm_no, pm_no]) rfl rfl (Or.inl rfl) pm_M179 T38.2.1 rfl (by decide) (Nat.lt_of_lt_of_le (by decide) T38.1) rfl rfl (Nat.le_of_ble_eq_true rfl) rfl rfl ?_
      refine rf_c179 (d := d + 0) T38  (fun m54 w55 h56 T57 F58 W59 X60 X61 => ?_)
      have F62 := F42.trans F58 (by decide)
      have B63 : sf_B 1 4 (m54 17) := by rw [W59 17 (by decide)]; exact B47
      have ek64 : (m54 17).toInt = ((m21 17)).toInt := by rw [W59 17 (by decide)]; exact ek48
      have B65 : sf_B 0 0 (m54 22) := by rw [W59 22 (by decide)]; exact B49
      have ek66 : (m54 22).toInt = ((m40 22)).toInt := by rw [W59 22 (by decide)]
      have W67 : rf_W [10, 12, 13, 14, 16, 17, 18, 22] m m54 := W51.trans W59 (by decide)
      have B68 : sf_B 0 600 (m54 10) := T57.2.2.1 10
      show pm_R _ 183 57 [.ref 41, .int 1, .int 9, .int a2] [] _ _
      have R69 : (m 10).toInt ≤ (m54 10).toInt := (sf_aux53 _ _ _ ek44 X60)
      refine pm_R_op pm_M183 (pc_q := 58) (st_q := [.int 1]) rfl rfl rfl ?_
      have e70 := (F58.cell (by decide) (F39.cell (by decide) (F25.cell (by decide) e14)))
      exact pm_R_ret pm_M183 (r := some (.int 1)) rfl rfl (K2 m54 w55 h56 T57 F62 W67 (fun g eg => by rw [e5] at eg; cases eg; exact ⟨(m 14), (sf_weak B17 (by decide) (by decide)), e70⟩) (X61.imp (fun q => (sf_aux54 _ _ _ ek44 q)) id) (sf_aux51 _ _ R69) B63 B65)
    · have B71 : sf_B 0 9 (m 14) := sf_leL (Int32.not_lt.mp c16) B10 sf_k9
      refine pm_R_lo pm_M183 (pc_q := 32) rfl rfl rfl ?_
      refine rf_R_get pm_M183 T12 (pc_q := 35) (v := .int (m 14)) rfl rfl rfl rfl ?_
      refine pm_R_lo pm_M183 (pc_q := 36) rfl rfl rfl ?_
      refine pm_R_icmp pm_M183 (t := 53) (pc_q := 39) rfl rfl rfl (fun c72 => ?_) (fun c72 => ?_)
      · skip
        refine pm_R_lo pm_M183 (pc_q := 54) rfl rfl rfl ?_
        refine pm_R_cv pm_M183 (pc_q := 57) (a := 41) (ra := []) (rest := []) (ls_q := [.ref 41, pm_no, pm_no]) rfl rfl (Or.inl rfl) pm_M179 T12.2.1 rfl (by decide) (Nat.lt_of_lt_of_le (by decide) T12.1) rfl rfl (Nat.le_of_ble_eq_true rfl) rfl rfl ?_
        refine rf_c179 (d := d + 0) T12  (fun m75 w76 h77 T78 F79 W80 X81 X82 => ?_)
        have F83 := F15.trans F79 (by decide)
        have B84 : sf_B 0 4 (m75 17) := by rw [W80 17 (by decide)]; exact B2
        have ek85 : (m75 17).toInt = ((m 17)).toInt := by rw [W80 17 (by decide)]
        have B86 : sf_B 0 1 (m75 22) := by rw [W80 22 (by decide)]; exact B3
        have ek87 : (m75 22).toInt = ((m 22)).toInt := by rw [W80 22 (by decide)]
        have W88 : rf_W [10, 12, 13, 14, 16, 17, 18, 22] m m75 := (rf_W.refl [10, 12, 13, 14, 16, 17, 18, 22] m).trans W80 (by decide)
        have B89 : sf_B 0 600 (m75 10) := T78.2.2.1 10
        show pm_R _ 183 57 [.ref 41, .int 1, .int 9, .int a2] [] _ _
        have R90 : (m 10).toInt ≤ (m75 10).toInt := (sf_aux51 _ _ X81)
        refine pm_R_op pm_M183 (pc_q := 58) (st_q := [.int 1]) rfl rfl rfl ?_
        have e91 := (F79.cell (by decide) e14)
        exact pm_R_ret pm_M183 (r := some (.int 1)) rfl rfl (K1 m75 w76 h77 T78 F83 W88 (fun g eg => by rw [e5] at eg; cases eg; exact ⟨(m 14), B71, e91⟩) (sf_aux37 _ _ ek85) (sf_aux37 _ _ ek87) (X82.imp (fun q => (sf_aux55 _ _ q)) id) (sf_aux51 _ _ R90))
      · have B92 : sf_B 0 9 a2 := sf_eqR (Classical.not_not.mp c72) B71
        refine pm_R_lo pm_M183 (pc_q := 40) rfl rfl rfl ?_
        refine pm_R_op pm_M183 (pc_q := 41) (st_q := [.int 2, .ref 41]) rfl rfl rfl ?_
        refine pm_R_lo pm_M183 (pc_q := 42) rfl rfl rfl ?_
        have B93 : sf_B 0 600 (m 12) := T12.2.2.1 12
        refine rf_R_get pm_M183 T12 (pc_q := 45) (v := .int (m 12)) rfl rfl rfl rfl ?_
        refine pm_R_cv pm_M183 (pc_q := 48) (a := 41) (ra := [.int (m 12), .int 2]) (rest := []) (ls_q := [.ref 41, .int 2, .int (m 12)]) rfl rfl (Or.inl rfl) pm_M182 T12.2.1 rfl (by decide) (Nat.lt_of_lt_of_le (by decide) T12.1) rfl rfl (Nat.le_of_ble_eq_true rfl) rfl rfl ?_
        refine rf_c182 (d := d + 1) T12 (sf_weak sf_k2 (by decide) (by decide)) B93 (fun m96 w97 h98 T99 F100 W101 B102 => ?_)
        have F103 := F15.trans F100 (by decide)
        have B104 : sf_B 0 600 (m96 10) := by rw [W101 10 (by decide)]; exact B1
        have ek105 : (m96 10).toInt = ((m 10)).toInt := by rw [W101 10 (by decide)]
        have B106 : sf_B 0 1 (m96 22) := by rw [W101 22 (by decide)]; exact B3
        have ek107 : (m96 22).toInt = ((m 22)).toInt := by rw [W101 22 (by decide)]
        have B108 : sf_B 3 3 (m96 13) := by rw [W101 13 (by decide)]; exact B9
        have B109 : sf_B 0 9 (m96 14) := by rw [W101 14 (by decide)]; exact B71
        have W110 : rf_W [10, 12, 13, 14, 16, 17, 18, 22] m m96 := (rf_W.refl [10, 12, 13, 14, 16, 17, 18, 22] m).trans W101 (by decide)
        have B111 : sf_B 0 4 (m96 17) := T99.2.2.1 17
        show pm_R _ 183 48 [.ref 41, .int 1, .int 9, .int a2] [] _ _
        refine pm_R_lo pm_M183 (pc_q := 49) rfl rfl rfl ?_
        refine pm_R_op pm_M183 (pc_q := 50) (st_q := [.int 0, .ref 41]) rfl rfl rfl ?_
        refine rf_R_put pm_M183 T99 (pc_q := 53) rfl rfl rfl (by decide) rfl rfl (sf_weak sf_k0 (by decide) (by decide)) rfl rfl (fun h112 m115 em116 T113 F114 => ?_)
        have F117 := F103.trans F114 (by decide)
        have B118 : sf_B 0 600 (m115 10) := by rw [em116]; exact B104
        have ek119 : (m115 10).toInt = ((m 10)).toInt := by rw [em116]; exact ek105
        have B120 : sf_B 3 3 (m115 13) := by rw [em116]; exact B108
        have B121 : sf_B 0 9 (m115 14) := by rw [em116]; exact B109
        have B122 : sf_B 1 4 (m115 17) := by rw [em116]; exact B102
        have ek123 : (m115 17).toInt = ((m96 17)).toInt := by rw [em116]; rfl
        have B124 : sf_B 0 0 (m115 22) := by rw [em116]; exact sf_k0
        have W126 : rf_W [10, 12, 13, 14, 16, 17, 18, 22] m m115 := by rw [em116]; exact W110.put (by decide)
        refine pm_R_lo pm_M183 (pc_q := 54) rfl rfl rfl ?_
        refine pm_R_cv pm_M183 (pc_q := 57) (a := 41) (ra := []) (rest := []) (ls_q := [.ref 41, pm_no, pm_no]) rfl rfl (Or.inl rfl) pm_M179 T113.2.1 rfl (by decide) (Nat.lt_of_lt_of_le (by decide) T113.1) rfl rfl (Nat.le_of_ble_eq_true rfl) rfl rfl ?_
        refine rf_c179 (d := d + 0) T113  (fun m129 w130 h131 T132 F133 W134 X135 X136 => ?_)
        have F137 := F117.trans F133 (by decide)
        have B138 : sf_B 1 4 (m129 17) := by rw [W134 17 (by decide)]; exact B122
        have ek139 : (m129 17).toInt = ((m96 17)).toInt := by rw [W134 17 (by decide)]; exact ek123
        have B140 : sf_B 0 0 (m129 22) := by rw [W134 22 (by decide)]; exact B124
        have ek141 : (m129 22).toInt = ((m115 22)).toInt := by rw [W134 22 (by decide)]
        have W142 : rf_W [10, 12, 13, 14, 16, 17, 18, 22] m m129 := W126.trans W134 (by decide)
        have B143 : sf_B 0 600 (m129 10) := T132.2.2.1 10
        show pm_R _ 183 57 [.ref 41, .int 1, .int 9, .int a2] [] _ _
        have R144 : (m 10).toInt ≤ (m129 10).toInt := (sf_aux53 _ _ _ ek119 X135)
        refine pm_R_op pm_M183 (pc_q := 58) (st_q := [.int 1]) rfl rfl rfl ?_
        have e145 := (F133.cell (by decide) (F114.cell (by decide) (F100.cell (by decide) e14)))
        exact pm_R_ret pm_M183 (r := some (.int 1)) rfl rfl (K2 m129 w130 h131 T132 F137 W142 (fun g eg => by rw [e5] at eg; cases eg; exact ⟨(m 14), (sf_weak B71 (by decide) (by decide)), e145⟩) (X136.imp (fun q => (sf_aux54 _ _ _ ek119 q)) id) (sf_aux51 _ _ R144) B138 B140)
  · skip
    refine pm_R_lo pm_M183 (pc_q := 9) rfl rfl rfl ?_
    refine pm_R_cv pm_M183 (pc_q := 12) (a := 41) (ra := []) (rest := []) (ls_q := [.ref 41]) rfl rfl (Or.inl rfl) pm_M184 T.2.1 rfl (by decide) (Nat.lt_of_lt_of_le (by decide) T.1) rfl rfl (Nat.le_of_ble_eq_true rfl) rfl rfl ?_
    refine pm_R_lo pm_M184 (pc_q := 1) rfl rfl rfl ?_
    refine pm_R_lo pm_M184 (pc_q := 2) rfl rfl rfl ?_
    have B146 : sf_B 0 600 (m 12) := T.2.2.1 12
    refine rf_R_get pm_M184 T (pc_q := 5) (v := .int (m 12)) rfl rfl rfl rfl ?_
    refine rf_R_put pm_M184 T (pc_q := 8) rfl rfl rfl (by decide) rfl rfl B146 rfl rfl (fun h147 m150 em151 T148 F149 => ?_)
    have F152 := (rf_G.refl [41, 52] h).trans F149 (by decide)
    have B153 : sf_B 0 600 (m150 10) := by rw [em151]; exact B1
    have ek154 : (m150 10).toInt = ((m 10)).toInt := by rw [em151]; rfl
    have B155 : sf_B 0 4 (m150 17) := by rw [em151]; exact B2
    have ek156 : (m150 17).toInt = ((m 17)).toInt := by rw [em151]; rfl
    have B157 : sf_B 0 1 (m150 22) := by rw [em151]; exact B3
    have ek158 : (m150 22).toInt = ((m 22)).toInt := by rw [em151]; rfl
    have B159 : sf_B 0 600 (m150 16) := by rw [em151]; exact B146
    have ek160 : (m150 16).toInt = ((m 12)).toInt := by rw [em151]; rfl
    have W161 : rf_W [10, 12, 13, 14, 16, 17, 18, 22] m m150 := by rw [em151]; exact (rf_W.refl [10, 12, 13, 14, 16, 17, 18, 22] m).put (by decide)
    refine pm_R_op pm_M184 (pc_q := 9) (st_q := [.int 0]) rfl rfl rfl ?_
    refine pm_R_ret pm_M184 (r := some (.int 0)) rfl rfl ?_
    show pm_R _ 183 12 [.ref 41, .int 1, .int 9, .int a2] [.int 0] _ _
    exact pm_R_ret pm_M183 (r := some (.int 0)) rfl rfl (K0 m150 w h147 T148 F152 W161 (sf_aux52 _ _ ek154))

set_option maxRecDepth 100000 in
set_option maxHeartbeats 4000000 in
/-- SilentTableModel.take -/
theorem rf_c183_0_6 {d : Nat} {m : Nat → Int32} {w : Int64} {h : pm_H} {Q : Option Value → pm_H → Prop} {a2 : Int32} (T : rf_T m w h)  (K0 : ∀ (m_q : Nat → Int32) (w_q : Int64) (h_q : pm_H), rf_T m_q w_q h_q → rf_G [41, 52] h h_q → rf_W [10, 12, 13, 14, 16, 17, 18, 22] m m_q → (m 10).toInt ≤ (m_q 10).toInt → Q (some (.int 0)) h_q) (K1 : ∀ (m_q : Nat → Int32) (w_q : Int64) (h_q : pm_H), rf_T m_q w_q h_q → rf_G [41, 52] h h_q → rf_W [10, 12, 13, 14, 16, 17, 18, 22] m m_q → (∀ g : Nat → Int32, h.2.2 52 = .inl (0, 4, .inl g) → ∃ v, sf_B 0 6 v ∧ h_q.2.2 52 = .inl (0, 4, .inl (upd g (Int32.toNatClampNeg 0) v))) → (m_q 17).toInt = (m 17).toInt → (m_q 22).toInt = (m 22).toInt → ((m 10).toInt + 1 ≤ (m_q 10).toInt ∨ (m_q 13).toInt = 0) → (m 10).toInt ≤ (m_q 10).toInt → Q (some (.int 1)) h_q) (K2 : ∀ (m_q : Nat → Int32) (w_q : Int64) (h_q : pm_H), rf_T m_q w_q h_q → rf_G [41, 52] h h_q → rf_W [10, 12, 13, 14, 16, 17, 18, 22] m m_q → (∀ g : Nat → Int32, h.2.2 52 = .inl (0, 4, .inl g) → ∃ v, sf_B 0 99 v ∧ h_q.2.2 52 = .inl (0, 4, .inl (upd g (Int32.toNatClampNeg 0) v))) → ((m 10).toInt + 1 ≤ (m_q 10).toInt ∨ (m_q 13).toInt = 0) → (m 10).toInt ≤ (m_q 10).toInt → sf_B 1 4 (m_q 17) → sf_B 0 0 (m_q 22) → Q (some (.int 1)) h_q) : pm_R (d + 2) 183 0 [.ref 41, .int 0, .int 6, .int a2] [] h Q := by
  have B1 : sf_B 0 600 (m 10) := T.2.2.1 10
  have B2 : sf_B 0 4 (m 17) := T.2.2.1 17
  have B3 : sf_B 0 1 (m 22) := T.2.2.1 22
  obtain ⟨f4, e5, b6⟩ := T.2.2.2.1 52 (by decide) (by decide)
  refine pm_R_lo pm_M183 (pc_q := 1) rfl rfl rfl ?_
  have B7 : sf_B 0 4 (m 13) := T.2.2.1 13
  refine rf_R_get pm_M183 T (pc_q := 4) (v := .int (m 13)) rfl rfl rfl rfl ?_
  refine pm_R_op pm_M183 (pc_q := 5) (st_q := [.int 3, .int (m 13)]) rfl rfl rfl ?_
  refine pm_R_icmp pm_M183 (t := 13) (pc_q := 8) rfl rfl rfl (fun c8 => ?_) (fun c8 => ?_)
  · have B9 : sf_B 3 3 (m 13) := sf_eqL c8 sf_k3
    refine pm_R_lo pm_M183 (pc_q := 14) rfl rfl rfl ?_
    refine rf_R_get pm_M183 T (pc_q := 17) (v := .ref 52) rfl rfl rfl rfl ?_
    refine pm_R_lo pm_M183 (pc_q := 18) rfl rfl rfl ?_
    refine pm_R_lo pm_M183 (pc_q := 19) rfl rfl rfl ?_
    have B10 : sf_B 0 99 (m 14) := T.2.2.1 14
    refine rf_R_get pm_M183 T (pc_q := 22) (v := .int (m 14)) rfl rfl rfl rfl ?_
    refine rf_R_ist pm_M183 T (pc_q := 23) rfl e5 (by decide) (by decide) rfl ⟨_, rfl, sf_upd b6 (sf_weak B10 (by decide) (by decide)) _⟩ rfl (fun h11 T12 F13 e14 => ?_)
    have F15 := (rf_G.refl [41, 52] h).trans F13 (by decide)
    refine pm_R_lo pm_M183 (pc_q := 24) rfl rfl rfl ?_
    refine rf_R_get pm_M183 T12 (pc_q := 27) (v := .int (m 14)) rfl rfl rfl rfl ?_
    refine pm_R_lo pm_M183 (pc_q := 28) rfl rfl rfl ?_
    refine pm_R_icmp pm_M183 (t := 39) (pc_q := 31) rfl rfl rfl (fun c16 => ?_) (fun c16 => ?_)
    · have B17 : sf_B 7 99 (m 14) := sf_ltR c16 sf_k6 B10
      refine pm_R_lo pm_M183 (pc_q := 40) rfl rfl rfl ?_
      refine pm_R_op pm_M183 (pc_q := 41) (st_q := [.int 2, .ref 41]) rfl rfl rfl ?_
      refine pm_R_lo pm_M183 (pc_q := 42) rfl rfl rfl ?_
      have B18 : sf_B 0 600 (m 12) := T12.2.2.1 12
      refine rf_R_get pm_M183 T12 (pc_q := 45) (v := .int (m 12)) rfl rfl rfl rfl ?_
      refine pm_R_cv pm_M183 (pc_q := 48) (a := 41) (ra := [.int (m 12), .int 2]) (rest := []) (ls_q := [.ref 41, .int 2, .int (m 12)]) rfl rfl (Or.inl rfl) pm_M182 T12.2.1 rfl (by decide) (Nat.lt_of_lt_of_le (by decide) T12.1) rfl rfl (Nat.le_of_ble_eq_true rfl) rfl rfl ?_
      refine rf_c182 (d := d + 1) T12 (sf_weak sf_k2 (by decide) (by decide)) B18 (fun m21 w22 h23 T24 F25 W26 B27 => ?_)
      have F28 := F15.trans F25 (by decide)
      have B29 : sf_B 0 600 (m21 10) := by rw [W26 10 (by decide)]; exact B1
      have ek30 : (m21 10).toInt = ((m 10)).toInt := by rw [W26 10 (by decide)]
      have B31 : sf_B 0 1 (m21 22) := by rw [W26 22 (by decide)]; exact B3
      have ek32 : (m21 22).toInt = ((m 22)).toInt := by rw [W26 22 (by decide)]
      have B33 : sf_B 3 3 (m21 13) := by rw [W26 13 (by decide)]; exact B9
      have B34 : sf_B 7 99 (m21 14) := by rw [W26 14 (by decide)]; exact B17
      have W35 : rf_W [10, 12, 13, 14, 16, 17, 18, 22] m m21 := (rf_W.refl [10, 12, 13, 14, 16, 17, 18, 22] m).trans W26 (by decide)
      have B36 : sf_B 0 4 (m21 17) := T24.2.2.1 17
      show pm_R _ 183 48 [.ref 41, .int 0, .int 6, .int a2] [] _ _
      refine pm_R_lo pm_M183 (pc_q := 49) rfl rfl rfl ?_
      refine pm_R_op pm_M183 (pc_q := 50) (st_q := [.int 0, .ref 41]) rfl rfl rfl ?_
      refine rf_R_put pm_M183 T24 (pc_q := 53) rfl rfl rfl (by decide) rfl rfl (sf_weak sf_k0 (by decide) (by decide)) rfl rfl (fun h37 m40 em41 T38 F39 => ?_)
      have F42 := F28.trans F39 (by decide)
      have B43 : sf_B 0 600 (m40 10) := by rw [em41]; exact B29
      have ek44 : (m40 10).toInt = ((m 10)).toInt := by rw [em41]; exact ek30
      have B45 : sf_B 3 3 (m40 13) := by rw [em41]; exact B33
      have B46 : sf_B 7 99 (m40 14) := by rw [em41]; exact B34
      have B47 : sf_B 1 4 (m40 17) := by rw [em41]; exact B27
      have ek48 : (m40 17).toInt = ((m21 17)).toInt := by rw [em41]; rfl
      have B49 : sf_B 0 0 (m40 22) := by rw [em41]; exact sf_k0
      have W51 : rf_W [10, 12, 13, 14, 16, 17, 18, 22] m m40 := by rw [em41]; exact W35.put (by decide)
      refine pm_R_lo pm_M183 (pc_q := 54) rfl rfl rfl ?_
      refine pm_R_cv pm_M183 (pc_q := 57) (a := 41) (ra := []) (rest := []) (ls_q := [.ref 41, pm_no, pm_no]) rfl rfl (Or.inl rfl) pm_M179 T38.2.1 rfl (by decide) (Nat.lt_of_lt_of_le (by decide) T38.1) rfl rfl (Nat.le_of_ble_eq_true rfl) rfl rfl ?_
      refine rf_c179 (d := d + 0) T38  (fun m54 w55 h56 T57 F58 W59 X60 X61 => ?_)
      have F62 := F42.trans F58 (by decide)
      have B63 : sf_B 1 4 (m54 17) := by rw [W59 17 (by decide)]; exact B47
      have ek64 : (m54 17).toInt = ((m21 17)).toInt := by rw [W59 17 (by decide)]; exact ek48
      have B65 : sf_B 0 0 (m54 22) := by rw [W59 22 (by decide)]; exact B49
      have ek66 : (m54 22).toInt = ((m40 22)).toInt := by rw [W59 22 (by decide)]
      have W67 : rf_W [10, 12, 13, 14, 16, 17, 18, 22] m m54 := W51.trans W59 (by decide)
      have B68 : sf_B 0 600 (m54 10) := T57.2.2.1 10
      show pm_R _ 183 57 [.ref 41, .int 0, .int 6, .int a2] [] _ _
      have R69 : (m 10).toInt ≤ (m54 10).toInt := (sf_aux53 _ _ _ ek44 X60)
      refine pm_R_op pm_M183 (pc_q := 58) (st_q := [.int 1]) rfl rfl rfl ?_
      have e70 := (F58.cell (by decide) (F39.cell (by decide) (F25.cell (by decide) e14)))
      exact pm_R_ret pm_M183 (r := some (.int 1)) rfl rfl (K2 m54 w55 h56 T57 F62 W67 (fun g eg => by rw [e5] at eg; cases eg; exact ⟨(m 14), (sf_weak B17 (by decide) (by decide)), e70⟩) (X61.imp (fun q => (sf_aux54 _ _ _ ek44 q)) id) (sf_aux51 _ _ R69) B63 B65)
    · have B71 : sf_B 0 6 (m 14) := sf_leL (Int32.not_lt.mp c16) B10 sf_k6
      refine pm_R_lo pm_M183 (pc_q := 32) rfl rfl rfl ?_
      refine rf_R_get pm_M183 T12 (pc_q := 35) (v := .int (m 14)) rfl rfl rfl rfl ?_
      refine pm_R_lo pm_M183 (pc_q := 36) rfl rfl rfl ?_
      refine pm_R_icmp pm_M183 (t := 53) (pc_q := 39) rfl rfl rfl (fun c72 => ?_) (fun c72 => ?_)
      · skip
        refine pm_R_lo pm_M183 (pc_q := 54) rfl rfl rfl ?_
        refine pm_R_cv pm_M183 (pc_q := 57) (a := 41) (ra := []) (rest := []) (ls_q := [.ref 41, pm_no, pm_no]) rfl rfl (Or.inl rfl) pm_M179 T12.2.1 rfl (by decide) (Nat.lt_of_lt_of_le (by decide) T12.1) rfl rfl (Nat.le_of_ble_eq_true rfl) rfl rfl ?_
        refine rf_c179 (d := d + 0) T12  (fun m75 w76 h77 T78 F79 W80 X81 X82 => ?_)
        have F83 := F15.trans F79 (by decide)
        have B84 : sf_B 0 4 (m75 17) := by rw [W80 17 (by decide)]; exact B2
        have ek85 : (m75 17).toInt = ((m 17)).toInt := by rw [W80 17 (by decide)]
        have B86 : sf_B 0 1 (m75 22) := by rw [W80 22 (by decide)]; exact B3
        have ek87 : (m75 22).toInt = ((m 22)).toInt := by rw [W80 22 (by decide)]
        have W88 : rf_W [10, 12, 13, 14, 16, 17, 18, 22] m m75 := (rf_W.refl [10, 12, 13, 14, 16, 17, 18, 22] m).trans W80 (by decide)
        have B89 : sf_B 0 600 (m75 10) := T78.2.2.1 10
        show pm_R _ 183 57 [.ref 41, .int 0, .int 6, .int a2] [] _ _
        have R90 : (m 10).toInt ≤ (m75 10).toInt := (sf_aux51 _ _ X81)
        refine pm_R_op pm_M183 (pc_q := 58) (st_q := [.int 1]) rfl rfl rfl ?_
        have e91 := (F79.cell (by decide) e14)
        exact pm_R_ret pm_M183 (r := some (.int 1)) rfl rfl (K1 m75 w76 h77 T78 F83 W88 (fun g eg => by rw [e5] at eg; cases eg; exact ⟨(m 14), B71, e91⟩) (sf_aux37 _ _ ek85) (sf_aux37 _ _ ek87) (X82.imp (fun q => (sf_aux55 _ _ q)) id) (sf_aux51 _ _ R90))
      · have B92 : sf_B 0 6 a2 := sf_eqR (Classical.not_not.mp c72) B71
        refine pm_R_lo pm_M183 (pc_q := 40) rfl rfl rfl ?_
        refine pm_R_op pm_M183 (pc_q := 41) (st_q := [.int 2, .ref 41]) rfl rfl rfl ?_
        refine pm_R_lo pm_M183 (pc_q := 42) rfl rfl rfl ?_
        have B93 : sf_B 0 600 (m 12) := T12.2.2.1 12
        refine rf_R_get pm_M183 T12 (pc_q := 45) (v := .int (m 12)) rfl rfl rfl rfl ?_
        refine pm_R_cv pm_M183 (pc_q := 48) (a := 41) (ra := [.int (m 12), .int 2]) (rest := []) (ls_q := [.ref 41, .int 2, .int (m 12)]) rfl rfl (Or.inl rfl) pm_M182 T12.2.1 rfl (by decide) (Nat.lt_of_lt_of_le (by decide) T12.1) rfl rfl (Nat.le_of_ble_eq_true rfl) rfl rfl ?_
        refine rf_c182 (d := d + 1) T12 (sf_weak sf_k2 (by decide) (by decide)) B93 (fun m96 w97 h98 T99 F100 W101 B102 => ?_)
        have F103 := F15.trans F100 (by decide)
        have B104 : sf_B 0 600 (m96 10) := by rw [W101 10 (by decide)]; exact B1
        have ek105 : (m96 10).toInt = ((m 10)).toInt := by rw [W101 10 (by decide)]
        have B106 : sf_B 0 1 (m96 22) := by rw [W101 22 (by decide)]; exact B3
        have ek107 : (m96 22).toInt = ((m 22)).toInt := by rw [W101 22 (by decide)]
        have B108 : sf_B 3 3 (m96 13) := by rw [W101 13 (by decide)]; exact B9
        have B109 : sf_B 0 6 (m96 14) := by rw [W101 14 (by decide)]; exact B71
        have W110 : rf_W [10, 12, 13, 14, 16, 17, 18, 22] m m96 := (rf_W.refl [10, 12, 13, 14, 16, 17, 18, 22] m).trans W101 (by decide)
        have B111 : sf_B 0 4 (m96 17) := T99.2.2.1 17
        show pm_R _ 183 48 [.ref 41, .int 0, .int 6, .int a2] [] _ _
        refine pm_R_lo pm_M183 (pc_q := 49) rfl rfl rfl ?_
        refine pm_R_op pm_M183 (pc_q := 50) (st_q := [.int 0, .ref 41]) rfl rfl rfl ?_
        refine rf_R_put pm_M183 T99 (pc_q := 53) rfl rfl rfl (by decide) rfl rfl (sf_weak sf_k0 (by decide) (by decide)) rfl rfl (fun h112 m115 em116 T113 F114 => ?_)
        have F117 := F103.trans F114 (by decide)
        have B118 : sf_B 0 600 (m115 10) := by rw [em116]; exact B104
        have ek119 : (m115 10).toInt = ((m 10)).toInt := by rw [em116]; exact ek105
        have B120 : sf_B 3 3 (m115 13) := by rw [em116]; exact B108
        have B121 : sf_B 0 6 (m115 14) := by rw [em116]; exact B109
        have B122 : sf_B 1 4 (m115 17) := by rw [em116]; exact B102
        have ek123 : (m115 17).toInt = ((m96 17)).toInt := by rw [em116]; rfl
        have B124 : sf_B 0 0 (m115 22) := by rw [em116]; exact sf_k0
        have W126 : rf_W [10, 12, 13, 14, 16, 17, 18, 22] m m115 := by rw [em116]; exact W110.put (by decide)
        refine pm_R_lo pm_M183 (pc_q := 54) rfl rfl rfl ?_
        refine pm_R_cv pm_M183 (pc_q := 57) (a := 41) (ra := []) (rest := []) (ls_q := [.ref 41, pm_no, pm_no]) rfl rfl (Or.inl rfl) pm_M179 T113.2.1 rfl (by decide) (Nat.lt_of_lt_of_le (by decide) T113.1) rfl rfl (Nat.le_of_ble_eq_true rfl) rfl rfl ?_
        refine rf_c179 (d := d + 0) T113  (fun m129 w130 h131 T132 F133 W134 X135 X136 => ?_)
        have F137 := F117.trans F133 (by decide)
        have B138 : sf_B 1 4 (m129 17) := by rw [W134 17 (by decide)]; exact B122
        have ek139 : (m129 17).toInt = ((m96 17)).toInt := by rw [W134 17 (by decide)]; exact ek123
        have B140 : sf_B 0 0 (m129 22) := by rw [W134 22 (by decide)]; exact B124
        have ek141 : (m129 22).toInt = ((m115 22)).toInt := by rw [W134 22 (by decide)]
        have W142 : rf_W [10, 12, 13, 14, 16, 17, 18, 22] m m129 := W126.trans W134 (by decide)
        have B143 : sf_B 0 600 (m129 10) := T132.2.2.1 10
        show pm_R _ 183 57 [.ref 41, .int 0, .int 6, .int a2] [] _ _
        have R144 : (m 10).toInt ≤ (m129 10).toInt := (sf_aux53 _ _ _ ek119 X135)
        refine pm_R_op pm_M183 (pc_q := 58) (st_q := [.int 1]) rfl rfl rfl ?_
        have e145 := (F133.cell (by decide) (F114.cell (by decide) (F100.cell (by decide) e14)))
        exact pm_R_ret pm_M183 (r := some (.int 1)) rfl rfl (K2 m129 w130 h131 T132 F137 W142 (fun g eg => by rw [e5] at eg; cases eg; exact ⟨(m 14), (sf_weak B71 (by decide) (by decide)), e145⟩) (X136.imp (fun q => (sf_aux54 _ _ _ ek119 q)) id) (sf_aux51 _ _ R144) B138 B140)
  · skip
    refine pm_R_lo pm_M183 (pc_q := 9) rfl rfl rfl ?_
    refine pm_R_cv pm_M183 (pc_q := 12) (a := 41) (ra := []) (rest := []) (ls_q := [.ref 41]) rfl rfl (Or.inl rfl) pm_M184 T.2.1 rfl (by decide) (Nat.lt_of_lt_of_le (by decide) T.1) rfl rfl (Nat.le_of_ble_eq_true rfl) rfl rfl ?_
    refine pm_R_lo pm_M184 (pc_q := 1) rfl rfl rfl ?_
    refine pm_R_lo pm_M184 (pc_q := 2) rfl rfl rfl ?_
    have B146 : sf_B 0 600 (m 12) := T.2.2.1 12
    refine rf_R_get pm_M184 T (pc_q := 5) (v := .int (m 12)) rfl rfl rfl rfl ?_
    refine rf_R_put pm_M184 T (pc_q := 8) rfl rfl rfl (by decide) rfl rfl B146 rfl rfl (fun h147 m150 em151 T148 F149 => ?_)
    have F152 := (rf_G.refl [41, 52] h).trans F149 (by decide)
    have B153 : sf_B 0 600 (m150 10) := by rw [em151]; exact B1
    have ek154 : (m150 10).toInt = ((m 10)).toInt := by rw [em151]; rfl
    have B155 : sf_B 0 4 (m150 17) := by rw [em151]; exact B2
    have ek156 : (m150 17).toInt = ((m 17)).toInt := by rw [em151]; rfl
    have B157 : sf_B 0 1 (m150 22) := by rw [em151]; exact B3
    have ek158 : (m150 22).toInt = ((m 22)).toInt := by rw [em151]; rfl
    have B159 : sf_B 0 600 (m150 16) := by rw [em151]; exact B146
    have ek160 : (m150 16).toInt = ((m 12)).toInt := by rw [em151]; rfl
    have W161 : rf_W [10, 12, 13, 14, 16, 17, 18, 22] m m150 := by rw [em151]; exact (rf_W.refl [10, 12, 13, 14, 16, 17, 18, 22] m).put (by decide)
    refine pm_R_op pm_M184 (pc_q := 9) (st_q := [.int 0]) rfl rfl rfl ?_
    refine pm_R_ret pm_M184 (r := some (.int 0)) rfl rfl ?_
    show pm_R _ 183 12 [.ref 41, .int 0, .int 6, .int a2] [.int 0] _ _
    exact pm_R_ret pm_M183 (r := some (.int 0)) rfl rfl (K0 m150 w h147 T148 F152 W161 (sf_aux52 _ _ ek154))

set_option maxRecDepth 100000 in
set_option maxHeartbeats 4000000 in
/-- SilentTableModel.take -/
theorem rf_c183_2_9 {d : Nat} {m : Nat → Int32} {w : Int64} {h : pm_H} {Q : Option Value → pm_H → Prop} {a2 : Int32} (T : rf_T m w h)  (K0 : ∀ (m_q : Nat → Int32) (w_q : Int64) (h_q : pm_H), rf_T m_q w_q h_q → rf_G [41, 52] h h_q → rf_W [10, 12, 13, 14, 16, 17, 18, 22] m m_q → (m 10).toInt ≤ (m_q 10).toInt → Q (some (.int 0)) h_q) (K1 : ∀ (m_q : Nat → Int32) (w_q : Int64) (h_q : pm_H), rf_T m_q w_q h_q → rf_G [41, 52] h h_q → rf_W [10, 12, 13, 14, 16, 17, 18, 22] m m_q → (∀ g : Nat → Int32, h.2.2 52 = .inl (0, 4, .inl g) → ∃ v, sf_B 0 9 v ∧ h_q.2.2 52 = .inl (0, 4, .inl (upd g (Int32.toNatClampNeg 2) v))) → (m_q 17).toInt = (m 17).toInt → (m_q 22).toInt = (m 22).toInt → ((m 10).toInt + 1 ≤ (m_q 10).toInt ∨ (m_q 13).toInt = 0) → (m 10).toInt ≤ (m_q 10).toInt → Q (some (.int 1)) h_q) (K2 : ∀ (m_q : Nat → Int32) (w_q : Int64) (h_q : pm_H), rf_T m_q w_q h_q → rf_G [41, 52] h h_q → rf_W [10, 12, 13, 14, 16, 17, 18, 22] m m_q → (∀ g : Nat → Int32, h.2.2 52 = .inl (0, 4, .inl g) → ∃ v, sf_B 0 99 v ∧ h_q.2.2 52 = .inl (0, 4, .inl (upd g (Int32.toNatClampNeg 2) v))) → ((m 10).toInt + 1 ≤ (m_q 10).toInt ∨ (m_q 13).toInt = 0) → (m 10).toInt ≤ (m_q 10).toInt → sf_B 1 4 (m_q 17) → sf_B 0 0 (m_q 22) → Q (some (.int 1)) h_q) : pm_R (d + 2) 183 0 [.ref 41, .int 2, .int 9, .int a2] [] h Q := by
  have B1 : sf_B 0 600 (m 10) := T.2.2.1 10
  have B2 : sf_B 0 4 (m 17) := T.2.2.1 17
  have B3 : sf_B 0 1 (m 22) := T.2.2.1 22
  obtain ⟨f4, e5, b6⟩ := T.2.2.2.1 52 (by decide) (by decide)
  refine pm_R_lo pm_M183 (pc_q := 1) rfl rfl rfl ?_
  have B7 : sf_B 0 4 (m 13) := T.2.2.1 13
  refine rf_R_get pm_M183 T (pc_q := 4) (v := .int (m 13)) rfl rfl rfl rfl ?_
  refine pm_R_op pm_M183 (pc_q := 5) (st_q := [.int 3, .int (m 13)]) rfl rfl rfl ?_
  refine pm_R_icmp pm_M183 (t := 13) (pc_q := 8) rfl rfl rfl (fun c8 => ?_) (fun c8 => ?_)
  · have B9 : sf_B 3 3 (m 13) := sf_eqL c8 sf_k3
    refine pm_R_lo pm_M183 (pc_q := 14) rfl rfl rfl ?_
    refine rf_R_get pm_M183 T (pc_q := 17) (v := .ref 52) rfl rfl rfl rfl ?_
    refine pm_R_lo pm_M183 (pc_q := 18) rfl rfl rfl ?_
    refine pm_R_lo pm_M183 (pc_q := 19) rfl rfl rfl ?_
    have B10 : sf_B 0 99 (m 14) := T.2.2.1 14
    refine rf_R_get pm_M183 T (pc_q := 22) (v := .int (m 14)) rfl rfl rfl rfl ?_
    refine rf_R_ist pm_M183 T (pc_q := 23) rfl e5 (by decide) (by decide) rfl ⟨_, rfl, sf_upd b6 (sf_weak B10 (by decide) (by decide)) _⟩ rfl (fun h11 T12 F13 e14 => ?_)
    have F15 := (rf_G.refl [41, 52] h).trans F13 (by decide)
    refine pm_R_lo pm_M183 (pc_q := 24) rfl rfl rfl ?_
    refine rf_R_get pm_M183 T12 (pc_q := 27) (v := .int (m 14)) rfl rfl rfl rfl ?_
    refine pm_R_lo pm_M183 (pc_q := 28) rfl rfl rfl ?_
    refine pm_R_icmp pm_M183 (t := 39) (pc_q := 31) rfl rfl rfl (fun c16 => ?_) (fun c16 => ?_)
    · have B17 : sf_B 10 99 (m 14) := sf_ltR c16 sf_k9 B10
      refine pm_R_lo pm_M183 (pc_q := 40) rfl rfl rfl ?_
      refine pm_R_op pm_M183 (pc_q := 41) (st_q := [.int 2, .ref 41]) rfl rfl rfl ?_
      refine pm_R_lo pm_M183 (pc_q := 42) rfl rfl rfl ?_
      have B18 : sf_B 0 600 (m 12) := T12.2.2.1 12
      refine rf_R_get pm_M183 T12 (pc_q := 45) (v := .int (m 12)) rfl rfl rfl rfl ?_
      refine pm_R_cv pm_M183 (pc_q := 48) (a := 41) (ra := [.int (m 12), .int 2]) (rest := []) (ls_q := [.ref 41, .int 2, .int (m 12)]) rfl rfl (Or.inl rfl) pm_M182 T12.2.1 rfl (by decide) (Nat.lt_of_lt_of_le (by decide) T12.1) rfl rfl (Nat.le_of_ble_eq_true rfl) rfl rfl ?_
      refine rf_c182 (d := d + 1) T12 (sf_weak sf_k2 (by decide) (by decide)) B18 (fun m21 w22 h23 T24 F25 W26 B27 => ?_)
      have F28 := F15.trans F25 (by decide)
      have B29 : sf_B 0 600 (m21 10) := by rw [W26 10 (by decide)]; exact B1
      have ek30 : (m21 10).toInt = ((m 10)).toInt := by rw [W26 10 (by decide)]
      have B31 : sf_B 0 1 (m21 22) := by rw [W26 22 (by decide)]; exact B3
      have ek32 : (m21 22).toInt = ((m 22)).toInt := by rw [W26 22 (by decide)]
      have B33 : sf_B 3 3 (m21 13) := by rw [W26 13 (by decide)]; exact B9
      have B34 : sf_B 10 99 (m21 14) := by rw [W26 14 (by decide)]; exact B17
      have W35 : rf_W [10, 12, 13, 14, 16, 17, 18, 22] m m21 := (rf_W.refl [10, 12, 13, 14, 16, 17, 18, 22] m).trans W26 (by decide)
      have B36 : sf_B 0 4 (m21 17) := T24.2.2.1 17
      show pm_R _ 183 48 [.ref 41, .int 2, .int 9, .int a2] [] _ _
      refine pm_R_lo pm_M183 (pc_q := 49) rfl rfl rfl ?_
      refine pm_R_op pm_M183 (pc_q := 50) (st_q := [.int 0, .ref 41]) rfl rfl rfl ?_
      refine rf_R_put pm_M183 T24 (pc_q := 53) rfl rfl rfl (by decide) rfl rfl (sf_weak sf_k0 (by decide) (by decide)) rfl rfl (fun h37 m40 em41 T38 F39 => ?_)
      have F42 := F28.trans F39 (by decide)
      have B43 : sf_B 0 600 (m40 10) := by rw [em41]; exact B29
      have ek44 : (m40 10).toInt = ((m 10)).toInt := by rw [em41]; exact ek30
      have B45 : sf_B 3 3 (m40 13) := by rw [em41]; exact B33
      have B46 : sf_B 10 99 (m40 14) := by rw [em41]; exact B34
      have B47 : sf_B 1 4 (m40 17) := by rw [em41]; exact B27
      have ek48 : (m40 17).toInt = ((m21 17)).toInt := by rw [em41]; rfl
      have B49 : sf_B 0 0 (m40 22) := by rw [em41]; exact sf_k0
      have W51 : rf_W [10, 12, 13, 14, 16, 17, 18, 22] m m40 := by rw [em41]; exact W35.put (by decide)
      refine pm_R_lo pm_M183 (pc_q := 54) rfl rfl rfl ?_
      refine pm_R_cv pm_M183 (pc_q := 57) (a := 41) (ra := []) (rest := []) (ls_q := [.ref 41, pm_no, pm_no]) rfl rfl (Or.inl rfl) pm_M179 T38.2.1 rfl (by decide) (Nat.lt_of_lt_of_le (by decide) T38.1) rfl rfl (Nat.le_of_ble_eq_true rfl) rfl rfl ?_
      refine rf_c179 (d := d + 0) T38  (fun m54 w55 h56 T57 F58 W59 X60 X61 => ?_)
      have F62 := F42.trans F58 (by decide)
      have B63 : sf_B 1 4 (m54 17) := by rw [W59 17 (by decide)]; exact B47
      have ek64 : (m54 17).toInt = ((m21 17)).toInt := by rw [W59 17 (by decide)]; exact ek48
      have B65 : sf_B 0 0 (m54 22) := by rw [W59 22 (by decide)]; exact B49
      have ek66 : (m54 22).toInt = ((m40 22)).toInt := by rw [W59 22 (by decide)]
      have W67 : rf_W [10, 12, 13, 14, 16, 17, 18, 22] m m54 := W51.trans W59 (by decide)
      have B68 : sf_B 0 600 (m54 10) := T57.2.2.1 10
      show pm_R _ 183 57 [.ref 41, .int 2, .int 9, .int a2] [] _ _
      have R69 : (m 10).toInt ≤ (m54 10).toInt := (sf_aux53 _ _ _ ek44 X60)
      refine pm_R_op pm_M183 (pc_q := 58) (st_q := [.int 1]) rfl rfl rfl ?_
      have e70 := (F58.cell (by decide) (F39.cell (by decide) (F25.cell (by decide) e14)))
      exact pm_R_ret pm_M183 (r := some (.int 1)) rfl rfl (K2 m54 w55 h56 T57 F62 W67 (fun g eg => by rw [e5] at eg; cases eg; exact ⟨(m 14), (sf_weak B17 (by decide) (by decide)), e70⟩) (X61.imp (fun q => (sf_aux54 _ _ _ ek44 q)) id) (sf_aux51 _ _ R69) B63 B65)
    · have B71 : sf_B 0 9 (m 14) := sf_leL (Int32.not_lt.mp c16) B10 sf_k9
      refine pm_R_lo pm_M183 (pc_q := 32) rfl rfl rfl ?_
      refine rf_R_get pm_M183 T12 (pc_q := 35) (v := .int (m 14)) rfl rfl rfl rfl ?_
      refine pm_R_lo pm_M183 (pc_q := 36) rfl rfl rfl ?_
      refine pm_R_icmp pm_M183 (t := 53) (pc_q := 39) rfl rfl rfl (fun c72 => ?_) (fun c72 => ?_)
      · skip
        refine pm_R_lo pm_M183 (pc_q := 54) rfl rfl rfl ?_
        refine pm_R_cv pm_M183 (pc_q := 57) (a := 41) (ra := []) (rest := []) (ls_q := [.ref 41, pm_no, pm_no]) rfl rfl (Or.inl rfl) pm_M179 T12.2.1 rfl (by decide) (Nat.lt_of_lt_of_le (by decide) T12.1) rfl rfl (Nat.le_of_ble_eq_true rfl) rfl rfl ?_
        refine rf_c179 (d := d + 0) T12  (fun m75 w76 h77 T78 F79 W80 X81 X82 => ?_)
        have F83 := F15.trans F79 (by decide)
        have B84 : sf_B 0 4 (m75 17) := by rw [W80 17 (by decide)]; exact B2
        have ek85 : (m75 17).toInt = ((m 17)).toInt := by rw [W80 17 (by decide)]
        have B86 : sf_B 0 1 (m75 22) := by rw [W80 22 (by decide)]; exact B3
        have ek87 : (m75 22).toInt = ((m 22)).toInt := by rw [W80 22 (by decide)]
        have W88 : rf_W [10, 12, 13, 14, 16, 17, 18, 22] m m75 := (rf_W.refl [10, 12, 13, 14, 16, 17, 18, 22] m).trans W80 (by decide)
        have B89 : sf_B 0 600 (m75 10) := T78.2.2.1 10
        show pm_R _ 183 57 [.ref 41, .int 2, .int 9, .int a2] [] _ _
        have R90 : (m 10).toInt ≤ (m75 10).toInt := (sf_aux51 _ _ X81)
        refine pm_R_op pm_M183 (pc_q := 58) (st_q := [.int 1]) rfl rfl rfl ?_
        have e91 := (F79.cell (by decide) e14)
        exact pm_R_ret pm_M183 (r := some (.int 1)) rfl rfl (K1 m75 w76 h77 T78 F83 W88 (fun g eg => by rw [e5] at eg; cases eg; exact ⟨(m 14), B71, e91⟩) (sf_aux37 _ _ ek85) (sf_aux37 _ _ ek87) (X82.imp (fun q => (sf_aux55 _ _ q)) id) (sf_aux51 _ _ R90))
      · have B92 : sf_B 0 9 a2 := sf_eqR (Classical.not_not.mp c72) B71
        refine pm_R_lo pm_M183 (pc_q := 40) rfl rfl rfl ?_
        refine pm_R_op pm_M183 (pc_q := 41) (st_q := [.int 2, .ref 41]) rfl rfl rfl ?_
        refine pm_R_lo pm_M183 (pc_q := 42) rfl rfl rfl ?_
        have B93 : sf_B 0 600 (m 12) := T12.2.2.1 12
        refine rf_R_get pm_M183 T12 (pc_q := 45) (v := .int (m 12)) rfl rfl rfl rfl ?_
        refine pm_R_cv pm_M183 (pc_q := 48) (a := 41) (ra := [.int (m 12), .int 2]) (rest := []) (ls_q := [.ref 41, .int 2, .int (m 12)]) rfl rfl (Or.inl rfl) pm_M182 T12.2.1 rfl (by decide) (Nat.lt_of_lt_of_le (by decide) T12.1) rfl rfl (Nat.le_of_ble_eq_true rfl) rfl rfl ?_
        refine rf_c182 (d := d + 1) T12 (sf_weak sf_k2 (by decide) (by decide)) B93 (fun m96 w97 h98 T99 F100 W101 B102 => ?_)
        have F103 := F15.trans F100 (by decide)
        have B104 : sf_B 0 600 (m96 10) := by rw [W101 10 (by decide)]; exact B1
        have ek105 : (m96 10).toInt = ((m 10)).toInt := by rw [W101 10 (by decide)]
        have B106 : sf_B 0 1 (m96 22) := by rw [W101 22 (by decide)]; exact B3
        have ek107 : (m96 22).toInt = ((m 22)).toInt := by rw [W101 22 (by decide)]
        have B108 : sf_B 3 3 (m96 13) := by rw [W101 13 (by decide)]; exact B9
        have B109 : sf_B 0 9 (m96 14) := by rw [W101 14 (by decide)]; exact B71
        have W110 : rf_W [10, 12, 13, 14, 16, 17, 18, 22] m m96 := (rf_W.refl [10, 12, 13, 14, 16, 17, 18, 22] m).trans W101 (by decide)
        have B111 : sf_B 0 4 (m96 17) := T99.2.2.1 17
        show pm_R _ 183 48 [.ref 41, .int 2, .int 9, .int a2] [] _ _
        refine pm_R_lo pm_M183 (pc_q := 49) rfl rfl rfl ?_
        refine pm_R_op pm_M183 (pc_q := 50) (st_q := [.int 0, .ref 41]) rfl rfl rfl ?_
        refine rf_R_put pm_M183 T99 (pc_q := 53) rfl rfl rfl (by decide) rfl rfl (sf_weak sf_k0 (by decide) (by decide)) rfl rfl (fun h112 m115 em116 T113 F114 => ?_)
        have F117 := F103.trans F114 (by decide)
        have B118 : sf_B 0 600 (m115 10) := by rw [em116]; exact B104
        have ek119 : (m115 10).toInt = ((m 10)).toInt := by rw [em116]; exact ek105
        have B120 : sf_B 3 3 (m115 13) := by rw [em116]; exact B108
        have B121 : sf_B 0 9 (m115 14) := by rw [em116]; exact B109
        have B122 : sf_B 1 4 (m115 17) := by rw [em116]; exact B102
        have ek123 : (m115 17).toInt = ((m96 17)).toInt := by rw [em116]; rfl
        have B124 : sf_B 0 0 (m115 22) := by rw [em116]; exact sf_k0
        have W126 : rf_W [10, 12, 13, 14, 16, 17, 18, 22] m m115 := by rw [em116]; exact W110.put (by decide)
        refine pm_R_lo pm_M183 (pc_q := 54) rfl rfl rfl ?_
        refine pm_R_cv pm_M183 (pc_q := 57) (a := 41) (ra := []) (rest := []) (ls_q := [.ref 41, pm_no, pm_no]) rfl rfl (Or.inl rfl) pm_M179 T113.2.1 rfl (by decide) (Nat.lt_of_lt_of_le (by decide) T113.1) rfl rfl (Nat.le_of_ble_eq_true rfl) rfl rfl ?_
        refine rf_c179 (d := d + 0) T113  (fun m129 w130 h131 T132 F133 W134 X135 X136 => ?_)
        have F137 := F117.trans F133 (by decide)
        have B138 : sf_B 1 4 (m129 17) := by rw [W134 17 (by decide)]; exact B122
        have ek139 : (m129 17).toInt = ((m96 17)).toInt := by rw [W134 17 (by decide)]; exact ek123
        have B140 : sf_B 0 0 (m129 22) := by rw [W134 22 (by decide)]; exact B124
        have ek141 : (m129 22).toInt = ((m115 22)).toInt := by rw [W134 22 (by decide)]
        have W142 : rf_W [10, 12, 13, 14, 16, 17, 18, 22] m m129 := W126.trans W134 (by decide)
        have B143 : sf_B 0 600 (m129 10) := T132.2.2.1 10
        show pm_R _ 183 57 [.ref 41, .int 2, .int 9, .int a2] [] _ _
        have R144 : (m 10).toInt ≤ (m129 10).toInt := (sf_aux53 _ _ _ ek119 X135)
        refine pm_R_op pm_M183 (pc_q := 58) (st_q := [.int 1]) rfl rfl rfl ?_
        have e145 := (F133.cell (by decide) (F114.cell (by decide) (F100.cell (by decide) e14)))
        exact pm_R_ret pm_M183 (r := some (.int 1)) rfl rfl (K2 m129 w130 h131 T132 F137 W142 (fun g eg => by rw [e5] at eg; cases eg; exact ⟨(m 14), (sf_weak B71 (by decide) (by decide)), e145⟩) (X136.imp (fun q => (sf_aux54 _ _ _ ek119 q)) id) (sf_aux51 _ _ R144) B138 B140)
  · skip
    refine pm_R_lo pm_M183 (pc_q := 9) rfl rfl rfl ?_
    refine pm_R_cv pm_M183 (pc_q := 12) (a := 41) (ra := []) (rest := []) (ls_q := [.ref 41]) rfl rfl (Or.inl rfl) pm_M184 T.2.1 rfl (by decide) (Nat.lt_of_lt_of_le (by decide) T.1) rfl rfl (Nat.le_of_ble_eq_true rfl) rfl rfl ?_
    refine pm_R_lo pm_M184 (pc_q := 1) rfl rfl rfl ?_
    refine pm_R_lo pm_M184 (pc_q := 2) rfl rfl rfl ?_
    have B146 : sf_B 0 600 (m 12) := T.2.2.1 12
    refine rf_R_get pm_M184 T (pc_q := 5) (v := .int (m 12)) rfl rfl rfl rfl ?_
    refine rf_R_put pm_M184 T (pc_q := 8) rfl rfl rfl (by decide) rfl rfl B146 rfl rfl (fun h147 m150 em151 T148 F149 => ?_)
    have F152 := (rf_G.refl [41, 52] h).trans F149 (by decide)
    have B153 : sf_B 0 600 (m150 10) := by rw [em151]; exact B1
    have ek154 : (m150 10).toInt = ((m 10)).toInt := by rw [em151]; rfl
    have B155 : sf_B 0 4 (m150 17) := by rw [em151]; exact B2
    have ek156 : (m150 17).toInt = ((m 17)).toInt := by rw [em151]; rfl
    have B157 : sf_B 0 1 (m150 22) := by rw [em151]; exact B3
    have ek158 : (m150 22).toInt = ((m 22)).toInt := by rw [em151]; rfl
    have B159 : sf_B 0 600 (m150 16) := by rw [em151]; exact B146
    have ek160 : (m150 16).toInt = ((m 12)).toInt := by rw [em151]; rfl
    have W161 : rf_W [10, 12, 13, 14, 16, 17, 18, 22] m m150 := by rw [em151]; exact (rf_W.refl [10, 12, 13, 14, 16, 17, 18, 22] m).put (by decide)
    refine pm_R_op pm_M184 (pc_q := 9) (st_q := [.int 0]) rfl rfl rfl ?_
    refine pm_R_ret pm_M184 (r := some (.int 0)) rfl rfl ?_
    show pm_R _ 183 12 [.ref 41, .int 2, .int 9, .int a2] [.int 0] _ _
    exact pm_R_ret pm_M183 (r := some (.int 0)) rfl rfl (K0 m150 w h147 T148 F152 W161 (sf_aux52 _ _ ek154))

theorem sf_aux56 (v0 v1 v2 v3 : Int) (q0 : v0 = 4 * v1) (q1 : v2 = 2 + v0) (q2 : v3 = v2 + 0) : v3 = 2 + 4 * v1 + 0 := by omega
theorem sf_aux57 (v0 v1 v2 v3 : Int) (q0 : v0 = 4 * v1) (q1 : v2 = 2 + v0) (q2 : v3 = v2 + 1) : v3 = 2 + 4 * v1 + 1 := by omega
theorem sf_aux58 (v0 v1 v2 v3 : Int) (q0 : v0 = 4 * v1) (q1 : v2 = 2 + v0) (q2 : v3 = v2 + 2) : v3 = 2 + 4 * v1 + 2 := by omega
theorem sf_aux59 (v0 v1 v2 v3 : Int) (q0 : v0 = 4 * v1) (q1 : v2 = 2 + v0) (q2 : v3 = v2 + 3) : v3 = 2 + 4 * v1 + 3 := by omega
set_option maxRecDepth 100000 in
set_option maxHeartbeats 4000000 in
/-- SilentTableModel.keep -/
theorem rf_c185_r {d : Nat} {m : Nat → Int32} {w : Int64} {h : pm_H} {Q : Option Value → pm_H → Prop}  (T : rf_T m w h) (X : rf_I 0 (m 17) h) (RB : (m 17).toInt = 0 → ∀ g : Nat → Int32, h.2.2 52 = .inl (0, 4, .inl g) → sf_B 0 5 (g (Int32.toNatClampNeg 0)) ∧ sf_B 0 5 (g (Int32.toNatClampNeg 1)) ∧ sf_B 0 5 (g (Int32.toNatClampNeg 2)) ∧ sf_B 0 4 (g (Int32.toNatClampNeg 3))) (K : ∀ (m_q : Nat → Int32) (w_q : Int64) (h_q : pm_H), rf_T m_q w_q h_q → rf_G [51] h h_q → rf_W [] m m_q → rf_I 0 (m_q 17) h_q → Q none h_q) : pm_R (d + 0) 185 0 [.ref 41, .int 0, .int 2, .int 4, .int 10, .int 0, pm_no, pm_no] [] h Q := by
  obtain ⟨f1, e2, ct3, bd4⟩ := X
  have B5 : sf_B 0 4 (m 17) := T.2.2.1 17
  obtain ⟨f6, e7, b8⟩ := T.2.2.2.1 52 (by decide) (by decide)
  refine pm_R_lo pm_M185 (pc_q := 1) rfl rfl rfl ?_
  refine rf_R_get pm_M185 T (pc_q := 4) (v := .ref 51) rfl rfl rfl rfl ?_
  refine pm_R_lo pm_M185 (pc_q := 5) rfl rfl rfl ?_
  refine pm_R_iald pm_M185 (pc_q := 6) (v := (f1 0)) rfl e2 (Nat.lt_of_lt_of_le (by decide) T.1) rfl rfl rfl ?_
  refine pm_R_lo pm_M185 (pc_q := 8) (ls_q := [.ref 41, .int 0, .int 2, .int 4, .int 10, .int 0, .int (f1 0), pm_no]) (st_q := []) rfl rfl rfl ?_
  refine pm_R_lo pm_M185 (pc_q := 10) rfl rfl rfl ?_
  refine pm_R_lo pm_M185 (pc_q := 12) rfl rfl rfl ?_
  refine pm_R_icmp pm_M185 (t := 16) (pc_q := 15) rfl rfl rfl (fun c11 => ?_) (fun c11 => ?_)
  · have B12 : sf_B 0 9 (f1 0) := sf_neH0 c11 sf_k10 ct3.1
    refine pm_R_op pm_M185 (pc_q := 17) (st_q := [.int 0]) rfl rfl rfl ?_
    refine pm_R_lo pm_M185 (pc_q := 19) (ls_q := [.ref 41, .int 0, .int 2, .int 4, .int 10, .int 0, .int (f1 0), .int 0]) (st_q := []) rfl rfl rfl ?_
    refine pm_R_lo pm_M185 (pc_q := 21) rfl rfl rfl ?_
    refine pm_R_lo pm_M185 (pc_q := 22) rfl rfl rfl ?_
    refine pm_R_br pm_M185 (pc_q := 25) (st_q := []) rfl rfl ?_
    refine pm_R_lo pm_M185 (pc_q := 26) rfl rfl rfl ?_
    refine rf_R_get pm_M185 T (pc_q := 29) (v := .ref 51) rfl rfl rfl rfl ?_
    refine pm_R_lo pm_M185 (pc_q := 30) rfl rfl rfl ?_
    refine pm_R_lo pm_M185 (pc_q := 31) rfl rfl rfl ?_
    refine pm_R_lo pm_M185 (pc_q := 33) rfl rfl rfl ?_
    refine sf_R_imul pm_M185 (pc_q := 34) rfl rfl sf_k4 B12 (by decide) (by decide) (by decide) (fun z13 e14 B15 => ?_)
    refine sf_R_iadd pm_M185 (pc_q := 35) rfl rfl sf_k2 B15 (by decide) (by decide) (fun z16 e17 B18 => ?_)
    refine pm_R_lo pm_M185 (pc_q := 37) rfl rfl rfl ?_
    refine sf_R_iadd pm_M185 (pc_q := 38) rfl rfl B18 sf_k0 (by decide) (by decide) (fun z19 e20 B21 => ?_)
    refine pm_R_lo pm_M185 (pc_q := 39) rfl rfl rfl ?_
    refine rf_R_get pm_M185 T (pc_q := 42) (v := .ref 52) rfl rfl rfl rfl ?_
    refine pm_R_lo pm_M185 (pc_q := 44) rfl rfl rfl ?_
    refine pm_R_lo pm_M185 (pc_q := 46) rfl rfl rfl ?_
    refine pm_R_op pm_M185 (pc_q := 47) (st_q := [.int 0, .ref 52, .int z19, .ref 51]) rfl rfl rfl ?_
    refine rf_R_ild pm_M185 T (pc_q := 48) rfl e7 (by decide) rfl rfl (fun z22 ez23 => ?_)
    have B24 : sf_B (-1) 99 z22 := ez23 ▸ b8 _
    refine rf_R_ist pm_M185 T (pc_q := 49) rfl e2 (by decide) (by decide) (sf_in B21 (by decide) (by decide)) ⟨_, rfl⟩ rfl (fun h25 T26 F27 e28 => ?_)
    have F29 := (rf_G.refl [51] h).trans F27 (by decide)
    have w30 := rf_w0r (sf_aux56 _ _ _ _ e14 e17 e20) B12 (by decide) (by decide)
    have ct31 : rf_ct 0 (upd f1 (Int32.toNatClampNeg z19) z22) := ⟨(sf_eqL (Eq.trans (sf_upd_ne (j := Int32.toNatClampNeg 0) B21 (by decide) (by decide)) rfl) (sf_weak B12 (by decide) (by decide))), (sf_eqL (Eq.trans (sf_upd_ne (j := Int32.toNatClampNeg 1) B21 (by decide) (by decide)) rfl) ct3.2)⟩
    have bd32 : (m 17).toInt = 0 → rf_bd 0 (upd f1 (Int32.toNatClampNeg z19) z22) := fun z => ((bd4 z).set (k := z19) (sf_eqR ez23 (RB z _ e7).1) w30.1 w30.2)
    refine pm_R_lo pm_M185 (pc_q := 52) (ls_q := [.ref 41, .int 0, .int 2, .int 4, .int 10, .int 0, .int (f1 0), .int 1]) (st_q := []) rfl rfl rfl ?_
    refine pm_R_br pm_M185 (pc_q := 19) rfl rfl ?_
    refine pm_R_lo pm_M185 (pc_q := 21) rfl rfl rfl ?_
    refine pm_R_lo pm_M185 (pc_q := 22) rfl rfl rfl ?_
    refine pm_R_br pm_M185 (pc_q := 25) (st_q := []) rfl rfl ?_
    refine pm_R_lo pm_M185 (pc_q := 26) rfl rfl rfl ?_
    refine rf_R_get pm_M185 T26 (pc_q := 29) (v := .ref 51) rfl rfl rfl rfl ?_
    refine pm_R_lo pm_M185 (pc_q := 30) rfl rfl rfl ?_
    refine pm_R_lo pm_M185 (pc_q := 31) rfl rfl rfl ?_
    refine pm_R_lo pm_M185 (pc_q := 33) rfl rfl rfl ?_
    refine sf_R_imulV pm_M185 (pc_q := 34) rfl rfl sf_k4 B12 (by decide) (by decide) (by decide) e14 ?_
    refine sf_R_iaddV pm_M185 (pc_q := 35) rfl rfl sf_k2 B15 (by decide) (by decide) e17 ?_
    refine pm_R_lo pm_M185 (pc_q := 37) rfl rfl rfl ?_
    refine sf_R_iadd pm_M185 (pc_q := 38) rfl rfl B18 sf_k1 (by decide) (by decide) (fun z33 e34 B35 => ?_)
    refine pm_R_lo pm_M185 (pc_q := 39) rfl rfl rfl ?_
    refine rf_R_get pm_M185 T26 (pc_q := 42) (v := .ref 52) rfl rfl rfl rfl ?_
    refine pm_R_lo pm_M185 (pc_q := 44) rfl rfl rfl ?_
    refine pm_R_lo pm_M185 (pc_q := 46) rfl rfl rfl ?_
    refine pm_R_op pm_M185 (pc_q := 47) (st_q := [.int 1, .ref 52, .int z33, .ref 51]) rfl rfl rfl ?_
    have e36 := (F27.cell (by decide) e7)
    refine rf_R_ild pm_M185 T26 (pc_q := 48) rfl e36 (by decide) rfl rfl (fun z37 ez38 => ?_)
    have B39 : sf_B (-1) 99 z37 := ez38 ▸ b8 _
    refine rf_R_ist pm_M185 T26 (pc_q := 49) rfl e28 (by decide) (by decide) (sf_in B35 (by decide) (by decide)) ⟨_, rfl⟩ rfl (fun h40 T41 F42 e43 => ?_)
    have F44 := F29.trans F42 (by decide)
    have w45 := rf_w0r (sf_aux57 _ _ _ _ e14 e17 e34) B12 (by decide) (by decide)
    have ct46 : rf_ct 0 (upd (upd f1 (Int32.toNatClampNeg z19) z22) (Int32.toNatClampNeg z33) z37) := ⟨(sf_eqL (Eq.trans (sf_upd_ne (j := Int32.toNatClampNeg 0) B35 (by decide) (by decide)) (Eq.trans (sf_upd_ne (j := Int32.toNatClampNeg 0) B21 (by decide) (by decide)) rfl)) (sf_weak B12 (by decide) (by decide))), (sf_eqL (Eq.trans (sf_upd_ne (j := Int32.toNatClampNeg 1) B35 (by decide) (by decide)) (Eq.trans (sf_upd_ne (j := Int32.toNatClampNeg 1) B21 (by decide) (by decide)) rfl)) ct3.2)⟩
    have bd47 : (m 17).toInt = 0 → rf_bd 0 (upd (upd f1 (Int32.toNatClampNeg z19) z22) (Int32.toNatClampNeg z33) z37) := fun z => ((bd32 z).set (k := z33) (sf_eqR ez38 (RB z _ e7).2.1) w45.1 w45.2)
    refine pm_R_lo pm_M185 (pc_q := 52) (ls_q := [.ref 41, .int 0, .int 2, .int 4, .int 10, .int 0, .int (f1 0), .int 2]) (st_q := []) rfl rfl rfl ?_
    refine pm_R_br pm_M185 (pc_q := 19) rfl rfl ?_
    refine pm_R_lo pm_M185 (pc_q := 21) rfl rfl rfl ?_
    refine pm_R_lo pm_M185 (pc_q := 22) rfl rfl rfl ?_
    refine pm_R_br pm_M185 (pc_q := 25) (st_q := []) rfl rfl ?_
    refine pm_R_lo pm_M185 (pc_q := 26) rfl rfl rfl ?_
    refine rf_R_get pm_M185 T41 (pc_q := 29) (v := .ref 51) rfl rfl rfl rfl ?_
    refine pm_R_lo pm_M185 (pc_q := 30) rfl rfl rfl ?_
    refine pm_R_lo pm_M185 (pc_q := 31) rfl rfl rfl ?_
    refine pm_R_lo pm_M185 (pc_q := 33) rfl rfl rfl ?_
    refine sf_R_imulV pm_M185 (pc_q := 34) rfl rfl sf_k4 B12 (by decide) (by decide) (by decide) e14 ?_
    refine sf_R_iaddV pm_M185 (pc_q := 35) rfl rfl sf_k2 B15 (by decide) (by decide) e17 ?_
    refine pm_R_lo pm_M185 (pc_q := 37) rfl rfl rfl ?_
    refine sf_R_iadd pm_M185 (pc_q := 38) rfl rfl B18 sf_k2 (by decide) (by decide) (fun z48 e49 B50 => ?_)
    refine pm_R_lo pm_M185 (pc_q := 39) rfl rfl rfl ?_
    refine rf_R_get pm_M185 T41 (pc_q := 42) (v := .ref 52) rfl rfl rfl rfl ?_
    refine pm_R_lo pm_M185 (pc_q := 44) rfl rfl rfl ?_
    refine pm_R_lo pm_M185 (pc_q := 46) rfl rfl rfl ?_
    refine pm_R_op pm_M185 (pc_q := 47) (st_q := [.int 2, .ref 52, .int z48, .ref 51]) rfl rfl rfl ?_
    have e51 := (F42.cell (by decide) e36)
    refine rf_R_ild pm_M185 T41 (pc_q := 48) rfl e51 (by decide) rfl rfl (fun z52 ez53 => ?_)
    have B54 : sf_B (-1) 99 z52 := ez53 ▸ b8 _
    refine rf_R_ist pm_M185 T41 (pc_q := 49) rfl e43 (by decide) (by decide) (sf_in B50 (by decide) (by decide)) ⟨_, rfl⟩ rfl (fun h55 T56 F57 e58 => ?_)
    have F59 := F44.trans F57 (by decide)
    have w60 := rf_w0r (sf_aux58 _ _ _ _ e14 e17 e49) B12 (by decide) (by decide)
    have ct61 : rf_ct 0 (upd (upd (upd f1 (Int32.toNatClampNeg z19) z22) (Int32.toNatClampNeg z33) z37) (Int32.toNatClampNeg z48) z52) := ⟨(sf_eqL (Eq.trans (sf_upd_ne (j := Int32.toNatClampNeg 0) B50 (by decide) (by decide)) (Eq.trans (sf_upd_ne (j := Int32.toNatClampNeg 0) B35 (by decide) (by decide)) (Eq.trans (sf_upd_ne (j := Int32.toNatClampNeg 0) B21 (by decide) (by decide)) rfl))) (sf_weak B12 (by decide) (by decide))), (sf_eqL (Eq.trans (sf_upd_ne (j := Int32.toNatClampNeg 1) B50 (by decide) (by decide)) (Eq.trans (sf_upd_ne (j := Int32.toNatClampNeg 1) B35 (by decide) (by decide)) (Eq.trans (sf_upd_ne (j := Int32.toNatClampNeg 1) B21 (by decide) (by decide)) rfl))) ct3.2)⟩
    have bd62 : (m 17).toInt = 0 → rf_bd 0 (upd (upd (upd f1 (Int32.toNatClampNeg z19) z22) (Int32.toNatClampNeg z33) z37) (Int32.toNatClampNeg z48) z52) := fun z => ((bd47 z).set (k := z48) (sf_eqR ez53 (RB z _ e7).2.2.1) w60.1 w60.2)
    refine pm_R_lo pm_M185 (pc_q := 52) (ls_q := [.ref 41, .int 0, .int 2, .int 4, .int 10, .int 0, .int (f1 0), .int 3]) (st_q := []) rfl rfl rfl ?_
    refine pm_R_br pm_M185 (pc_q := 19) rfl rfl ?_
    refine pm_R_lo pm_M185 (pc_q := 21) rfl rfl rfl ?_
    refine pm_R_lo pm_M185 (pc_q := 22) rfl rfl rfl ?_
    refine pm_R_br pm_M185 (pc_q := 25) (st_q := []) rfl rfl ?_
    refine pm_R_lo pm_M185 (pc_q := 26) rfl rfl rfl ?_
    refine rf_R_get pm_M185 T56 (pc_q := 29) (v := .ref 51) rfl rfl rfl rfl ?_
    refine pm_R_lo pm_M185 (pc_q := 30) rfl rfl rfl ?_
    refine pm_R_lo pm_M185 (pc_q := 31) rfl rfl rfl ?_
    refine pm_R_lo pm_M185 (pc_q := 33) rfl rfl rfl ?_
    refine sf_R_imulV pm_M185 (pc_q := 34) rfl rfl sf_k4 B12 (by decide) (by decide) (by decide) e14 ?_
    refine sf_R_iaddV pm_M185 (pc_q := 35) rfl rfl sf_k2 B15 (by decide) (by decide) e17 ?_
    refine pm_R_lo pm_M185 (pc_q := 37) rfl rfl rfl ?_
    refine sf_R_iadd pm_M185 (pc_q := 38) rfl rfl B18 sf_k3 (by decide) (by decide) (fun z63 e64 B65 => ?_)
    refine pm_R_lo pm_M185 (pc_q := 39) rfl rfl rfl ?_
    refine rf_R_get pm_M185 T56 (pc_q := 42) (v := .ref 52) rfl rfl rfl rfl ?_
    refine pm_R_lo pm_M185 (pc_q := 44) rfl rfl rfl ?_
    refine pm_R_lo pm_M185 (pc_q := 46) rfl rfl rfl ?_
    refine pm_R_op pm_M185 (pc_q := 47) (st_q := [.int 3, .ref 52, .int z63, .ref 51]) rfl rfl rfl ?_
    have e66 := (F57.cell (by decide) e51)
    refine rf_R_ild pm_M185 T56 (pc_q := 48) rfl e66 (by decide) rfl rfl (fun z67 ez68 => ?_)
    have B69 : sf_B (-1) 99 z67 := ez68 ▸ b8 _
    refine rf_R_ist pm_M185 T56 (pc_q := 49) rfl e58 (by decide) (by decide) (sf_in B65 (by decide) (by decide)) ⟨_, rfl⟩ rfl (fun h70 T71 F72 e73 => ?_)
    have F74 := F59.trans F72 (by decide)
    have w75 := rf_w0t (sf_aux59 _ _ _ _ e14 e17 e64) B12
    have ct76 : rf_ct 0 (upd (upd (upd (upd f1 (Int32.toNatClampNeg z19) z22) (Int32.toNatClampNeg z33) z37) (Int32.toNatClampNeg z48) z52) (Int32.toNatClampNeg z63) z67) := ⟨(sf_eqL (Eq.trans (sf_upd_ne (j := Int32.toNatClampNeg 0) B65 (by decide) (by decide)) (Eq.trans (sf_upd_ne (j := Int32.toNatClampNeg 0) B50 (by decide) (by decide)) (Eq.trans (sf_upd_ne (j := Int32.toNatClampNeg 0) B35 (by decide) (by decide)) (Eq.trans (sf_upd_ne (j := Int32.toNatClampNeg 0) B21 (by decide) (by decide)) rfl)))) (sf_weak B12 (by decide) (by decide))), (sf_eqL (Eq.trans (sf_upd_ne (j := Int32.toNatClampNeg 1) B65 (by decide) (by decide)) (Eq.trans (sf_upd_ne (j := Int32.toNatClampNeg 1) B50 (by decide) (by decide)) (Eq.trans (sf_upd_ne (j := Int32.toNatClampNeg 1) B35 (by decide) (by decide)) (Eq.trans (sf_upd_ne (j := Int32.toNatClampNeg 1) B21 (by decide) (by decide)) rfl)))) ct3.2)⟩
    have bd77 : (m 17).toInt = 0 → rf_bd 0 (upd (upd (upd (upd f1 (Int32.toNatClampNeg z19) z22) (Int32.toNatClampNeg z33) z37) (Int32.toNatClampNeg z48) z52) (Int32.toNatClampNeg z63) z67) := fun z => ((bd62 z).set (k := z63) (sf_eqR ez68 (RB z _ e7).2.2.2) w75.1 w75.2)
    refine pm_R_lo pm_M185 (pc_q := 52) (ls_q := [.ref 41, .int 0, .int 2, .int 4, .int 10, .int 0, .int (f1 0), .int 4]) (st_q := []) rfl rfl rfl ?_
    refine pm_R_br pm_M185 (pc_q := 19) rfl rfl ?_
    refine pm_R_lo pm_M185 (pc_q := 21) rfl rfl rfl ?_
    refine pm_R_lo pm_M185 (pc_q := 22) rfl rfl rfl ?_
    refine pm_R_br pm_M185 (pc_q := 55) (st_q := []) rfl rfl ?_
    refine pm_R_lo pm_M185 (pc_q := 56) rfl rfl rfl ?_
    refine rf_R_get pm_M185 T71 (pc_q := 59) (v := .ref 51) rfl rfl rfl rfl ?_
    refine pm_R_lo pm_M185 (pc_q := 60) rfl rfl rfl ?_
    refine pm_R_op pm_M185 (pc_q := 61) (st_q := [.int 0, .ref 51, .int 0, .ref 51]) rfl rfl rfl ?_
    refine pm_R_iald pm_M185 (pc_q := 62) (v := (f1 0)) rfl e73 (Nat.lt_of_lt_of_le (by decide) T71.1) rfl (Eq.trans (sf_upd_ne (j := Int32.toNatClampNeg 0) B65 (by decide) (by decide)) (Eq.trans (sf_upd_ne (j := Int32.toNatClampNeg 0) B50 (by decide) (by decide)) (Eq.trans (sf_upd_ne (j := Int32.toNatClampNeg 0) B35 (by decide) (by decide)) (Eq.trans (sf_upd_ne (j := Int32.toNatClampNeg 0) B21 (by decide) (by decide)) rfl)))) rfl ?_
    refine pm_R_op pm_M185 (pc_q := 63) (st_q := [.int 1, .int (f1 0), .int 0, .ref 51]) rfl rfl rfl ?_
    refine sf_R_iadd pm_M185 (pc_q := 64) rfl rfl B12 sf_k1 (by decide) (by decide) (fun z80 e81 B82 => ?_)
    refine rf_R_ist pm_M185 T71 (pc_q := 65) rfl e73 (by decide) (by decide) rfl ⟨_, rfl⟩ rfl (fun h83 T84 F85 e86 => ?_)
    have F87 := F74.trans F85 (by decide)
    have ct88 : rf_ct 0 (upd (upd (upd (upd (upd f1 (Int32.toNatClampNeg z19) z22) (Int32.toNatClampNeg z33) z37) (Int32.toNatClampNeg z48) z52) (Int32.toNatClampNeg z63) z67) (Int32.toNatClampNeg 0) z80) := ⟨(sf_eqL sf_upd_eq (sf_weak B82 (by decide) (by decide))), (sf_eqL (Eq.trans (sf_upd_nec (k := Int32.toNatClampNeg 0) (j := Int32.toNatClampNeg 1) (by decide)) (Eq.trans (sf_upd_ne (j := Int32.toNatClampNeg 1) B65 (by decide) (by decide)) (Eq.trans (sf_upd_ne (j := Int32.toNatClampNeg 1) B50 (by decide) (by decide)) (Eq.trans (sf_upd_ne (j := Int32.toNatClampNeg 1) B35 (by decide) (by decide)) (Eq.trans (sf_upd_ne (j := Int32.toNatClampNeg 1) B21 (by decide) (by decide)) rfl))))) ct3.2)⟩
    have bd89 : (m 17).toInt = 0 → rf_bd 0 (upd (upd (upd (upd (upd f1 (Int32.toNatClampNeg z19) z22) (Int32.toNatClampNeg z33) z37) (Int32.toNatClampNeg z48) z52) (Int32.toNatClampNeg z63) z67) (Int32.toNatClampNeg 0) z80) := fun z => ((bd77 z).set (k := 0) B82 (by decide) (by decide))
    exact pm_R_ret pm_M185 (r := none) rfl rfl (K m w h83 T84 F87 (rf_W.refl [] m) (⟨(upd (upd (upd (upd (upd f1 (Int32.toNatClampNeg z19) z22) (Int32.toNatClampNeg z33) z37) (Int32.toNatClampNeg z48) z52) (Int32.toNatClampNeg z63) z67) (Int32.toNatClampNeg 0) z80), e86, ct88, fun z => (bd89 z)⟩))
  · have B90 : sf_B 10 10 (f1 0) := sf_eqL (Classical.not_not.mp c11) sf_k10
    exact pm_R_ret pm_M185 (r := none) rfl rfl (K m w h T (rf_G.refl [51] h) (rf_W.refl [] m) (⟨f1, e2, ct3, fun z => (bd4 z)⟩))

theorem sf_aux60 (v0 v1 v2 v3 : Int) (q0 : v0 = 3 * v1) (q1 : v2 = 42 + v0) (q2 : v3 = v2 + 0) : v3 = 42 + 3 * v1 + 0 := by omega
theorem sf_aux61 (v0 v1 v2 v3 : Int) (q0 : v0 = 3 * v1) (q1 : v2 = 42 + v0) (q2 : v3 = v2 + 1) : v3 = 42 + 3 * v1 + 1 := by omega
theorem sf_aux62 (v0 v1 v2 v3 : Int) (q0 : v0 = 3 * v1) (q1 : v2 = 42 + v0) (q2 : v3 = v2 + 2) : v3 = 42 + 3 * v1 + 2 := by omega
set_option maxRecDepth 100000 in
set_option maxHeartbeats 4000000 in
/-- SilentTableModel.keep -/
theorem rf_c185_s {d : Nat} {m : Nat → Int32} {w : Int64} {h : pm_H} {Q : Option Value → pm_H → Prop}  (T : rf_T m w h) (X : rf_I 0 (m 17) h) (RB : (m 17).toInt = 0 → ∀ g : Nat → Int32, h.2.2 52 = .inl (0, 4, .inl g) → sf_B 0 9 (g (Int32.toNatClampNeg 0)) ∧ sf_B 0 5 (g (Int32.toNatClampNeg 1)) ∧ sf_B 0 49 (g (Int32.toNatClampNeg 2))) (K : ∀ (m_q : Nat → Int32) (w_q : Int64) (h_q : pm_H), rf_T m_q w_q h_q → rf_G [51] h h_q → rf_W [] m m_q → rf_I 0 (m_q 17) h_q → Q none h_q) : pm_R (d + 0) 185 0 [.ref 41, .int 1, .int 42, .int 3, .int 16, .int 0, pm_no, pm_no] [] h Q := by
  obtain ⟨f1, e2, ct3, bd4⟩ := X
  have B5 : sf_B 0 4 (m 17) := T.2.2.1 17
  obtain ⟨f6, e7, b8⟩ := T.2.2.2.1 52 (by decide) (by decide)
  refine pm_R_lo pm_M185 (pc_q := 1) rfl rfl rfl ?_
  refine rf_R_get pm_M185 T (pc_q := 4) (v := .ref 51) rfl rfl rfl rfl ?_
  refine pm_R_lo pm_M185 (pc_q := 5) rfl rfl rfl ?_
  refine pm_R_iald pm_M185 (pc_q := 6) (v := (f1 1)) rfl e2 (Nat.lt_of_lt_of_le (by decide) T.1) rfl rfl rfl ?_
  refine pm_R_lo pm_M185 (pc_q := 8) (ls_q := [.ref 41, .int 1, .int 42, .int 3, .int 16, .int 0, .int (f1 1), pm_no]) (st_q := []) rfl rfl rfl ?_
  refine pm_R_lo pm_M185 (pc_q := 10) rfl rfl rfl ?_
  refine pm_R_lo pm_M185 (pc_q := 12) rfl rfl rfl ?_
  refine pm_R_icmp pm_M185 (t := 16) (pc_q := 15) rfl rfl rfl (fun c11 => ?_) (fun c11 => ?_)
  · have B12 : sf_B 0 15 (f1 1) := sf_neH0 c11 sf_k16 ct3.2
    refine pm_R_op pm_M185 (pc_q := 17) (st_q := [.int 0]) rfl rfl rfl ?_
    refine pm_R_lo pm_M185 (pc_q := 19) (ls_q := [.ref 41, .int 1, .int 42, .int 3, .int 16, .int 0, .int (f1 1), .int 0]) (st_q := []) rfl rfl rfl ?_
    refine pm_R_lo pm_M185 (pc_q := 21) rfl rfl rfl ?_
    refine pm_R_lo pm_M185 (pc_q := 22) rfl rfl rfl ?_
    refine pm_R_br pm_M185 (pc_q := 25) (st_q := []) rfl rfl ?_
    refine pm_R_lo pm_M185 (pc_q := 26) rfl rfl rfl ?_
    refine rf_R_get pm_M185 T (pc_q := 29) (v := .ref 51) rfl rfl rfl rfl ?_
    refine pm_R_lo pm_M185 (pc_q := 30) rfl rfl rfl ?_
    refine pm_R_lo pm_M185 (pc_q := 31) rfl rfl rfl ?_
    refine pm_R_lo pm_M185 (pc_q := 33) rfl rfl rfl ?_
    refine sf_R_imul pm_M185 (pc_q := 34) rfl rfl sf_k3 B12 (by decide) (by decide) (by decide) (fun z13 e14 B15 => ?_)
    refine sf_R_iadd pm_M185 (pc_q := 35) rfl rfl sf_k42 B15 (by decide) (by decide) (fun z16 e17 B18 => ?_)
    refine pm_R_lo pm_M185 (pc_q := 37) rfl rfl rfl ?_
    refine sf_R_iadd pm_M185 (pc_q := 38) rfl rfl B18 sf_k0 (by decide) (by decide) (fun z19 e20 B21 => ?_)
    refine pm_R_lo pm_M185 (pc_q := 39) rfl rfl rfl ?_
    refine rf_R_get pm_M185 T (pc_q := 42) (v := .ref 52) rfl rfl rfl rfl ?_
    refine pm_R_lo pm_M185 (pc_q := 44) rfl rfl rfl ?_
    refine pm_R_lo pm_M185 (pc_q := 46) rfl rfl rfl ?_
    refine pm_R_op pm_M185 (pc_q := 47) (st_q := [.int 0, .ref 52, .int z19, .ref 51]) rfl rfl rfl ?_
    refine rf_R_ild pm_M185 T (pc_q := 48) rfl e7 (by decide) rfl rfl (fun z22 ez23 => ?_)
    have B24 : sf_B (-1) 99 z22 := ez23 ▸ b8 _
    refine rf_R_ist pm_M185 T (pc_q := 49) rfl e2 (by decide) (by decide) (sf_in B21 (by decide) (by decide)) ⟨_, rfl⟩ rfl (fun h25 T26 F27 e28 => ?_)
    have F29 := (rf_G.refl [51] h).trans F27 (by decide)
    have w30 := rf_w0s (sf_aux60 _ _ _ _ e14 e17 e20) B12
    have ct31 : rf_ct 0 (upd f1 (Int32.toNatClampNeg z19) z22) := ⟨(sf_eqL (Eq.trans (sf_upd_ne (j := Int32.toNatClampNeg 0) B21 (by decide) (by decide)) rfl) ct3.1), (sf_eqL (Eq.trans (sf_upd_ne (j := Int32.toNatClampNeg 1) B21 (by decide) (by decide)) rfl) (sf_weak B12 (by decide) (by decide)))⟩
    have bd32 : (m 17).toInt = 0 → rf_bd 0 (upd f1 (Int32.toNatClampNeg z19) z22) := fun z => ((bd4 z).set (k := z19) (sf_eqR ez23 (RB z _ e7).1) w30.1 w30.2)
    refine pm_R_lo pm_M185 (pc_q := 52) (ls_q := [.ref 41, .int 1, .int 42, .int 3, .int 16, .int 0, .int (f1 1), .int 1]) (st_q := []) rfl rfl rfl ?_
    refine pm_R_br pm_M185 (pc_q := 19) rfl rfl ?_
    refine pm_R_lo pm_M185 (pc_q := 21) rfl rfl rfl ?_
    refine pm_R_lo pm_M185 (pc_q := 22) rfl rfl rfl ?_
    refine pm_R_br pm_M185 (pc_q := 25) (st_q := []) rfl rfl ?_
    refine pm_R_lo pm_M185 (pc_q := 26) rfl rfl rfl ?_
    refine rf_R_get pm_M185 T26 (pc_q := 29) (v := .ref 51) rfl rfl rfl rfl ?_
    refine pm_R_lo pm_M185 (pc_q := 30) rfl rfl rfl ?_
    refine pm_R_lo pm_M185 (pc_q := 31) rfl rfl rfl ?_
    refine pm_R_lo pm_M185 (pc_q := 33) rfl rfl rfl ?_
    refine sf_R_imulV pm_M185 (pc_q := 34) rfl rfl sf_k3 B12 (by decide) (by decide) (by decide) e14 ?_
    refine sf_R_iaddV pm_M185 (pc_q := 35) rfl rfl sf_k42 B15 (by decide) (by decide) e17 ?_
    refine pm_R_lo pm_M185 (pc_q := 37) rfl rfl rfl ?_
    refine sf_R_iadd pm_M185 (pc_q := 38) rfl rfl B18 sf_k1 (by decide) (by decide) (fun z33 e34 B35 => ?_)
    refine pm_R_lo pm_M185 (pc_q := 39) rfl rfl rfl ?_
    refine rf_R_get pm_M185 T26 (pc_q := 42) (v := .ref 52) rfl rfl rfl rfl ?_
    refine pm_R_lo pm_M185 (pc_q := 44) rfl rfl rfl ?_
    refine pm_R_lo pm_M185 (pc_q := 46) rfl rfl rfl ?_
    refine pm_R_op pm_M185 (pc_q := 47) (st_q := [.int 1, .ref 52, .int z33, .ref 51]) rfl rfl rfl ?_
    have e36 := (F27.cell (by decide) e7)
    refine rf_R_ild pm_M185 T26 (pc_q := 48) rfl e36 (by decide) rfl rfl (fun z37 ez38 => ?_)
    have B39 : sf_B (-1) 99 z37 := ez38 ▸ b8 _
    refine rf_R_ist pm_M185 T26 (pc_q := 49) rfl e28 (by decide) (by decide) (sf_in B35 (by decide) (by decide)) ⟨_, rfl⟩ rfl (fun h40 T41 F42 e43 => ?_)
    have F44 := F29.trans F42 (by decide)
    have w45 := rf_w0k (sf_aux61 _ _ _ _ e14 e17 e34) B12
    have ct46 : rf_ct 0 (upd (upd f1 (Int32.toNatClampNeg z19) z22) (Int32.toNatClampNeg z33) z37) := ⟨(sf_eqL (Eq.trans (sf_upd_ne (j := Int32.toNatClampNeg 0) B35 (by decide) (by decide)) (Eq.trans (sf_upd_ne (j := Int32.toNatClampNeg 0) B21 (by decide) (by decide)) rfl)) ct3.1), (sf_eqL (Eq.trans (sf_upd_ne (j := Int32.toNatClampNeg 1) B35 (by decide) (by decide)) (Eq.trans (sf_upd_ne (j := Int32.toNatClampNeg 1) B21 (by decide) (by decide)) rfl)) (sf_weak B12 (by decide) (by decide)))⟩
    have bd47 : (m 17).toInt = 0 → rf_bd 0 (upd (upd f1 (Int32.toNatClampNeg z19) z22) (Int32.toNatClampNeg z33) z37) := fun z => ((bd32 z).set (k := z33) (sf_eqR ez38 (RB z _ e7).2.1) w45.1 w45.2)
    refine pm_R_lo pm_M185 (pc_q := 52) (ls_q := [.ref 41, .int 1, .int 42, .int 3, .int 16, .int 0, .int (f1 1), .int 2]) (st_q := []) rfl rfl rfl ?_
    refine pm_R_br pm_M185 (pc_q := 19) rfl rfl ?_
    refine pm_R_lo pm_M185 (pc_q := 21) rfl rfl rfl ?_
    refine pm_R_lo pm_M185 (pc_q := 22) rfl rfl rfl ?_
    refine pm_R_br pm_M185 (pc_q := 25) (st_q := []) rfl rfl ?_
    refine pm_R_lo pm_M185 (pc_q := 26) rfl rfl rfl ?_
    refine rf_R_get pm_M185 T41 (pc_q := 29) (v := .ref 51) rfl rfl rfl rfl ?_
    refine pm_R_lo pm_M185 (pc_q := 30) rfl rfl rfl ?_
    refine pm_R_lo pm_M185 (pc_q := 31) rfl rfl rfl ?_
    refine pm_R_lo pm_M185 (pc_q := 33) rfl rfl rfl ?_
    refine sf_R_imulV pm_M185 (pc_q := 34) rfl rfl sf_k3 B12 (by decide) (by decide) (by decide) e14 ?_
    refine sf_R_iaddV pm_M185 (pc_q := 35) rfl rfl sf_k42 B15 (by decide) (by decide) e17 ?_
    refine pm_R_lo pm_M185 (pc_q := 37) rfl rfl rfl ?_
    refine sf_R_iadd pm_M185 (pc_q := 38) rfl rfl B18 sf_k2 (by decide) (by decide) (fun z48 e49 B50 => ?_)
    refine pm_R_lo pm_M185 (pc_q := 39) rfl rfl rfl ?_
    refine rf_R_get pm_M185 T41 (pc_q := 42) (v := .ref 52) rfl rfl rfl rfl ?_
    refine pm_R_lo pm_M185 (pc_q := 44) rfl rfl rfl ?_
    refine pm_R_lo pm_M185 (pc_q := 46) rfl rfl rfl ?_
    refine pm_R_op pm_M185 (pc_q := 47) (st_q := [.int 2, .ref 52, .int z48, .ref 51]) rfl rfl rfl ?_
    have e51 := (F42.cell (by decide) e36)
    refine rf_R_ild pm_M185 T41 (pc_q := 48) rfl e51 (by decide) rfl rfl (fun z52 ez53 => ?_)
    have B54 : sf_B (-1) 99 z52 := ez53 ▸ b8 _
    refine rf_R_ist pm_M185 T41 (pc_q := 49) rfl e43 (by decide) (by decide) (sf_in B50 (by decide) (by decide)) ⟨_, rfl⟩ rfl (fun h55 T56 F57 e58 => ?_)
    have F59 := F44.trans F57 (by decide)
    have w60 := rf_w0v (sf_aux62 _ _ _ _ e14 e17 e49) B12
    have ct61 : rf_ct 0 (upd (upd (upd f1 (Int32.toNatClampNeg z19) z22) (Int32.toNatClampNeg z33) z37) (Int32.toNatClampNeg z48) z52) := ⟨(sf_eqL (Eq.trans (sf_upd_ne (j := Int32.toNatClampNeg 0) B50 (by decide) (by decide)) (Eq.trans (sf_upd_ne (j := Int32.toNatClampNeg 0) B35 (by decide) (by decide)) (Eq.trans (sf_upd_ne (j := Int32.toNatClampNeg 0) B21 (by decide) (by decide)) rfl))) ct3.1), (sf_eqL (Eq.trans (sf_upd_ne (j := Int32.toNatClampNeg 1) B50 (by decide) (by decide)) (Eq.trans (sf_upd_ne (j := Int32.toNatClampNeg 1) B35 (by decide) (by decide)) (Eq.trans (sf_upd_ne (j := Int32.toNatClampNeg 1) B21 (by decide) (by decide)) rfl))) (sf_weak B12 (by decide) (by decide)))⟩
    have bd62 : (m 17).toInt = 0 → rf_bd 0 (upd (upd (upd f1 (Int32.toNatClampNeg z19) z22) (Int32.toNatClampNeg z33) z37) (Int32.toNatClampNeg z48) z52) := fun z => ((bd47 z).set (k := z48) (sf_eqR ez53 (RB z _ e7).2.2) w60.1 w60.2)
    refine pm_R_lo pm_M185 (pc_q := 52) (ls_q := [.ref 41, .int 1, .int 42, .int 3, .int 16, .int 0, .int (f1 1), .int 3]) (st_q := []) rfl rfl rfl ?_
    refine pm_R_br pm_M185 (pc_q := 19) rfl rfl ?_
    refine pm_R_lo pm_M185 (pc_q := 21) rfl rfl rfl ?_
    refine pm_R_lo pm_M185 (pc_q := 22) rfl rfl rfl ?_
    refine pm_R_br pm_M185 (pc_q := 55) (st_q := []) rfl rfl ?_
    refine pm_R_lo pm_M185 (pc_q := 56) rfl rfl rfl ?_
    refine rf_R_get pm_M185 T56 (pc_q := 59) (v := .ref 51) rfl rfl rfl rfl ?_
    refine pm_R_lo pm_M185 (pc_q := 60) rfl rfl rfl ?_
    refine pm_R_op pm_M185 (pc_q := 61) (st_q := [.int 1, .ref 51, .int 1, .ref 51]) rfl rfl rfl ?_
    refine pm_R_iald pm_M185 (pc_q := 62) (v := (f1 1)) rfl e58 (Nat.lt_of_lt_of_le (by decide) T56.1) rfl (Eq.trans (sf_upd_ne (j := Int32.toNatClampNeg 1) B50 (by decide) (by decide)) (Eq.trans (sf_upd_ne (j := Int32.toNatClampNeg 1) B35 (by decide) (by decide)) (Eq.trans (sf_upd_ne (j := Int32.toNatClampNeg 1) B21 (by decide) (by decide)) rfl))) rfl ?_
    refine pm_R_op pm_M185 (pc_q := 63) (st_q := [.int 1, .int (f1 1), .int 1, .ref 51]) rfl rfl rfl ?_
    refine sf_R_iadd pm_M185 (pc_q := 64) rfl rfl B12 sf_k1 (by decide) (by decide) (fun z65 e66 B67 => ?_)
    refine rf_R_ist pm_M185 T56 (pc_q := 65) rfl e58 (by decide) (by decide) rfl ⟨_, rfl⟩ rfl (fun h68 T69 F70 e71 => ?_)
    have F72 := F59.trans F70 (by decide)
    have ct73 : rf_ct 0 (upd (upd (upd (upd f1 (Int32.toNatClampNeg z19) z22) (Int32.toNatClampNeg z33) z37) (Int32.toNatClampNeg z48) z52) (Int32.toNatClampNeg 1) z65) := ⟨(sf_eqL (Eq.trans (sf_upd_nec (k := Int32.toNatClampNeg 1) (j := Int32.toNatClampNeg 0) (by decide)) (Eq.trans (sf_upd_ne (j := Int32.toNatClampNeg 0) B50 (by decide) (by decide)) (Eq.trans (sf_upd_ne (j := Int32.toNatClampNeg 0) B35 (by decide) (by decide)) (Eq.trans (sf_upd_ne (j := Int32.toNatClampNeg 0) B21 (by decide) (by decide)) rfl)))) ct3.1), (sf_eqL sf_upd_eq (sf_weak B67 (by decide) (by decide)))⟩
    have bd74 : (m 17).toInt = 0 → rf_bd 0 (upd (upd (upd (upd f1 (Int32.toNatClampNeg z19) z22) (Int32.toNatClampNeg z33) z37) (Int32.toNatClampNeg z48) z52) (Int32.toNatClampNeg 1) z65) := fun z => ((bd62 z).set (k := 1) B67 (by decide) (by decide))
    exact pm_R_ret pm_M185 (r := none) rfl rfl (K m w h68 T69 F72 (rf_W.refl [] m) (⟨(upd (upd (upd (upd f1 (Int32.toNatClampNeg z19) z22) (Int32.toNatClampNeg z33) z37) (Int32.toNatClampNeg z48) z52) (Int32.toNatClampNeg 1) z65), e71, ct73, fun z => (bd74 z)⟩))
  · have B75 : sf_B 16 16 (f1 1) := sf_eqL (Classical.not_not.mp c11) sf_k16
    exact pm_R_ret pm_M185 (r := none) rfl rfl (K m w h T (rf_G.refl [51] h) (rf_W.refl [] m) (⟨f1, e2, ct3, fun z => (bd4 z)⟩))

theorem sf_aux63 (v0 v1 v2 v3 : Int) (q0 : v0 = 3 * v1) (q1 : v2 = 2 + v0) (q2 : v3 = v2 + 0) : v3 = 2 + 3 * v1 + 0 := by omega
theorem sf_aux64 (v0 v1 v2 v3 : Int) (q0 : v0 = 3 * v1) (q1 : v2 = 2 + v0) (q2 : v3 = v2 + 1) : v3 = 2 + 3 * v1 + 1 := by omega
theorem sf_aux65 (v0 v1 v2 v3 : Int) (q0 : v0 = 3 * v1) (q1 : v2 = 2 + v0) (q2 : v3 = v2 + 2) : v3 = 2 + 3 * v1 + 2 := by omega
set_option maxRecDepth 100000 in
set_option maxHeartbeats 4000000 in
/-- SilentTableModel.keep -/
theorem rf_c185_d {d : Nat} {m : Nat → Int32} {w : Int64} {h : pm_H} {Q : Option Value → pm_H → Prop}  (T : rf_T m w h) (X : rf_I 2 (m 17) h) (RB : (m 17).toInt = 0 → ∀ g : Nat → Int32, h.2.2 52 = .inl (0, 4, .inl g) → sf_B 0 2 (g (Int32.toNatClampNeg 0)) ∧ sf_B 0 5 (g (Int32.toNatClampNeg 1)) ∧ sf_B (-1) 9 (g (Int32.toNatClampNeg 2))) (K : ∀ (m_q : Nat → Int32) (w_q : Int64) (h_q : pm_H), rf_T m_q w_q h_q → rf_G [51] h h_q → rf_W [] m m_q → rf_I 2 (m_q 17) h_q → Q none h_q) : pm_R (d + 0) 185 0 [.ref 41, .int 1, .int 2, .int 3, .int 50, .int 0, pm_no, pm_no] [] h Q := by
  obtain ⟨f1, e2, ct3, bd4⟩ := X
  have B5 : sf_B 0 4 (m 17) := T.2.2.1 17
  obtain ⟨f6, e7, b8⟩ := T.2.2.2.1 52 (by decide) (by decide)
  refine pm_R_lo pm_M185 (pc_q := 1) rfl rfl rfl ?_
  refine rf_R_get pm_M185 T (pc_q := 4) (v := .ref 51) rfl rfl rfl rfl ?_
  refine pm_R_lo pm_M185 (pc_q := 5) rfl rfl rfl ?_
  refine pm_R_iald pm_M185 (pc_q := 6) (v := (f1 1)) rfl e2 (Nat.lt_of_lt_of_le (by decide) T.1) rfl rfl rfl ?_
  refine pm_R_lo pm_M185 (pc_q := 8) (ls_q := [.ref 41, .int 1, .int 2, .int 3, .int 50, .int 0, .int (f1 1), pm_no]) (st_q := []) rfl rfl rfl ?_
  refine pm_R_lo pm_M185 (pc_q := 10) rfl rfl rfl ?_
  refine pm_R_lo pm_M185 (pc_q := 12) rfl rfl rfl ?_
  refine pm_R_icmp pm_M185 (t := 16) (pc_q := 15) rfl rfl rfl (fun c11 => ?_) (fun c11 => ?_)
  · have B12 : sf_B 0 49 (f1 1) := sf_neH0 c11 sf_k50 ct3
    refine pm_R_op pm_M185 (pc_q := 17) (st_q := [.int 0]) rfl rfl rfl ?_
    refine pm_R_lo pm_M185 (pc_q := 19) (ls_q := [.ref 41, .int 1, .int 2, .int 3, .int 50, .int 0, .int (f1 1), .int 0]) (st_q := []) rfl rfl rfl ?_
    refine pm_R_lo pm_M185 (pc_q := 21) rfl rfl rfl ?_
    refine pm_R_lo pm_M185 (pc_q := 22) rfl rfl rfl ?_
    refine pm_R_br pm_M185 (pc_q := 25) (st_q := []) rfl rfl ?_
    refine pm_R_lo pm_M185 (pc_q := 26) rfl rfl rfl ?_
    refine rf_R_get pm_M185 T (pc_q := 29) (v := .ref 51) rfl rfl rfl rfl ?_
    refine pm_R_lo pm_M185 (pc_q := 30) rfl rfl rfl ?_
    refine pm_R_lo pm_M185 (pc_q := 31) rfl rfl rfl ?_
    refine pm_R_lo pm_M185 (pc_q := 33) rfl rfl rfl ?_
    refine sf_R_imul pm_M185 (pc_q := 34) rfl rfl sf_k3 B12 (by decide) (by decide) (by decide) (fun z13 e14 B15 => ?_)
    refine sf_R_iadd pm_M185 (pc_q := 35) rfl rfl sf_k2 B15 (by decide) (by decide) (fun z16 e17 B18 => ?_)
    refine pm_R_lo pm_M185 (pc_q := 37) rfl rfl rfl ?_
    refine sf_R_iadd pm_M185 (pc_q := 38) rfl rfl B18 sf_k0 (by decide) (by decide) (fun z19 e20 B21 => ?_)
    refine pm_R_lo pm_M185 (pc_q := 39) rfl rfl rfl ?_
    refine rf_R_get pm_M185 T (pc_q := 42) (v := .ref 52) rfl rfl rfl rfl ?_
    refine pm_R_lo pm_M185 (pc_q := 44) rfl rfl rfl ?_
    refine pm_R_lo pm_M185 (pc_q := 46) rfl rfl rfl ?_
    refine pm_R_op pm_M185 (pc_q := 47) (st_q := [.int 0, .ref 52, .int z19, .ref 51]) rfl rfl rfl ?_
    refine rf_R_ild pm_M185 T (pc_q := 48) rfl e7 (by decide) rfl rfl (fun z22 ez23 => ?_)
    have B24 : sf_B (-1) 99 z22 := ez23 ▸ b8 _
    refine rf_R_ist pm_M185 T (pc_q := 49) rfl e2 (by decide) (by decide) (sf_in B21 (by decide) (by decide)) ⟨_, rfl⟩ rfl (fun h25 T26 F27 e28 => ?_)
    have F29 := (rf_G.refl [51] h).trans F27 (by decide)
    have w30 := rf_w2s (sf_aux63 _ _ _ _ e14 e17 e20) B12
    have ct31 : rf_ct 2 (upd f1 (Int32.toNatClampNeg z19) z22) := (sf_eqL (Eq.trans (sf_upd_ne (j := Int32.toNatClampNeg 1) B21 (by decide) (by decide)) rfl) (sf_weak B12 (by decide) (by decide)))
    have bd32 : (m 17).toInt = 0 → rf_bd 2 (upd f1 (Int32.toNatClampNeg z19) z22) := fun z => ((bd4 z).set (k := z19) (sf_eqR ez23 (RB z _ e7).1) w30.1 w30.2)
    refine pm_R_lo pm_M185 (pc_q := 52) (ls_q := [.ref 41, .int 1, .int 2, .int 3, .int 50, .int 0, .int (f1 1), .int 1]) (st_q := []) rfl rfl rfl ?_
    refine pm_R_br pm_M185 (pc_q := 19) rfl rfl ?_
    refine pm_R_lo pm_M185 (pc_q := 21) rfl rfl rfl ?_
    refine pm_R_lo pm_M185 (pc_q := 22) rfl rfl rfl ?_
    refine pm_R_br pm_M185 (pc_q := 25) (st_q := []) rfl rfl ?_
    refine pm_R_lo pm_M185 (pc_q := 26) rfl rfl rfl ?_
    refine rf_R_get pm_M185 T26 (pc_q := 29) (v := .ref 51) rfl rfl rfl rfl ?_
    refine pm_R_lo pm_M185 (pc_q := 30) rfl rfl rfl ?_
    refine pm_R_lo pm_M185 (pc_q := 31) rfl rfl rfl ?_
    refine pm_R_lo pm_M185 (pc_q := 33) rfl rfl rfl ?_
    refine sf_R_imulV pm_M185 (pc_q := 34) rfl rfl sf_k3 B12 (by decide) (by decide) (by decide) e14 ?_
    refine sf_R_iaddV pm_M185 (pc_q := 35) rfl rfl sf_k2 B15 (by decide) (by decide) e17 ?_
    refine pm_R_lo pm_M185 (pc_q := 37) rfl rfl rfl ?_
    refine sf_R_iadd pm_M185 (pc_q := 38) rfl rfl B18 sf_k1 (by decide) (by decide) (fun z33 e34 B35 => ?_)
    refine pm_R_lo pm_M185 (pc_q := 39) rfl rfl rfl ?_
    refine rf_R_get pm_M185 T26 (pc_q := 42) (v := .ref 52) rfl rfl rfl rfl ?_
    refine pm_R_lo pm_M185 (pc_q := 44) rfl rfl rfl ?_
    refine pm_R_lo pm_M185 (pc_q := 46) rfl rfl rfl ?_
    refine pm_R_op pm_M185 (pc_q := 47) (st_q := [.int 1, .ref 52, .int z33, .ref 51]) rfl rfl rfl ?_
    have e36 := (F27.cell (by decide) e7)
    refine rf_R_ild pm_M185 T26 (pc_q := 48) rfl e36 (by decide) rfl rfl (fun z37 ez38 => ?_)
    have B39 : sf_B (-1) 99 z37 := ez38 ▸ b8 _
    refine rf_R_ist pm_M185 T26 (pc_q := 49) rfl e28 (by decide) (by decide) (sf_in B35 (by decide) (by decide)) ⟨_, rfl⟩ rfl (fun h40 T41 F42 e43 => ?_)
    have F44 := F29.trans F42 (by decide)
    have w45 := rf_w2w (sf_aux64 _ _ _ _ e14 e17 e34) B12
    have ct46 : rf_ct 2 (upd (upd f1 (Int32.toNatClampNeg z19) z22) (Int32.toNatClampNeg z33) z37) := (sf_eqL (Eq.trans (sf_upd_ne (j := Int32.toNatClampNeg 1) B35 (by decide) (by decide)) (Eq.trans (sf_upd_ne (j := Int32.toNatClampNeg 1) B21 (by decide) (by decide)) rfl)) (sf_weak B12 (by decide) (by decide)))
    have bd47 : (m 17).toInt = 0 → rf_bd 2 (upd (upd f1 (Int32.toNatClampNeg z19) z22) (Int32.toNatClampNeg z33) z37) := fun z => ((bd32 z).set (k := z33) (sf_eqR ez38 (RB z _ e7).2.1) w45.1 w45.2)
    refine pm_R_lo pm_M185 (pc_q := 52) (ls_q := [.ref 41, .int 1, .int 2, .int 3, .int 50, .int 0, .int (f1 1), .int 2]) (st_q := []) rfl rfl rfl ?_
    refine pm_R_br pm_M185 (pc_q := 19) rfl rfl ?_
    refine pm_R_lo pm_M185 (pc_q := 21) rfl rfl rfl ?_
    refine pm_R_lo pm_M185 (pc_q := 22) rfl rfl rfl ?_
    refine pm_R_br pm_M185 (pc_q := 25) (st_q := []) rfl rfl ?_
    refine pm_R_lo pm_M185 (pc_q := 26) rfl rfl rfl ?_
    refine rf_R_get pm_M185 T41 (pc_q := 29) (v := .ref 51) rfl rfl rfl rfl ?_
    refine pm_R_lo pm_M185 (pc_q := 30) rfl rfl rfl ?_
    refine pm_R_lo pm_M185 (pc_q := 31) rfl rfl rfl ?_
    refine pm_R_lo pm_M185 (pc_q := 33) rfl rfl rfl ?_
    refine sf_R_imulV pm_M185 (pc_q := 34) rfl rfl sf_k3 B12 (by decide) (by decide) (by decide) e14 ?_
    refine sf_R_iaddV pm_M185 (pc_q := 35) rfl rfl sf_k2 B15 (by decide) (by decide) e17 ?_
    refine pm_R_lo pm_M185 (pc_q := 37) rfl rfl rfl ?_
    refine sf_R_iadd pm_M185 (pc_q := 38) rfl rfl B18 sf_k2 (by decide) (by decide) (fun z48 e49 B50 => ?_)
    refine pm_R_lo pm_M185 (pc_q := 39) rfl rfl rfl ?_
    refine rf_R_get pm_M185 T41 (pc_q := 42) (v := .ref 52) rfl rfl rfl rfl ?_
    refine pm_R_lo pm_M185 (pc_q := 44) rfl rfl rfl ?_
    refine pm_R_lo pm_M185 (pc_q := 46) rfl rfl rfl ?_
    refine pm_R_op pm_M185 (pc_q := 47) (st_q := [.int 2, .ref 52, .int z48, .ref 51]) rfl rfl rfl ?_
    have e51 := (F42.cell (by decide) e36)
    refine rf_R_ild pm_M185 T41 (pc_q := 48) rfl e51 (by decide) rfl rfl (fun z52 ez53 => ?_)
    have B54 : sf_B (-1) 99 z52 := ez53 ▸ b8 _
    refine rf_R_ist pm_M185 T41 (pc_q := 49) rfl e43 (by decide) (by decide) (sf_in B50 (by decide) (by decide)) ⟨_, rfl⟩ rfl (fun h55 T56 F57 e58 => ?_)
    have F59 := F44.trans F57 (by decide)
    have w60 := rf_w2o (sf_aux65 _ _ _ _ e14 e17 e49) B12
    have ct61 : rf_ct 2 (upd (upd (upd f1 (Int32.toNatClampNeg z19) z22) (Int32.toNatClampNeg z33) z37) (Int32.toNatClampNeg z48) z52) := (sf_eqL (Eq.trans (sf_upd_ne (j := Int32.toNatClampNeg 1) B50 (by decide) (by decide)) (Eq.trans (sf_upd_ne (j := Int32.toNatClampNeg 1) B35 (by decide) (by decide)) (Eq.trans (sf_upd_ne (j := Int32.toNatClampNeg 1) B21 (by decide) (by decide)) rfl))) (sf_weak B12 (by decide) (by decide)))
    have bd62 : (m 17).toInt = 0 → rf_bd 2 (upd (upd (upd f1 (Int32.toNatClampNeg z19) z22) (Int32.toNatClampNeg z33) z37) (Int32.toNatClampNeg z48) z52) := fun z => ((bd47 z).set (k := z48) (sf_eqR ez53 (RB z _ e7).2.2) w60.1 w60.2)
    refine pm_R_lo pm_M185 (pc_q := 52) (ls_q := [.ref 41, .int 1, .int 2, .int 3, .int 50, .int 0, .int (f1 1), .int 3]) (st_q := []) rfl rfl rfl ?_
    refine pm_R_br pm_M185 (pc_q := 19) rfl rfl ?_
    refine pm_R_lo pm_M185 (pc_q := 21) rfl rfl rfl ?_
    refine pm_R_lo pm_M185 (pc_q := 22) rfl rfl rfl ?_
    refine pm_R_br pm_M185 (pc_q := 55) (st_q := []) rfl rfl ?_
    refine pm_R_lo pm_M185 (pc_q := 56) rfl rfl rfl ?_
    refine rf_R_get pm_M185 T56 (pc_q := 59) (v := .ref 51) rfl rfl rfl rfl ?_
    refine pm_R_lo pm_M185 (pc_q := 60) rfl rfl rfl ?_
    refine pm_R_op pm_M185 (pc_q := 61) (st_q := [.int 1, .ref 51, .int 1, .ref 51]) rfl rfl rfl ?_
    refine pm_R_iald pm_M185 (pc_q := 62) (v := (f1 1)) rfl e58 (Nat.lt_of_lt_of_le (by decide) T56.1) rfl (Eq.trans (sf_upd_ne (j := Int32.toNatClampNeg 1) B50 (by decide) (by decide)) (Eq.trans (sf_upd_ne (j := Int32.toNatClampNeg 1) B35 (by decide) (by decide)) (Eq.trans (sf_upd_ne (j := Int32.toNatClampNeg 1) B21 (by decide) (by decide)) rfl))) rfl ?_
    refine pm_R_op pm_M185 (pc_q := 63) (st_q := [.int 1, .int (f1 1), .int 1, .ref 51]) rfl rfl rfl ?_
    refine sf_R_iadd pm_M185 (pc_q := 64) rfl rfl B12 sf_k1 (by decide) (by decide) (fun z65 e66 B67 => ?_)
    refine rf_R_ist pm_M185 T56 (pc_q := 65) rfl e58 (by decide) (by decide) rfl ⟨_, rfl⟩ rfl (fun h68 T69 F70 e71 => ?_)
    have F72 := F59.trans F70 (by decide)
    have ct73 : rf_ct 2 (upd (upd (upd (upd f1 (Int32.toNatClampNeg z19) z22) (Int32.toNatClampNeg z33) z37) (Int32.toNatClampNeg z48) z52) (Int32.toNatClampNeg 1) z65) := (sf_eqL sf_upd_eq (sf_weak B67 (by decide) (by decide)))
    have bd74 : (m 17).toInt = 0 → rf_bd 2 (upd (upd (upd (upd f1 (Int32.toNatClampNeg z19) z22) (Int32.toNatClampNeg z33) z37) (Int32.toNatClampNeg z48) z52) (Int32.toNatClampNeg 1) z65) := fun z => ((bd62 z).set (k := 1) B67 (by decide) (by decide))
    exact pm_R_ret pm_M185 (r := none) rfl rfl (K m w h68 T69 F72 (rf_W.refl [] m) (⟨(upd (upd (upd (upd f1 (Int32.toNatClampNeg z19) z22) (Int32.toNatClampNeg z33) z37) (Int32.toNatClampNeg z48) z52) (Int32.toNatClampNeg 1) z65), e71, ct73, fun z => (bd74 z)⟩))
  · have B75 : sf_B 50 50 (f1 1) := sf_eqL (Classical.not_not.mp c11) sf_k50
    exact pm_R_ret pm_M185 (r := none) rfl rfl (K m w h T (rf_G.refl [51] h) (rf_W.refl [] m) (⟨f1, e2, ct3, fun z => (bd4 z)⟩))

theorem sf_aux66 (v0 v1 v2 v3 : Int) (q0 : v0 = 3 * v1) (q1 : v2 = 1 + v0) (q2 : v3 = v2 + 0) : v3 = 1 + 3 * v1 + 0 := by omega
theorem sf_aux67 (v0 v1 v2 v3 : Int) (q0 : v0 = 3 * v1) (q1 : v2 = 1 + v0) (q2 : v3 = v2 + 1) : v3 = 1 + 3 * v1 + 1 := by omega
theorem sf_aux68 (v0 v1 v2 v3 : Int) (q0 : v0 = 3 * v1) (q1 : v2 = 1 + v0) (q2 : v3 = v2 + 2) : v3 = 1 + 3 * v1 + 2 := by omega
set_option maxRecDepth 100000 in
set_option maxHeartbeats 4000000 in
/-- SilentTableModel.keep -/
theorem rf_c185_l {d : Nat} {m : Nat → Int32} {w : Int64} {h : pm_H} {Q : Option Value → pm_H → Prop}  (T : rf_T m w h) (X : rf_I 3 (m 17) h) (RB : (m 17).toInt = 0 → ∀ g : Nat → Int32, h.2.2 52 = .inl (0, 4, .inl g) → sf_B 0 5 (g (Int32.toNatClampNeg 0)) ∧ sf_B 0 9 (g (Int32.toNatClampNeg 1)) ∧ sf_B (-1) 9 (g (Int32.toNatClampNeg 2))) (K : ∀ (m_q : Nat → Int32) (w_q : Int64) (h_q : pm_H), rf_T m_q w_q h_q → rf_G [51] h h_q → rf_W [] m m_q → rf_I 3 (m_q 17) h_q → Q none h_q) : pm_R (d + 0) 185 0 [.ref 41, .int 0, .int 1, .int 3, .int 8, .int 0, pm_no, pm_no] [] h Q := by
  obtain ⟨f1, e2, ct3, bd4⟩ := X
  have B5 : sf_B 0 4 (m 17) := T.2.2.1 17
  obtain ⟨f6, e7, b8⟩ := T.2.2.2.1 52 (by decide) (by decide)
  refine pm_R_lo pm_M185 (pc_q := 1) rfl rfl rfl ?_
  refine rf_R_get pm_M185 T (pc_q := 4) (v := .ref 51) rfl rfl rfl rfl ?_
  refine pm_R_lo pm_M185 (pc_q := 5) rfl rfl rfl ?_
  refine pm_R_iald pm_M185 (pc_q := 6) (v := (f1 0)) rfl e2 (Nat.lt_of_lt_of_le (by decide) T.1) rfl rfl rfl ?_
  refine pm_R_lo pm_M185 (pc_q := 8) (ls_q := [.ref 41, .int 0, .int 1, .int 3, .int 8, .int 0, .int (f1 0), pm_no]) (st_q := []) rfl rfl rfl ?_
  refine pm_R_lo pm_M185 (pc_q := 10) rfl rfl rfl ?_
  refine pm_R_lo pm_M185 (pc_q := 12) rfl rfl rfl ?_
  refine pm_R_icmp pm_M185 (t := 16) (pc_q := 15) rfl rfl rfl (fun c11 => ?_) (fun c11 => ?_)
  · have B12 : sf_B 0 7 (f1 0) := sf_neH0 c11 sf_k8 ct3
    refine pm_R_op pm_M185 (pc_q := 17) (st_q := [.int 0]) rfl rfl rfl ?_
    refine pm_R_lo pm_M185 (pc_q := 19) (ls_q := [.ref 41, .int 0, .int 1, .int 3, .int 8, .int 0, .int (f1 0), .int 0]) (st_q := []) rfl rfl rfl ?_
    refine pm_R_lo pm_M185 (pc_q := 21) rfl rfl rfl ?_
    refine pm_R_lo pm_M185 (pc_q := 22) rfl rfl rfl ?_
    refine pm_R_br pm_M185 (pc_q := 25) (st_q := []) rfl rfl ?_
    refine pm_R_lo pm_M185 (pc_q := 26) rfl rfl rfl ?_
    refine rf_R_get pm_M185 T (pc_q := 29) (v := .ref 51) rfl rfl rfl rfl ?_
    refine pm_R_lo pm_M185 (pc_q := 30) rfl rfl rfl ?_
    refine pm_R_lo pm_M185 (pc_q := 31) rfl rfl rfl ?_
    refine pm_R_lo pm_M185 (pc_q := 33) rfl rfl rfl ?_
    refine sf_R_imul pm_M185 (pc_q := 34) rfl rfl sf_k3 B12 (by decide) (by decide) (by decide) (fun z13 e14 B15 => ?_)
    refine sf_R_iadd pm_M185 (pc_q := 35) rfl rfl sf_k1 B15 (by decide) (by decide) (fun z16 e17 B18 => ?_)
    refine pm_R_lo pm_M185 (pc_q := 37) rfl rfl rfl ?_
    refine sf_R_iadd pm_M185 (pc_q := 38) rfl rfl B18 sf_k0 (by decide) (by decide) (fun z19 e20 B21 => ?_)
    refine pm_R_lo pm_M185 (pc_q := 39) rfl rfl rfl ?_
    refine rf_R_get pm_M185 T (pc_q := 42) (v := .ref 52) rfl rfl rfl rfl ?_
    refine pm_R_lo pm_M185 (pc_q := 44) rfl rfl rfl ?_
    refine pm_R_lo pm_M185 (pc_q := 46) rfl rfl rfl ?_
    refine pm_R_op pm_M185 (pc_q := 47) (st_q := [.int 0, .ref 52, .int z19, .ref 51]) rfl rfl rfl ?_
    refine rf_R_ild pm_M185 T (pc_q := 48) rfl e7 (by decide) rfl rfl (fun z22 ez23 => ?_)
    have B24 : sf_B (-1) 99 z22 := ez23 ▸ b8 _
    refine rf_R_ist pm_M185 T (pc_q := 49) rfl e2 (by decide) (by decide) (sf_in B21 (by decide) (by decide)) ⟨_, rfl⟩ rfl (fun h25 T26 F27 e28 => ?_)
    have F29 := (rf_G.refl [51] h).trans F27 (by decide)
    have w30 := rf_w3s (sf_aux66 _ _ _ _ e14 e17 e20) B12
    have ct31 : rf_ct 3 (upd f1 (Int32.toNatClampNeg z19) z22) := (sf_eqL (Eq.trans (sf_upd_ne (j := Int32.toNatClampNeg 0) B21 (by decide) (by decide)) rfl) (sf_weak B12 (by decide) (by decide)))
    have bd32 : (m 17).toInt = 0 → rf_bd 3 (upd f1 (Int32.toNatClampNeg z19) z22) := fun z => ((bd4 z).set (k := z19) (sf_eqR ez23 (RB z _ e7).1) w30.1 w30.2)
    refine pm_R_lo pm_M185 (pc_q := 52) (ls_q := [.ref 41, .int 0, .int 1, .int 3, .int 8, .int 0, .int (f1 0), .int 1]) (st_q := []) rfl rfl rfl ?_
    refine pm_R_br pm_M185 (pc_q := 19) rfl rfl ?_
    refine pm_R_lo pm_M185 (pc_q := 21) rfl rfl rfl ?_
    refine pm_R_lo pm_M185 (pc_q := 22) rfl rfl rfl ?_
    refine pm_R_br pm_M185 (pc_q := 25) (st_q := []) rfl rfl ?_
    refine pm_R_lo pm_M185 (pc_q := 26) rfl rfl rfl ?_
    refine rf_R_get pm_M185 T26 (pc_q := 29) (v := .ref 51) rfl rfl rfl rfl ?_
    refine pm_R_lo pm_M185 (pc_q := 30) rfl rfl rfl ?_
    refine pm_R_lo pm_M185 (pc_q := 31) rfl rfl rfl ?_
    refine pm_R_lo pm_M185 (pc_q := 33) rfl rfl rfl ?_
    refine sf_R_imulV pm_M185 (pc_q := 34) rfl rfl sf_k3 B12 (by decide) (by decide) (by decide) e14 ?_
    refine sf_R_iaddV pm_M185 (pc_q := 35) rfl rfl sf_k1 B15 (by decide) (by decide) e17 ?_
    refine pm_R_lo pm_M185 (pc_q := 37) rfl rfl rfl ?_
    refine sf_R_iadd pm_M185 (pc_q := 38) rfl rfl B18 sf_k1 (by decide) (by decide) (fun z33 e34 B35 => ?_)
    refine pm_R_lo pm_M185 (pc_q := 39) rfl rfl rfl ?_
    refine rf_R_get pm_M185 T26 (pc_q := 42) (v := .ref 52) rfl rfl rfl rfl ?_
    refine pm_R_lo pm_M185 (pc_q := 44) rfl rfl rfl ?_
    refine pm_R_lo pm_M185 (pc_q := 46) rfl rfl rfl ?_
    refine pm_R_op pm_M185 (pc_q := 47) (st_q := [.int 1, .ref 52, .int z33, .ref 51]) rfl rfl rfl ?_
    have e36 := (F27.cell (by decide) e7)
    refine rf_R_ild pm_M185 T26 (pc_q := 48) rfl e36 (by decide) rfl rfl (fun z37 ez38 => ?_)
    have B39 : sf_B (-1) 99 z37 := ez38 ▸ b8 _
    refine rf_R_ist pm_M185 T26 (pc_q := 49) rfl e28 (by decide) (by decide) (sf_in B35 (by decide) (by decide)) ⟨_, rfl⟩ rfl (fun h40 T41 F42 e43 => ?_)
    have F44 := F29.trans F42 (by decide)
    have w45 := rf_w3f (sf_aux67 _ _ _ _ e14 e17 e34) B12
    have ct46 : rf_ct 3 (upd (upd f1 (Int32.toNatClampNeg z19) z22) (Int32.toNatClampNeg z33) z37) := (sf_eqL (Eq.trans (sf_upd_ne (j := Int32.toNatClampNeg 0) B35 (by decide) (by decide)) (Eq.trans (sf_upd_ne (j := Int32.toNatClampNeg 0) B21 (by decide) (by decide)) rfl)) (sf_weak B12 (by decide) (by decide)))
    have bd47 : (m 17).toInt = 0 → rf_bd 3 (upd (upd f1 (Int32.toNatClampNeg z19) z22) (Int32.toNatClampNeg z33) z37) := fun z => ((bd32 z).set (k := z33) (sf_eqR ez38 (RB z _ e7).2.1) w45.1 w45.2)
    refine pm_R_lo pm_M185 (pc_q := 52) (ls_q := [.ref 41, .int 0, .int 1, .int 3, .int 8, .int 0, .int (f1 0), .int 2]) (st_q := []) rfl rfl rfl ?_
    refine pm_R_br pm_M185 (pc_q := 19) rfl rfl ?_
    refine pm_R_lo pm_M185 (pc_q := 21) rfl rfl rfl ?_
    refine pm_R_lo pm_M185 (pc_q := 22) rfl rfl rfl ?_
    refine pm_R_br pm_M185 (pc_q := 25) (st_q := []) rfl rfl ?_
    refine pm_R_lo pm_M185 (pc_q := 26) rfl rfl rfl ?_
    refine rf_R_get pm_M185 T41 (pc_q := 29) (v := .ref 51) rfl rfl rfl rfl ?_
    refine pm_R_lo pm_M185 (pc_q := 30) rfl rfl rfl ?_
    refine pm_R_lo pm_M185 (pc_q := 31) rfl rfl rfl ?_
    refine pm_R_lo pm_M185 (pc_q := 33) rfl rfl rfl ?_
    refine sf_R_imulV pm_M185 (pc_q := 34) rfl rfl sf_k3 B12 (by decide) (by decide) (by decide) e14 ?_
    refine sf_R_iaddV pm_M185 (pc_q := 35) rfl rfl sf_k1 B15 (by decide) (by decide) e17 ?_
    refine pm_R_lo pm_M185 (pc_q := 37) rfl rfl rfl ?_
    refine sf_R_iadd pm_M185 (pc_q := 38) rfl rfl B18 sf_k2 (by decide) (by decide) (fun z48 e49 B50 => ?_)
    refine pm_R_lo pm_M185 (pc_q := 39) rfl rfl rfl ?_
    refine rf_R_get pm_M185 T41 (pc_q := 42) (v := .ref 52) rfl rfl rfl rfl ?_
    refine pm_R_lo pm_M185 (pc_q := 44) rfl rfl rfl ?_
    refine pm_R_lo pm_M185 (pc_q := 46) rfl rfl rfl ?_
    refine pm_R_op pm_M185 (pc_q := 47) (st_q := [.int 2, .ref 52, .int z48, .ref 51]) rfl rfl rfl ?_
    have e51 := (F42.cell (by decide) e36)
    refine rf_R_ild pm_M185 T41 (pc_q := 48) rfl e51 (by decide) rfl rfl (fun z52 ez53 => ?_)
    have B54 : sf_B (-1) 99 z52 := ez53 ▸ b8 _
    refine rf_R_ist pm_M185 T41 (pc_q := 49) rfl e43 (by decide) (by decide) (sf_in B50 (by decide) (by decide)) ⟨_, rfl⟩ rfl (fun h55 T56 F57 e58 => ?_)
    have F59 := F44.trans F57 (by decide)
    have w60 := rf_w3o (sf_aux68 _ _ _ _ e14 e17 e49) B12
    have ct61 : rf_ct 3 (upd (upd (upd f1 (Int32.toNatClampNeg z19) z22) (Int32.toNatClampNeg z33) z37) (Int32.toNatClampNeg z48) z52) := (sf_eqL (Eq.trans (sf_upd_ne (j := Int32.toNatClampNeg 0) B50 (by decide) (by decide)) (Eq.trans (sf_upd_ne (j := Int32.toNatClampNeg 0) B35 (by decide) (by decide)) (Eq.trans (sf_upd_ne (j := Int32.toNatClampNeg 0) B21 (by decide) (by decide)) rfl))) (sf_weak B12 (by decide) (by decide)))
    have bd62 : (m 17).toInt = 0 → rf_bd 3 (upd (upd (upd f1 (Int32.toNatClampNeg z19) z22) (Int32.toNatClampNeg z33) z37) (Int32.toNatClampNeg z48) z52) := fun z => ((bd47 z).set (k := z48) (sf_eqR ez53 (RB z _ e7).2.2) w60.1 w60.2)
    refine pm_R_lo pm_M185 (pc_q := 52) (ls_q := [.ref 41, .int 0, .int 1, .int 3, .int 8, .int 0, .int (f1 0), .int 3]) (st_q := []) rfl rfl rfl ?_
    refine pm_R_br pm_M185 (pc_q := 19) rfl rfl ?_
    refine pm_R_lo pm_M185 (pc_q := 21) rfl rfl rfl ?_
    refine pm_R_lo pm_M185 (pc_q := 22) rfl rfl rfl ?_
    refine pm_R_br pm_M185 (pc_q := 55) (st_q := []) rfl rfl ?_
    refine pm_R_lo pm_M185 (pc_q := 56) rfl rfl rfl ?_
    refine rf_R_get pm_M185 T56 (pc_q := 59) (v := .ref 51) rfl rfl rfl rfl ?_
    refine pm_R_lo pm_M185 (pc_q := 60) rfl rfl rfl ?_
    refine pm_R_op pm_M185 (pc_q := 61) (st_q := [.int 0, .ref 51, .int 0, .ref 51]) rfl rfl rfl ?_
    refine pm_R_iald pm_M185 (pc_q := 62) (v := (f1 0)) rfl e58 (Nat.lt_of_lt_of_le (by decide) T56.1) rfl (Eq.trans (sf_upd_ne (j := Int32.toNatClampNeg 0) B50 (by decide) (by decide)) (Eq.trans (sf_upd_ne (j := Int32.toNatClampNeg 0) B35 (by decide) (by decide)) (Eq.trans (sf_upd_ne (j := Int32.toNatClampNeg 0) B21 (by decide) (by decide)) rfl))) rfl ?_
    refine pm_R_op pm_M185 (pc_q := 63) (st_q := [.int 1, .int (f1 0), .int 0, .ref 51]) rfl rfl rfl ?_
    refine sf_R_iadd pm_M185 (pc_q := 64) rfl rfl B12 sf_k1 (by decide) (by decide) (fun z65 e66 B67 => ?_)
    refine rf_R_ist pm_M185 T56 (pc_q := 65) rfl e58 (by decide) (by decide) rfl ⟨_, rfl⟩ rfl (fun h68 T69 F70 e71 => ?_)
    have F72 := F59.trans F70 (by decide)
    have ct73 : rf_ct 3 (upd (upd (upd (upd f1 (Int32.toNatClampNeg z19) z22) (Int32.toNatClampNeg z33) z37) (Int32.toNatClampNeg z48) z52) (Int32.toNatClampNeg 0) z65) := (sf_eqL sf_upd_eq (sf_weak B67 (by decide) (by decide)))
    have bd74 : (m 17).toInt = 0 → rf_bd 3 (upd (upd (upd (upd f1 (Int32.toNatClampNeg z19) z22) (Int32.toNatClampNeg z33) z37) (Int32.toNatClampNeg z48) z52) (Int32.toNatClampNeg 0) z65) := fun z => ((bd62 z).set (k := 0) B67 (by decide) (by decide))
    exact pm_R_ret pm_M185 (r := none) rfl rfl (K m w h68 T69 F72 (rf_W.refl [] m) (⟨(upd (upd (upd (upd f1 (Int32.toNatClampNeg z19) z22) (Int32.toNatClampNeg z33) z37) (Int32.toNatClampNeg z48) z52) (Int32.toNatClampNeg 0) z65), e71, ct73, fun z => (bd74 z)⟩))
  · have B75 : sf_B 8 8 (f1 0) := sf_eqL (Classical.not_not.mp c11) sf_k8
    exact pm_R_ret pm_M185 (r := none) rfl rfl (K m w h T (rf_G.refl [51] h) (rf_W.refl [] m) (⟨f1, e2, ct3, fun z => (bd4 z)⟩))

theorem sf_aux69 (v0 v1 v2 v3 : Int) (q0 : v0 = 1 * v1) (q1 : v2 = 1 + v0) (q2 : v3 = v2 + 0) : v3 = 1 + 1 * v1 + 0 := by omega
set_option maxRecDepth 100000 in
set_option maxHeartbeats 4000000 in
/-- SilentTableModel.keep -/
theorem rf_c185_o {d : Nat} {m : Nat → Int32} {w : Int64} {h : pm_H} {Q : Option Value → pm_H → Prop}  (T : rf_T m w h) (X : rf_I 1 (m 17) h) (RB : (m 17).toInt = 0 → ∀ g : Nat → Int32, h.2.2 52 = .inl (0, 4, .inl g) → sf_B 0 9 (g (Int32.toNatClampNeg 0))) (K : ∀ (m_q : Nat → Int32) (w_q : Int64) (h_q : pm_H), rf_T m_q w_q h_q → rf_G [51] h h_q → rf_W [] m m_q → rf_I 1 (m_q 17) h_q → Q none h_q) : pm_R (d + 0) 185 0 [.ref 41, .int 0, .int 1, .int 1, .int 12, .int 0, pm_no, pm_no] [] h Q := by
  obtain ⟨f1, e2, ct3, bd4⟩ := X
  have B5 : sf_B 0 4 (m 17) := T.2.2.1 17
  obtain ⟨f6, e7, b8⟩ := T.2.2.2.1 52 (by decide) (by decide)
  refine pm_R_lo pm_M185 (pc_q := 1) rfl rfl rfl ?_
  refine rf_R_get pm_M185 T (pc_q := 4) (v := .ref 51) rfl rfl rfl rfl ?_
  refine pm_R_lo pm_M185 (pc_q := 5) rfl rfl rfl ?_
  refine pm_R_iald pm_M185 (pc_q := 6) (v := (f1 0)) rfl e2 (Nat.lt_of_lt_of_le (by decide) T.1) rfl rfl rfl ?_
  refine pm_R_lo pm_M185 (pc_q := 8) (ls_q := [.ref 41, .int 0, .int 1, .int 1, .int 12, .int 0, .int (f1 0), pm_no]) (st_q := []) rfl rfl rfl ?_
  refine pm_R_lo pm_M185 (pc_q := 10) rfl rfl rfl ?_
  refine pm_R_lo pm_M185 (pc_q := 12) rfl rfl rfl ?_
  refine pm_R_icmp pm_M185 (t := 16) (pc_q := 15) rfl rfl rfl (fun c11 => ?_) (fun c11 => ?_)
  · have B12 : sf_B 0 11 (f1 0) := sf_neH0 c11 sf_k12 ct3
    refine pm_R_op pm_M185 (pc_q := 17) (st_q := [.int 0]) rfl rfl rfl ?_
    refine pm_R_lo pm_M185 (pc_q := 19) (ls_q := [.ref 41, .int 0, .int 1, .int 1, .int 12, .int 0, .int (f1 0), .int 0]) (st_q := []) rfl rfl rfl ?_
    refine pm_R_lo pm_M185 (pc_q := 21) rfl rfl rfl ?_
    refine pm_R_lo pm_M185 (pc_q := 22) rfl rfl rfl ?_
    refine pm_R_br pm_M185 (pc_q := 25) (st_q := []) rfl rfl ?_
    refine pm_R_lo pm_M185 (pc_q := 26) rfl rfl rfl ?_
    refine rf_R_get pm_M185 T (pc_q := 29) (v := .ref 51) rfl rfl rfl rfl ?_
    refine pm_R_lo pm_M185 (pc_q := 30) rfl rfl rfl ?_
    refine pm_R_lo pm_M185 (pc_q := 31) rfl rfl rfl ?_
    refine pm_R_lo pm_M185 (pc_q := 33) rfl rfl rfl ?_
    refine sf_R_imul pm_M185 (pc_q := 34) rfl rfl sf_k1 B12 (by decide) (by decide) (by decide) (fun z13 e14 B15 => ?_)
    refine sf_R_iadd pm_M185 (pc_q := 35) rfl rfl sf_k1 B15 (by decide) (by decide) (fun z16 e17 B18 => ?_)
    refine pm_R_lo pm_M185 (pc_q := 37) rfl rfl rfl ?_
    refine sf_R_iadd pm_M185 (pc_q := 38) rfl rfl B18 sf_k0 (by decide) (by decide) (fun z19 e20 B21 => ?_)
    refine pm_R_lo pm_M185 (pc_q := 39) rfl rfl rfl ?_
    refine rf_R_get pm_M185 T (pc_q := 42) (v := .ref 52) rfl rfl rfl rfl ?_
    refine pm_R_lo pm_M185 (pc_q := 44) rfl rfl rfl ?_
    refine pm_R_lo pm_M185 (pc_q := 46) rfl rfl rfl ?_
    refine pm_R_op pm_M185 (pc_q := 47) (st_q := [.int 0, .ref 52, .int z19, .ref 51]) rfl rfl rfl ?_
    refine rf_R_ild pm_M185 T (pc_q := 48) rfl e7 (by decide) rfl rfl (fun z22 ez23 => ?_)
    have B24 : sf_B (-1) 99 z22 := ez23 ▸ b8 _
    refine rf_R_ist pm_M185 T (pc_q := 49) rfl e2 (by decide) (by decide) (sf_in B21 (by decide) (by decide)) ⟨_, rfl⟩ rfl (fun h25 T26 F27 e28 => ?_)
    have F29 := (rf_G.refl [51] h).trans F27 (by decide)
    have w30 := rf_w1 (sf_aux69 _ _ _ _ e14 e17 e20) B12
    have ct31 : rf_ct 1 (upd f1 (Int32.toNatClampNeg z19) z22) := (sf_eqL (Eq.trans (sf_upd_ne (j := Int32.toNatClampNeg 0) B21 (by decide) (by decide)) rfl) (sf_weak B12 (by decide) (by decide)))
    have bd32 : (m 17).toInt = 0 → rf_bd 1 (upd f1 (Int32.toNatClampNeg z19) z22) := fun z => ((bd4 z).set (k := z19) (sf_eqR ez23 (RB z _ e7)) w30.1 w30.2)
    refine pm_R_lo pm_M185 (pc_q := 52) (ls_q := [.ref 41, .int 0, .int 1, .int 1, .int 12, .int 0, .int (f1 0), .int 1]) (st_q := []) rfl rfl rfl ?_
    refine pm_R_br pm_M185 (pc_q := 19) rfl rfl ?_
    refine pm_R_lo pm_M185 (pc_q := 21) rfl rfl rfl ?_
    refine pm_R_lo pm_M185 (pc_q := 22) rfl rfl rfl ?_
    refine pm_R_br pm_M185 (pc_q := 55) (st_q := []) rfl rfl ?_
    refine pm_R_lo pm_M185 (pc_q := 56) rfl rfl rfl ?_
    refine rf_R_get pm_M185 T26 (pc_q := 59) (v := .ref 51) rfl rfl rfl rfl ?_
    refine pm_R_lo pm_M185 (pc_q := 60) rfl rfl rfl ?_
    refine pm_R_op pm_M185 (pc_q := 61) (st_q := [.int 0, .ref 51, .int 0, .ref 51]) rfl rfl rfl ?_
    refine pm_R_iald pm_M185 (pc_q := 62) (v := (f1 0)) rfl e28 (Nat.lt_of_lt_of_le (by decide) T26.1) rfl (Eq.trans (sf_upd_ne (j := Int32.toNatClampNeg 0) B21 (by decide) (by decide)) rfl) rfl ?_
    refine pm_R_op pm_M185 (pc_q := 63) (st_q := [.int 1, .int (f1 0), .int 0, .ref 51]) rfl rfl rfl ?_
    refine sf_R_iadd pm_M185 (pc_q := 64) rfl rfl B12 sf_k1 (by decide) (by decide) (fun z35 e36 B37 => ?_)
    refine rf_R_ist pm_M185 T26 (pc_q := 65) rfl e28 (by decide) (by decide) rfl ⟨_, rfl⟩ rfl (fun h38 T39 F40 e41 => ?_)
    have F42 := F29.trans F40 (by decide)
    have ct43 : rf_ct 1 (upd (upd f1 (Int32.toNatClampNeg z19) z22) (Int32.toNatClampNeg 0) z35) := (sf_eqL sf_upd_eq (sf_weak B37 (by decide) (by decide)))
    have bd44 : (m 17).toInt = 0 → rf_bd 1 (upd (upd f1 (Int32.toNatClampNeg z19) z22) (Int32.toNatClampNeg 0) z35) := fun z => ((bd32 z).set (k := 0) B37 (by decide) (by decide))
    exact pm_R_ret pm_M185 (r := none) rfl rfl (K m w h38 T39 F42 (rf_W.refl [] m) (⟨(upd (upd f1 (Int32.toNatClampNeg z19) z22) (Int32.toNatClampNeg 0) z35), e41, ct43, fun z => (bd44 z)⟩))
  · have B45 : sf_B 12 12 (f1 0) := sf_eqL (Classical.not_not.mp c11) sf_k12
    exact pm_R_ret pm_M185 (r := none) rfl rfl (K m w h T (rf_G.refl [51] h) (rf_W.refl [] m) (⟨f1, e2, ct3, fun z => (bd4 z)⟩))
