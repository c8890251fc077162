set_option maxRecDepth 100000 in
set_option maxHeartbeats 4000000 in
/-- SilentTable$TextReader.readLine -/
theorem cl_c37_9 {d : Nat} {ck : cl_K} {E : Nat → pm_E} {m : Nat → Int32} {o : Nat → Option Nat} {h : pm_H} {Q : Option Value → pm_H → Prop}  (G : cl_G ck E) (T : cl_T ck E m o h) (R : cl_Rd 3 m h) (Y : cl_Y h) (K : ∀ (r : Int32) (m_q : Nat → Int32) (h_q : pm_H), cl_T ck E m_q o h_q → cl_F ck [25, 26, 29, 30] 0 0 h h_q → rf_W [3, 4, 5, 6, 7, 8, 10, 11, 12, 13] m m_q → cl_Rd 3 m_q h_q → cl_Y h_q → sf_B 0 1 r → Q (some (.int r)) h_q) : pm_R (d + 7) 37 0 [.ref 25, .int 9, pm_no] [] h Q := by
  obtain ⟨f1, e2, b3⟩ := Y
  obtain ⟨f4, e5⟩ := T.C 26 (by decide) (by decide)
  obtain ⟨f7, e8⟩ := T.C 27 (by decide) (by decide)
  have B10 : sf_B 0 4 (m 3) := T.B 3
  have B11 : sf_B 0 50 (m 5) := T.B 5
  have B12 : sf_B 0 16 (m 6) := T.B 6
  have B13 : sf_B 0 99 (m 7) := T.B 7
  have B14 : sf_B (-1) 99 (m 8) := T.B 8
  refine pm_R_lo pm_M37 (pc_q := 1) rfl rfl rfl ?_
  refine pm_R_op pm_M37 (pc_q := 2) (st_q := [.int (-1), .int 9]) rfl rfl rfl ?_
  refine pm_R_br pm_M37 (pc_q := 7) (st_q := []) rfl rfl ?_
  refine pm_R_lo pm_M37 (pc_q := 8) rfl rfl rfl ?_
  refine pm_R_lo pm_M37 (pc_q := 9) rfl rfl rfl ?_
  refine pm_R_cv pm_M37 (pc_q := 12) (a := 25) (ra := [.int 9]) (rest := []) (ls_q := [.ref 25, .int 9, pm_no, pm_no]) rfl rfl (Or.inl rfl) pm_M38 T.e25 rfl (by decide) (T.lt (by decide)) rfl rfl (Nat.le_of_ble_eq_true rfl) rfl rfl ?_
  refine cl_c38_9 (d := d + 5) G T  (fun m17 h18 T19 F20 W21 X22 => ?_)
  have F23 := (cl_F.refl (ck := ck) (A := [25, 26, 29, 30]) (n := 0) (s := 0) T.1).trans (N := 0) (S := 0) F20 (by decide) (by decide) (by decide)
  have B24 : sf_B 0 50 (m17 5) := by rw [W21 5 (by decide)]; exact B11
  have ek25 : (m17 5).toInt = ((m 5)).toInt := by rw [W21 5 (by decide)]
  have B26 : sf_B 0 16 (m17 6) := by rw [W21 6 (by decide)]; exact B12
  have ek27 : (m17 6).toInt = ((m 6)).toInt := by rw [W21 6 (by decide)]
  have B28 : sf_B 0 99 (m17 7) := by rw [W21 7 (by decide)]; exact B13
  have ek29 : (m17 7).toInt = ((m 7)).toInt := by rw [W21 7 (by decide)]
  have B30 : sf_B (-1) 99 (m17 8) := by rw [W21 8 (by decide)]; exact B14
  have ek31 : (m17 8).toInt = ((m 8)).toInt := by rw [W21 8 (by decide)]
  have W32 : rf_W [3, 4, 5, 6, 7, 8, 10, 11, 12, 13] m m17 := (rf_W.refl [3, 4, 5, 6, 7, 8, 10, 11, 12, 13] m).trans W21 (by decide)
  have B33 : sf_B 0 4 (m17 3) := T19.B 3
  show pm_R _ 37 12 [.ref 25, .int 9, pm_no] [] _ _
  refine pm_R_lo pm_M37 (pc_q := 13) rfl rfl rfl ?_
  refine pm_R_get pm_M37 (pc_q := 16) (v := .ref 29) rfl rfl T19.e25 (by decide) (T19.lt (by decide)) rfl rfl ?_
  refine pm_R_op pm_M37 (pc_q := 17) (st_q := [.int (-1), .ref 29]) rfl rfl rfl ?_
  refine pm_R_cs pm_M37 (pc_q := 20) (ra := [.int (-1), .ref 29]) (rest := []) (ls_q := [.ref 29, .int (-1), pm_no, pm_no]) rfl rfl (Or.inl rfl) pm_M13 rfl rfl (Nat.le_of_ble_eq_true rfl) rfl rfl ?_
  refine pm_R_op pm_M13 (pc_q := 1) (st_q := [.int 0]) rfl rfl rfl ?_
  refine pm_R_lo pm_M13 (pc_q := 2) (ls_q := [.ref 29, .int (-1), .int 0, pm_no]) (st_q := []) rfl rfl rfl ?_
  refine pm_R_lo pm_M13 (pc_q := 3) rfl rfl rfl ?_
  obtain ⟨f34, e35⟩ := T19.C 29 (by decide) (by decide)
  refine pm_R_alen pm_M13 (pc_q := 4) (v := 4) rfl e35 (by decide) (T19.lt (by decide)) (by decide) rfl rfl ?_
  refine pm_R_lo pm_M13 (pc_q := 5) (ls_q := [.ref 29, .int (-1), .int 0, .int 4]) (st_q := []) rfl rfl rfl ?_
  refine pm_R_lo pm_M13 (pc_q := 6) rfl rfl rfl ?_
  refine pm_R_lo pm_M13 (pc_q := 7) rfl rfl rfl ?_
  refine pm_R_br pm_M13 (pc_q := 10) (st_q := []) rfl rfl ?_
  refine pm_R_lo pm_M13 (pc_q := 11) rfl rfl rfl ?_
  refine pm_R_lo pm_M13 (pc_q := 12) rfl rfl rfl ?_
  refine pm_R_lo pm_M13 (pc_q := 13) rfl rfl rfl ?_
  refine cl_R_ist G pm_M13 T19 (pc_q := 14) rfl e35 (by decide) ⟨_, rfl⟩ rfl rfl (fun h37 T38 F39 e40 => ?_)
  have F41 := F39.cl (ck := ck) T19.1
  have F42 := F23.trans (N := 0) (S := 0) F41 (by decide) (by decide) (by decide)
  refine pm_R_lo pm_M13 (pc_q := 17) (ls_q := [.ref 29, .int (-1), .int 1, .int 4]) (st_q := []) rfl rfl rfl ?_
  refine pm_R_br pm_M13 (pc_q := 5) rfl rfl ?_
  refine pm_R_lo pm_M13 (pc_q := 6) rfl rfl rfl ?_
  refine pm_R_lo pm_M13 (pc_q := 7) rfl rfl rfl ?_
  refine pm_R_br pm_M13 (pc_q := 10) (st_q := []) rfl rfl ?_
  refine pm_R_lo pm_M13 (pc_q := 11) rfl rfl rfl ?_
  refine pm_R_lo pm_M13 (pc_q := 12) rfl rfl rfl ?_
  refine pm_R_lo pm_M13 (pc_q := 13) rfl rfl rfl ?_
  refine cl_R_ist G pm_M13 T38 (pc_q := 14) rfl e40 (by decide) ⟨_, rfl⟩ rfl rfl (fun h43 T44 F45 e46 => ?_)
  have F47 := F45.cl (ck := ck) T38.1
  have F48 := F42.trans (N := 0) (S := 0) F47 (by decide) (by decide) (by decide)
  refine pm_R_lo pm_M13 (pc_q := 17) (ls_q := [.ref 29, .int (-1), .int 2, .int 4]) (st_q := []) rfl rfl rfl ?_
  refine pm_R_br pm_M13 (pc_q := 5) rfl rfl ?_
  refine pm_R_lo pm_M13 (pc_q := 6) rfl rfl rfl ?_
  refine pm_R_lo pm_M13 (pc_q := 7) rfl rfl rfl ?_
  refine pm_R_br pm_M13 (pc_q := 10) (st_q := []) rfl rfl ?_
  refine pm_R_lo pm_M13 (pc_q := 11) rfl rfl rfl ?_
  refine pm_R_lo pm_M13 (pc_q := 12) rfl rfl rfl ?_
  refine pm_R_lo pm_M13 (pc_q := 13) rfl rfl rfl ?_
  refine cl_R_ist G pm_M13 T44 (pc_q := 14) rfl e46 (by decide) ⟨_, rfl⟩ rfl rfl (fun h49 T50 F51 e52 => ?_)
  have F53 := F51.cl (ck := ck) T44.1
  have F54 := F48.trans (N := 0) (S := 0) F53 (by decide) (by decide) (by decide)
  refine pm_R_lo pm_M13 (pc_q := 17) (ls_q := [.ref 29, .int (-1), .int 3, .int 4]) (st_q := []) rfl rfl rfl ?_
  refine pm_R_br pm_M13 (pc_q := 5) rfl rfl ?_
  refine pm_R_lo pm_M13 (pc_q := 6) rfl rfl rfl ?_
  refine pm_R_lo pm_M13 (pc_q := 7) rfl rfl rfl ?_
  refine pm_R_br pm_M13 (pc_q := 10) (st_q := []) rfl rfl ?_
  refine pm_R_lo pm_M13 (pc_q := 11) rfl rfl rfl ?_
  refine pm_R_lo pm_M13 (pc_q := 12) rfl rfl rfl ?_
  refine pm_R_lo pm_M13 (pc_q := 13) rfl rfl rfl ?_
  refine cl_R_ist G pm_M13 T50 (pc_q := 14) rfl e52 (by decide) ⟨_, rfl⟩ rfl rfl (fun h55 T56 F57 e58 => ?_)
  have F59 := F57.cl (ck := ck) T50.1
  have F60 := F54.trans (N := 0) (S := 0) F59 (by decide) (by decide) (by decide)
  refine pm_R_lo pm_M13 (pc_q := 17) (ls_q := [.ref 29, .int (-1), .int 4, .int 4]) (st_q := []) rfl rfl rfl ?_
  refine pm_R_br pm_M13 (pc_q := 5) rfl rfl ?_
  refine pm_R_lo pm_M13 (pc_q := 6) rfl rfl rfl ?_
  refine pm_R_lo pm_M13 (pc_q := 7) rfl rfl rfl ?_
  refine pm_R_br pm_M13 (pc_q := 20) (st_q := []) rfl rfl ?_
  refine pm_R_ret pm_M13 (r := none) rfl rfl ?_
  show pm_R _ 37 20 [.ref 25, .int 9, pm_no] [] _ _
  refine pm_R_op pm_M37 (pc_q := 21) (st_q := [.int 0]) rfl rfl rfl ?_
  refine pm_R_lo pm_M37 (pc_q := 22) (ls_q := [.ref 25, .int 9, .int 0]) (st_q := []) rfl rfl rfl ?_
  refine pm_R_lo pm_M37 (pc_q := 23) rfl rfl rfl ?_
  refine pm_R_stat pm_M37 (pc_q := 26) rfl rfl rfl ?_
  refine pm_R_lo pm_M37 (pc_q := 27) rfl rfl rfl ?_
  refine pm_R_iald pm_M37 (pc_q := 28) (v := 2) rfl ((T56.old (by decide)).trans G.tb2) (T56.lt (by decide)) rfl rfl rfl ?_
  refine pm_R_br pm_M37 (pc_q := 31) (st_q := []) rfl rfl ?_
  refine pm_R_lo pm_M37 (pc_q := 32) rfl rfl rfl ?_
  refine pm_R_get pm_M37 (pc_q := 35) (v := .ref 30) rfl rfl T56.e25 (by decide) (T56.lt (by decide)) rfl rfl ?_
  refine pm_R_cv pm_M37 (pc_q := 38) (a := 30) (ra := []) (rest := []) (ls_q := [.ref 30]) rfl rfl (Or.inl rfl) pm_M16 T56.e30 rfl (by decide) (T56.lt (by decide)) rfl rfl (Nat.le_of_ble_eq_true rfl) rfl rfl ?_
  refine cl_c16 (d := d + 4) G T56  (fun m66 h67 T68 F69 W70 => ?_)
  have F71 := F60.trans (N := 0) (S := 0) F69 (by decide) (by decide) (by decide)
  have B72 : sf_B 0 50 (m66 5) := by rw [W70 5 (by decide)]; exact B24
  have ek73 : (m66 5).toInt = ((m 5)).toInt := by rw [W70 5 (by decide)]; exact ek25
  have B74 : sf_B 0 16 (m66 6) := by rw [W70 6 (by decide)]; exact B26
  have ek75 : (m66 6).toInt = ((m 6)).toInt := by rw [W70 6 (by decide)]; exact ek27
  have B76 : sf_B 0 99 (m66 7) := by rw [W70 7 (by decide)]; exact B28
  have ek77 : (m66 7).toInt = ((m 7)).toInt := by rw [W70 7 (by decide)]; exact ek29
  have B78 : sf_B (-1) 99 (m66 8) := by rw [W70 8 (by decide)]; exact B30
  have ek79 : (m66 8).toInt = ((m 8)).toInt := by rw [W70 8 (by decide)]; exact ek31
  have B80 : sf_B 0 4 (m66 3) := by rw [W70 3 (by decide)]; exact B33
  have ek81 : (m66 3).toInt = ((m17 3)).toInt := by rw [W70 3 (by decide)]
  have W82 : rf_W [3, 4, 5, 6, 7, 8, 10, 11, 12, 13] m m66 := W32.trans W70 (by decide)
  show pm_R _ 37 38 [.ref 25, .int 9, .int 0] [] _ _
  refine pm_R_lo pm_M37 (pc_q := 39) rfl rfl rfl ?_
  refine pm_R_get pm_M37 (pc_q := 42) (v := .ref 30) rfl rfl T68.e25 (by decide) (T68.lt (by decide)) rfl rfl ?_
  have B83 : sf_B 0 4 (m66 12) := T68.B 12
  refine pm_R_get pm_M37 (pc_q := 45) (v := .int (m66 12)) rfl rfl T68.e30 (by decide) (T68.lt (by decide)) rfl rfl ?_
  refine pm_R_op pm_M37 (pc_q := 46) (st_q := [.int 2, .int (m66 12)]) rfl rfl rfl ?_
  refine pm_R_icmp pm_M37 (t := 51) (pc_q := 49) rfl rfl rfl (fun c84 => ?_) (fun c84 => ?_)
  · have B85 : sf_B 2 2 (m66 12) := sf_eqL c84 sf_k2
    refine pm_R_lo pm_M37 (pc_q := 52) rfl rfl rfl ?_
    refine pm_R_get pm_M37 (pc_q := 55) (v := .ref 29) rfl rfl T68.e25 (by decide) (T68.lt (by decide)) rfl rfl ?_
    refine pm_R_lo pm_M37 (pc_q := 56) rfl rfl rfl ?_
    refine pm_R_lo pm_M37 (pc_q := 57) rfl rfl rfl ?_
    refine pm_R_get pm_M37 (pc_q := 60) (v := .ref 30) rfl rfl T68.e25 (by decide) (T68.lt (by decide)) rfl rfl ?_
    have B86 : sf_B 0 99 (m66 13) := T68.B 13
    refine pm_R_get pm_M37 (pc_q := 63) (v := .int (m66 13)) rfl rfl T68.e30 (by decide) (T68.lt (by decide)) rfl rfl ?_
    have e87 := (F69.cell G (by decide) (by decide) e58)
    refine cl_R_ist G pm_M37 T68 (pc_q := 64) rfl e87 (by decide) ⟨_, rfl⟩ rfl rfl (fun h88 T89 F90 e91 => ?_)
    have F92 := F90.cl (ck := ck) T68.1
    have F93 := F71.trans (N := 0) (S := 0) F92 (by decide) (by decide) (by decide)
    refine pm_R_lo pm_M37 (pc_q := 65) rfl rfl rfl ?_
    refine pm_R_lo pm_M37 (pc_q := 66) rfl rfl rfl ?_
    refine pm_R_lo pm_M37 (pc_q := 67) rfl rfl rfl ?_
    refine pm_R_cv pm_M37 (pc_q := 70) (a := 25) (ra := [.int 0, .int 9]) (rest := []) (ls_q := [.ref 25, .int 9, .int 0, pm_no, pm_no, pm_no]) rfl rfl (Or.inl rfl) pm_M39 T89.e25 rfl (by decide) (T89.lt (by decide)) rfl rfl (Nat.le_of_ble_eq_true rfl) rfl rfl ?_
    refine cl_c39_9_0 (d := d + 5) G T89  (fun m96 h97 T98 F99 W100 X101 => ?_)
    have F102 := F93.trans (N := 0) (S := 0) F99 (by decide) (by decide) (by decide)
    have B103 : sf_B 0 50 (m96 5) := by rw [W100 5 (by decide)]; exact B72
    have ek104 : (m96 5).toInt = ((m 5)).toInt := by rw [W100 5 (by decide)]; exact ek73
    have B105 : sf_B 0 16 (m96 6) := by rw [W100 6 (by decide)]; exact B74
    have ek106 : (m96 6).toInt = ((m 6)).toInt := by rw [W100 6 (by decide)]; exact ek75
    have B107 : sf_B 0 99 (m96 7) := by rw [W100 7 (by decide)]; exact B76
    have ek108 : (m96 7).toInt = ((m 7)).toInt := by rw [W100 7 (by decide)]; exact ek77
    have B109 : sf_B (-1) 99 (m96 8) := by rw [W100 8 (by decide)]; exact B78
    have ek110 : (m96 8).toInt = ((m 8)).toInt := by rw [W100 8 (by decide)]; exact ek79
    have B111 : sf_B 2 2 (m96 12) := by rw [W100 12 (by decide)]; exact B85
    have W112 : rf_W [3, 4, 5, 6, 7, 8, 10, 11, 12, 13] m m96 := W82.trans W100 (by decide)
    have B113 : sf_B 0 4 (m96 3) := T98.B 3
    show pm_R _ 37 70 [.ref 25, .int 9, .int 0] [] _ _
    have q114 := X101 _ e91
    refine pm_R_lo pm_M37 (pc_q := 73) (ls_q := [.ref 25, .int 9, .int 1]) (st_q := []) rfl rfl rfl ?_
    refine pm_R_br pm_M37 (pc_q := 22) rfl rfl ?_
    refine pm_R_lo pm_M37 (pc_q := 23) rfl rfl rfl ?_
    refine pm_R_stat pm_M37 (pc_q := 26) rfl rfl rfl ?_
    refine pm_R_lo pm_M37 (pc_q := 27) rfl rfl rfl ?_
    refine pm_R_iald pm_M37 (pc_q := 28) (v := 2) rfl ((T98.old (by decide)).trans G.tb2) (T98.lt (by decide)) rfl rfl rfl ?_
    refine pm_R_br pm_M37 (pc_q := 31) (st_q := []) rfl rfl ?_
    refine pm_R_lo pm_M37 (pc_q := 32) rfl rfl rfl ?_
    refine pm_R_get pm_M37 (pc_q := 35) (v := .ref 30) rfl rfl T98.e25 (by decide) (T98.lt (by decide)) rfl rfl ?_
    refine pm_R_cv pm_M37 (pc_q := 38) (a := 30) (ra := []) (rest := []) (ls_q := [.ref 30]) rfl rfl (Or.inl rfl) pm_M16 T98.e30 rfl (by decide) (T98.lt (by decide)) rfl rfl (Nat.le_of_ble_eq_true rfl) rfl rfl ?_
    refine cl_c16 (d := d + 4) G T98  (fun m120 h121 T122 F123 W124 => ?_)
    have F125 := F102.trans (N := 0) (S := 0) F123 (by decide) (by decide) (by decide)
    have B126 : sf_B 0 50 (m120 5) := by rw [W124 5 (by decide)]; exact B103
    have ek127 : (m120 5).toInt = ((m 5)).toInt := by rw [W124 5 (by decide)]; exact ek104
    have B128 : sf_B 0 16 (m120 6) := by rw [W124 6 (by decide)]; exact B105
    have ek129 : (m120 6).toInt = ((m 6)).toInt := by rw [W124 6 (by decide)]; exact ek106
    have B130 : sf_B 0 99 (m120 7) := by rw [W124 7 (by decide)]; exact B107
    have ek131 : (m120 7).toInt = ((m 7)).toInt := by rw [W124 7 (by decide)]; exact ek108
    have B132 : sf_B (-1) 99 (m120 8) := by rw [W124 8 (by decide)]; exact B109
    have ek133 : (m120 8).toInt = ((m 8)).toInt := by rw [W124 8 (by decide)]; exact ek110
    have B134 : sf_B 0 4 (m120 3) := by rw [W124 3 (by decide)]; exact B113
    have ek135 : (m120 3).toInt = ((m96 3)).toInt := by rw [W124 3 (by decide)]
    have W136 : rf_W [3, 4, 5, 6, 7, 8, 10, 11, 12, 13] m m120 := W112.trans W124 (by decide)
    show pm_R _ 37 38 [.ref 25, .int 9, .int 1] [] _ _
    refine pm_R_lo pm_M37 (pc_q := 39) rfl rfl rfl ?_
    refine pm_R_get pm_M37 (pc_q := 42) (v := .ref 30) rfl rfl T122.e25 (by decide) (T122.lt (by decide)) rfl rfl ?_
    have B137 : sf_B 0 4 (m120 12) := T122.B 12
    refine pm_R_get pm_M37 (pc_q := 45) (v := .int (m120 12)) rfl rfl T122.e30 (by decide) (T122.lt (by decide)) rfl rfl ?_
    refine pm_R_op pm_M37 (pc_q := 46) (st_q := [.int 2, .int (m120 12)]) rfl rfl rfl ?_
    refine pm_R_icmp pm_M37 (t := 51) (pc_q := 49) rfl rfl rfl (fun c138 => ?_) (fun c138 => ?_)
    · have B139 : sf_B 2 2 (m120 12) := sf_eqL c138 sf_k2
      refine pm_R_lo pm_M37 (pc_q := 52) rfl rfl rfl ?_
      refine pm_R_get pm_M37 (pc_q := 55) (v := .ref 29) rfl rfl T122.e25 (by decide) (T122.lt (by decide)) rfl rfl ?_
      refine pm_R_lo pm_M37 (pc_q := 56) rfl rfl rfl ?_
      refine pm_R_lo pm_M37 (pc_q := 57) rfl rfl rfl ?_
      refine pm_R_get pm_M37 (pc_q := 60) (v := .ref 30) rfl rfl T122.e25 (by decide) (T122.lt (by decide)) rfl rfl ?_
      have B140 : sf_B 0 99 (m120 13) := T122.B 13
      refine pm_R_get pm_M37 (pc_q := 63) (v := .int (m120 13)) rfl rfl T122.e30 (by decide) (T122.lt (by decide)) rfl rfl ?_
      have e141 := (F123.cell G (by decide) (by decide) (F99.cell G (by decide) (by decide) e91))
      refine cl_R_ist G pm_M37 T122 (pc_q := 64) rfl e141 (by decide) ⟨_, rfl⟩ rfl rfl (fun h142 T143 F144 e145 => ?_)
      have F146 := F144.cl (ck := ck) T122.1
      have F147 := F125.trans (N := 0) (S := 0) F146 (by decide) (by decide) (by decide)
      refine pm_R_lo pm_M37 (pc_q := 65) rfl rfl rfl ?_
      refine pm_R_lo pm_M37 (pc_q := 66) rfl rfl rfl ?_
      refine pm_R_lo pm_M37 (pc_q := 67) rfl rfl rfl ?_
      refine pm_R_cv pm_M37 (pc_q := 70) (a := 25) (ra := [.int 1, .int 9]) (rest := []) (ls_q := [.ref 25, .int 9, .int 1, pm_no, pm_no, pm_no]) rfl rfl (Or.inl rfl) pm_M39 T143.e25 rfl (by decide) (T143.lt (by decide)) rfl rfl (Nat.le_of_ble_eq_true rfl) rfl rfl ?_
      refine cl_c39_9_1 (d := d + 5) G T143  (fun m150 h151 T152 F153 W154 X155 => ?_)
      have F156 := F147.trans (N := 0) (S := 0) F153 (by decide) (by decide) (by decide)
      have B157 : sf_B 0 50 (m150 5) := by rw [W154 5 (by decide)]; exact B126
      have ek158 : (m150 5).toInt = ((m 5)).toInt := by rw [W154 5 (by decide)]; exact ek127
      have B159 : sf_B 0 16 (m150 6) := by rw [W154 6 (by decide)]; exact B128
      have ek160 : (m150 6).toInt = ((m 6)).toInt := by rw [W154 6 (by decide)]; exact ek129
      have B161 : sf_B 0 99 (m150 7) := by rw [W154 7 (by decide)]; exact B130
      have ek162 : (m150 7).toInt = ((m 7)).toInt := by rw [W154 7 (by decide)]; exact ek131
      have B163 : sf_B (-1) 99 (m150 8) := by rw [W154 8 (by decide)]; exact B132
      have ek164 : (m150 8).toInt = ((m 8)).toInt := by rw [W154 8 (by decide)]; exact ek133
      have B165 : sf_B 2 2 (m150 12) := by rw [W154 12 (by decide)]; exact B139
      have W166 : rf_W [3, 4, 5, 6, 7, 8, 10, 11, 12, 13] m m150 := W136.trans W154 (by decide)
      have B167 : sf_B 0 4 (m150 3) := T152.B 3
      show pm_R _ 37 70 [.ref 25, .int 9, .int 1] [] _ _
      have q168 := X155 _ e145
      refine pm_R_lo pm_M37 (pc_q := 73) (ls_q := [.ref 25, .int 9, .int 2]) (st_q := []) rfl rfl rfl ?_
      refine pm_R_br pm_M37 (pc_q := 22) rfl rfl ?_
      refine pm_R_lo pm_M37 (pc_q := 23) rfl rfl rfl ?_
      refine pm_R_stat pm_M37 (pc_q := 26) rfl rfl rfl ?_
      refine pm_R_lo pm_M37 (pc_q := 27) rfl rfl rfl ?_
      refine pm_R_iald pm_M37 (pc_q := 28) (v := 2) rfl ((T152.old (by decide)).trans G.tb2) (T152.lt (by decide)) rfl rfl rfl ?_
      refine pm_R_br pm_M37 (pc_q := 76) (st_q := []) rfl rfl ?_
      refine pm_R_lo pm_M37 (pc_q := 77) rfl rfl rfl ?_
      refine pm_R_br pm_M37 (pc_q := 114) (st_q := []) rfl rfl ?_
      refine pm_R_lo pm_M37 (pc_q := 115) (pm_q37_1 (Nat.le_of_ble_eq_true rfl)) rfl rfl ?_
      refine pm_R_get pm_M37 (pc_q := 118) (v := .ref 30) (pm_q37_1 (Nat.le_of_ble_eq_true rfl)) rfl T152.e25 (by decide) (T152.lt (by decide)) rfl rfl ?_
      refine pm_R_cv pm_M37 (pc_q := 121) (a := 30) (ra := []) (rest := []) (ls_q := [.ref 30]) (pm_q37_1 (Nat.le_of_ble_eq_true rfl)) rfl (Or.inl rfl) pm_M16 T152.e30 rfl (by decide) (T152.lt (by decide)) rfl rfl (Nat.le_of_ble_eq_true rfl) rfl rfl ?_
      refine cl_c16 (d := d + 4) G T152  (fun m174 h175 T176 F177 W178 => ?_)
      have F179 := F156.trans (N := 0) (S := 0) F177 (by decide) (by decide) (by decide)
      have B180 : sf_B 0 50 (m174 5) := by rw [W178 5 (by decide)]; exact B157
      have ek181 : (m174 5).toInt = ((m 5)).toInt := by rw [W178 5 (by decide)]; exact ek158
      have B182 : sf_B 0 16 (m174 6) := by rw [W178 6 (by decide)]; exact B159
      have ek183 : (m174 6).toInt = ((m 6)).toInt := by rw [W178 6 (by decide)]; exact ek160
      have B184 : sf_B 0 99 (m174 7) := by rw [W178 7 (by decide)]; exact B161
      have ek185 : (m174 7).toInt = ((m 7)).toInt := by rw [W178 7 (by decide)]; exact ek162
      have B186 : sf_B (-1) 99 (m174 8) := by rw [W178 8 (by decide)]; exact B163
      have ek187 : (m174 8).toInt = ((m 8)).toInt := by rw [W178 8 (by decide)]; exact ek164
      have B188 : sf_B 0 4 (m174 3) := by rw [W178 3 (by decide)]; exact B167
      have ek189 : (m174 3).toInt = ((m150 3)).toInt := by rw [W178 3 (by decide)]
      have W190 : rf_W [3, 4, 5, 6, 7, 8, 10, 11, 12, 13] m m174 := W166.trans W178 (by decide)
      show pm_R _ 37 121 [.ref 25, .int 9, .int 2] [] _ _
      refine pm_R_lo pm_M37 (pc_q := 122) (pm_q37_1 (Nat.le_of_ble_eq_true rfl)) rfl rfl ?_
      refine pm_R_get pm_M37 (pc_q := 125) (v := .ref 30) (pm_q37_1 (Nat.le_of_ble_eq_true rfl)) rfl T176.e25 (by decide) (T176.lt (by decide)) rfl rfl ?_
      have B191 : sf_B 0 4 (m174 12) := T176.B 12
      refine pm_R_get pm_M37 (pc_q := 128) (v := .int (m174 12)) (pm_q37_1 (Nat.le_of_ble_eq_true rfl)) rfl T176.e30 (by decide) (T176.lt (by decide)) rfl rfl ?_
      refine pm_R_op pm_M37 (pc_q := 129) (st_q := [.int 3, .int (m174 12)]) (pm_q37_1 (Nat.le_of_ble_eq_true rfl)) rfl rfl ?_
      refine pm_R_icmp pm_M37 (t := 134) (pc_q := 132) (pm_q37_1 (Nat.le_of_ble_eq_true rfl)) rfl rfl (fun c192 => ?_) (fun c192 => ?_)
      · have B193 : sf_B 3 3 (m174 12) := sf_eqL c192 sf_k3
        refine pm_R_lo pm_M37 (pc_q := 135) (pm_q37_1 (Nat.le_of_ble_eq_true rfl)) rfl rfl ?_
        refine pm_R_lo pm_M37 (pc_q := 136) (pm_q37_1 (Nat.le_of_ble_eq_true rfl)) rfl rfl ?_
        refine pm_R_cv pm_M37 (pc_q := 139) (a := 25) (ra := [.int 9]) (rest := []) (ls_q := [.ref 25, .int 9]) (pm_q37_1 (Nat.le_of_ble_eq_true rfl)) rfl (Or.inl rfl) pm_M40 T176.e25 rfl (by decide) (T176.lt (by decide)) rfl rfl (Nat.le_of_ble_eq_true rfl) rfl rfl ?_
        refine pm_R_lo pm_M40 (pc_q := 1) rfl rfl rfl ?_
        refine pm_R_get pm_M40 (pc_q := 4) (v := .int (m150 3)) rfl rfl T176.e25 (by decide) (T176.lt (by decide)) (congrArg (fun z => some (Value.int z)) (Int32.toInt_inj.mp (cl_aux3 _ _ ek189))) rfl ?_
        refine pm_R_ifc pm_M40 (t := 8) (pc_q := 7) rfl rfl rfl (fun c194 => ?_) (fun c194 => ?_)
        · have y195 := q168 (cl_aux67 _ (congrArg Int32.toInt c194))
          have y196 := q114 (cl_aux68 _ _ ek135 y195.1)
          have y197 := X22 (cl_aux68 _ _ ek81 y196.1)
          have B198 : sf_B 0 9 (m120 13) := ⟨B140.1, cl_upE (P := fun x => x.toInt ≤ 9) y195.2.2⟩
          have B199 : sf_B 0 9 (m66 13) := ⟨B86.1, cl_upE (P := fun x => x.toInt ≤ 9) y196.2.2⟩
          have B200 : sf_B 0 7 (m174 5) := ⟨B180.1, (cl_aux80 _ _ ek181 y197.2)⟩
          have B201 : sf_B 0 0 (m150 3) := sf_eqL c194 sf_k0
          refine pm_R_lo pm_M40 (pc_q := 9) rfl rfl rfl ?_
          refine pm_R_br pm_M40 (pc_q := 118) (st_q := []) rfl rfl ?_
          refine pm_R_lo pm_M40 (pc_q := 119) rfl rfl rfl ?_
          refine pm_R_lo pm_M40 (pc_q := 120) rfl rfl rfl ?_
          refine pm_R_cv pm_M40 (pc_q := 123) (a := 25) (ra := [.int 9]) (rest := []) (ls_q := [.ref 25, .int 9]) rfl rfl (Or.inl rfl) pm_M42 T176.e25 rfl (by decide) (T176.lt (by decide)) rfl rfl (Nat.le_of_ble_eq_true rfl) rfl rfl ?_
          refine pm_R_lo pm_M42 (pc_q := 1) rfl rfl rfl ?_
          refine pm_R_op pm_M42 (pc_q := 3) (st_q := [.int 7, .int 9]) rfl rfl rfl ?_
          refine pm_R_br pm_M42 (pc_q := 45) (st_q := []) rfl rfl ?_
          refine pm_R_lo pm_M42 (pc_q := 46) rfl rfl rfl ?_
          refine pm_R_get pm_M42 (pc_q := 49) (v := .ref 26) rfl rfl T176.e25 (by decide) (T176.lt (by decide)) rfl rfl ?_
          refine pm_R_lo pm_M42 (pc_q := 50) rfl rfl rfl ?_
          refine pm_R_get pm_M42 (pc_q := 53) (v := .int (m 5)) rfl rfl T176.e25 (by decide) (T176.lt (by decide)) (congrArg (fun z => some (Value.int z)) (Int32.toInt_inj.mp (cl_aux3 _ _ ek181))) rfl ?_
          refine pm_R_op pm_M42 (pc_q := 54) (st_q := [.int 4, .int (m 5), .ref 26]) rfl rfl rfl ?_
          refine sf_R_imul pm_M42 (pc_q := 55) rfl rfl (sf_eqT (cl_aux70 _ _ ek181) B200) sf_k4 (by decide) (by decide) (by decide) (fun z202 e203 B204 => ?_)
          refine pm_R_lo pm_M42 (pc_q := 56) rfl rfl rfl ?_
          refine pm_R_op pm_M42 (pc_q := 58) (st_q := [.int 7, .int 9, .int z202, .ref 26]) rfl rfl rfl ?_
          refine pm_R_br pm_M42 (pc_q := 67) (st_q := [.int z202, .ref 26]) rfl rfl ?_
          refine pm_R_lo pm_M42 (pc_q := 68) rfl rfl rfl ?_
          refine pm_R_op pm_M42 (pc_q := 70) (st_q := [.int 7, .int 9, .int z202, .ref 26]) rfl rfl rfl ?_
          refine pm_R_op pm_M42 (pc_q := 71) (st_q := [.int 2, .int z202, .ref 26]) rfl rfl rfl ?_
          have e205 := (F177.cell G (by decide) (by decide) (F153.cell G (by decide) (by decide) (F146.cell G (by decide) (by decide) (F123.cell G (by decide) (by decide) (F99.cell G (by decide) (by decide) (F92.cell G (by decide) (by decide) (F69.cell G (by decide) (by decide) (F59.cell G (by decide) (by decide) (F53.cell G (by decide) (by decide) (F47.cell G (by decide) (by decide) (F41.cell G (by decide) (by decide) (F20.cell G (by decide) (by decide) e5))))))))))))
          refine cl_R_ist G pm_M42 T176 (pc_q := 72) rfl e205 (by decide) ⟨_, rfl⟩ (sf_in B204 (by decide) (by decide)) rfl (fun h206 T207 F208 e209 => ?_)
          have F210 := F208.cl (ck := ck) T176.1
          have F211 := F179.trans (N := 0) (S := 0) F210 (by decide) (by decide) (by decide)
          refine pm_R_lo pm_M42 (pc_q := 73) rfl rfl rfl ?_
          refine pm_R_lo pm_M42 (pc_q := 74) rfl rfl rfl ?_
          refine pm_R_lo pm_M42 (pc_q := 75) rfl rfl rfl ?_
          refine pm_R_get pm_M42 (pc_q := 78) (v := .ref 26) rfl rfl T207.e25 (by decide) (T207.lt (by decide)) rfl rfl ?_
          refine pm_R_lo pm_M42 (pc_q := 79) rfl rfl rfl ?_
          refine pm_R_get pm_M42 (pc_q := 82) (v := .int (m 5)) rfl rfl T207.e25 (by decide) (T207.lt (by decide)) (congrArg (fun z => some (Value.int z)) (Int32.toInt_inj.mp (cl_aux3 _ _ ek181))) rfl ?_
          refine pm_R_op pm_M42 (pc_q := 83) (st_q := [.int 1, .int (m 5), .ref 26, .ref 25, .ref 25]) rfl rfl rfl ?_
          refine pm_R_cv pm_M42 (pc_q := 86) (a := 25) (ra := [.int 1, .int (m 5), .ref 26]) (rest := [.ref 25]) (ls_q := [.ref 25, .ref 26, .int (m 5), .int 1]) rfl rfl (Or.inl rfl) pm_M41 T207.e25 rfl (by decide) (T207.lt (by decide)) rfl rfl (Nat.le_of_ble_eq_true rfl) rfl rfl ?_
          refine pm_R_lo pm_M41 (pc_q := 1) rfl rfl rfl ?_
          refine pm_R_get pm_M41 (pc_q := 4) (v := .ref 29) rfl rfl T207.e25 (by decide) (T207.lt (by decide)) rfl rfl ?_
          refine pm_R_op pm_M41 (pc_q := 5) (st_q := [.int 0, .ref 29]) rfl rfl rfl ?_
          refine pm_R_lo pm_M41 (pc_q := 6) rfl rfl rfl ?_
          refine pm_R_lo pm_M41 (pc_q := 7) rfl rfl rfl ?_
          refine pm_R_op pm_M41 (pc_q := 8) (st_q := [.int 4, .int (m 5), .ref 26, .int 0, .ref 29]) rfl rfl rfl ?_
          refine sf_R_imulV pm_M41 (pc_q := 9) rfl rfl (sf_eqT (cl_aux70 _ _ ek181) B200) sf_k4 (by decide) (by decide) (by decide) e203 ?_
          refine pm_R_lo pm_M41 (pc_q := 10) rfl rfl rfl ?_
          refine sf_R_iadd pm_M41 (pc_q := 11) rfl rfl B204 sf_k1 (by decide) (by decide) (fun z212 e213 B214 => ?_)
          refine pm_R_op pm_M41 (pc_q := 12) (st_q := [.int 4, .int z212, .ref 26, .int 0, .ref 29]) rfl rfl rfl ?_
          refine pm_R_lo pm_M41 (pc_q := 13) rfl rfl rfl ?_
          refine pm_R_op pm_M41 (pc_q := 14) (st_q := [.int 3, .int z212, .ref 26, .int 0, .ref 29]) rfl rfl rfl ?_
          have e215 := (F210.cell G (by decide) (by decide) (F177.cell G (by decide) (by decide) (F153.cell G (by decide) (by decide) e145)))
          refine cl_R_acp G pm_M41 T207 (N := 3) (pc_q := 17) rfl rfl rfl e215 e209 (Or.inl rfl) ⟨_, rfl⟩ rfl (by decide) (by decide) B214 (by decide) (by decide) (Nat.le_of_ble_eq_true rfl) rfl (fun h216 T217 F218 e219 => ?_)
          have F220 := F218.cl (ck := ck) T207.1
          have F221 := F211.trans (N := 0) (S := 0) F220 (by decide) (by decide) (by decide)
          refine pm_R_lo pm_M41 (pc_q := 18) rfl rfl rfl ?_
          refine pm_R_op pm_M41 (pc_q := 19) (st_q := [.int 1, .int (m 5)]) rfl rfl rfl ?_
          refine sf_R_iadd pm_M41 (pc_q := 20) rfl rfl (sf_eqT (cl_aux70 _ _ ek181) B200) sf_k1 (by decide) (by decide) (fun z222 e223 B224 => ?_)
          refine pm_R_ret pm_M41 (r := some (.int z222)) rfl (pm_ret_i _) ?_
          show pm_R _ 42 86 [.ref 25, .int 9] [.int z222, .ref 25] _ _
          refine cl_R_put25 G pm_M42 T217 (k := 5) (pc_q := 89) rfl rfl rfl (by decide) rfl rfl (sf_weak B224 (by decide) (by decide)) rfl rfl rfl rfl rfl (fun h225 m228 em229 T226 F227 => ?_)
          have F230 := F227.cl (ck := ck) T217.1
          have F231 := F221.trans (N := 0) (S := 0) F230 (by decide) (by decide) (by decide)
          have B232 : sf_B 0 16 (m228 6) := by rw [em229]; exact B182
          have ek233 : (m228 6).toInt = ((m 6)).toInt := by rw [em229]; exact ek183
          have B234 : sf_B 0 99 (m228 7) := by rw [em229]; exact B184
          have ek235 : (m228 7).toInt = ((m 7)).toInt := by rw [em229]; exact ek185
          have B236 : sf_B (-1) 99 (m228 8) := by rw [em229]; exact B186
          have ek237 : (m228 8).toInt = ((m 8)).toInt := by rw [em229]; exact ek187
          have B238 : sf_B 0 4 (m228 3) := by rw [em229]; exact B188
          have ek239 : (m228 3).toInt = ((m150 3)).toInt := by rw [em229]; exact ek189
          have B240 : sf_B 3 3 (m228 12) := by rw [em229]; exact B193
          have B241 : sf_B 1 8 (m228 5) := by rw [em229]; exact B224
          have ek242 : (m228 5).toInt = (z222).toInt := by rw [em229]; rfl
          have W243 : rf_W [3, 4, 5, 6, 7, 8, 10, 11, 12, 13] m m228 := by rw [em229]; exact W190.put (by decide)
          refine pm_R_ret pm_M42 (r := none) rfl rfl ?_
          show pm_R _ 40 123 [.ref 25, .int 9] [] _ _
          refine pm_R_ret pm_M40 (r := none) rfl rfl ?_
          show pm_R _ 37 139 [.ref 25, .int 9, .int 2] [] _ _
          refine pm_R_op pm_M37 (pc_q := 140) (st_q := [.int 1]) (pm_q37_1 (Nat.le_of_ble_eq_true rfl)) rfl rfl ?_
          have e244 := (F230.cell G (by decide) (by decide) e219)
          have e245 := (F230.cell G (by decide) (by decide) (F220.cell G (by decide) (by decide) (F210.cell G (by decide) (by decide) (F177.cell G (by decide) (by decide) (F153.cell G (by decide) (by decide) (F146.cell G (by decide) (by decide) (F123.cell G (by decide) (by decide) (F99.cell G (by decide) (by decide) (F92.cell G (by decide) (by decide) (F69.cell G (by decide) (by decide) (F59.cell G (by decide) (by decide) (F53.cell G (by decide) (by decide) (F47.cell G (by decide) (by decide) (F41.cell G (by decide) (by decide) (F20.cell G (by decide) (by decide) e2)))))))))))))))
          have e246 := (F230.cell G (by decide) (by decide) (F220.cell G (by decide) (by decide) (F210.cell G (by decide) (by decide) (F177.cell G (by decide) (by decide) (F153.cell G (by decide) (by decide) (F146.cell G (by decide) (by decide) (F123.cell G (by decide) (by decide) (F99.cell G (by decide) (by decide) (F92.cell G (by decide) (by decide) (F69.cell G (by decide) (by decide) (F59.cell G (by decide) (by decide) (F53.cell G (by decide) (by decide) (F47.cell G (by decide) (by decide) (F41.cell G (by decide) (by decide) (F20.cell G (by decide) (by decide) e8)))))))))))))))
          exact pm_R_ret pm_M37 (r := some (.int 1)) (pm_q37_1 (Nat.le_of_ble_eq_true rfl)) rfl (K 1 m228 h225 T226 F231 W243 (fun z => ⟨_, _, e244, e246, (R.at (cl_aux67 _ (X22 (cl_aux68 _ _ ek81 (q114 (cl_aux68 _ _ ek135 (q168 (cl_aux68 _ _ ek239 z)).1)).1)).1) e5 e8).law (cl_aux81 _ _ _ e223 ek242 (sf_eqT (cl_aux70 _ _ ek181) B200).1 (sf_eqT (cl_aux70 _ _ ek181) B200).2 B241.1 B241.2) ((cl_tnI (Int.le_trans (by decide) B204.1)).trans (cl_aux75 _ _ e203)) ((cl_tnI (Int.le_trans (by decide) B214.1)).trans (cl_aux7 _ _ _ e203 e213)) (sf_weak sf_k2 (by decide) (by decide)) (sf_eqL (Eq.trans (sf_upd_nec (k := Int32.toNatClampNeg 1) (j := Int32.toNatClampNeg 0) (by decide)) sf_upd_eq) B199) (sf_eqL sf_upd_eq (sf_weak B198 (by decide) (by decide))) (cl_aux25 _ _ _ e223 ek242)⟩) ⟨_, e245, b3⟩ (sf_weak sf_k1 (by decide) (by decide)))
        · have B247 : sf_B 1 4 (m150 3) := sf_neL0 c194 sf_k0 B167
          refine pm_R_ret pm_M40 (r := none) rfl rfl ?_
          show pm_R _ 37 139 [.ref 25, .int 9, .int 2] [] _ _
          refine pm_R_op pm_M37 (pc_q := 140) (st_q := [.int 1]) (pm_q37_1 (Nat.le_of_ble_eq_true rfl)) rfl rfl ?_
          have e248 := (F177.cell G (by decide) (by decide) (F153.cell G (by decide) (by decide) (F146.cell G (by decide) (by decide) (F123.cell G (by decide) (by decide) (F99.cell G (by decide) (by decide) (F92.cell G (by decide) (by decide) (F69.cell G (by decide) (by decide) (F59.cell G (by decide) (by decide) (F53.cell G (by decide) (by decide) (F47.cell G (by decide) (by decide) (F41.cell G (by decide) (by decide) (F20.cell G (by decide) (by decide) e2))))))))))))
          have e249 := (F177.cell G (by decide) (by decide) (F153.cell G (by decide) (by decide) (F146.cell G (by decide) (by decide) (F123.cell G (by decide) (by decide) (F99.cell G (by decide) (by decide) (F92.cell G (by decide) (by decide) (F69.cell G (by decide) (by decide) (F59.cell G (by decide) (by decide) (F53.cell G (by decide) (by decide) (F47.cell G (by decide) (by decide) (F41.cell G (by decide) (by decide) (F20.cell G (by decide) (by decide) e5))))))))))))
          have e250 := (F177.cell G (by decide) (by decide) (F153.cell G (by decide) (by decide) (F146.cell G (by decide) (by decide) (F123.cell G (by decide) (by decide) (F99.cell G (by decide) (by decide) (F92.cell G (by decide) (by decide) (F69.cell G (by decide) (by decide) (F59.cell G (by decide) (by decide) (F53.cell G (by decide) (by decide) (F47.cell G (by decide) (by decide) (F41.cell G (by decide) (by decide) (F20.cell G (by decide) (by decide) e8))))))))))))
          exact pm_R_ret pm_M37 (r := some (.int 1)) (pm_q37_1 (Nat.le_of_ble_eq_true rfl)) rfl (K 1 m174 h175 T176 F179 W190 (fun z => ⟨_, _, e249, e250, (R.at (cl_aux67 _ (X22 (cl_aux68 _ _ ek81 (q114 (cl_aux68 _ _ ek135 (q168 (cl_aux68 _ _ ek189 z)).1)).1)).1) e5 e8).keep (cl_aux3 _ _ ek181) (cl_aux3 _ _ ek183) (cl_aux3 _ _ ek185) (cl_aux3 _ _ ek187)⟩) ⟨_, e248, b3⟩ (sf_weak sf_k1 (by decide) (by decide)))
      · skip
        refine pm_R_op pm_M37 (pc_q := 133) (st_q := [.int 0]) (pm_q37_1 (Nat.le_of_ble_eq_true rfl)) rfl rfl ?_
        have e251 := (F177.cell G (by decide) (by decide) (F153.cell G (by decide) (by decide) (F146.cell G (by decide) (by decide) (F123.cell G (by decide) (by decide) (F99.cell G (by decide) (by decide) (F92.cell G (by decide) (by decide) (F69.cell G (by decide) (by decide) (F59.cell G (by decide) (by decide) (F53.cell G (by decide) (by decide) (F47.cell G (by decide) (by decide) (F41.cell G (by decide) (by decide) (F20.cell G (by decide) (by decide) e2))))))))))))
        have e252 := (F177.cell G (by decide) (by decide) (F153.cell G (by decide) (by decide) (F146.cell G (by decide) (by decide) (F123.cell G (by decide) (by decide) (F99.cell G (by decide) (by decide) (F92.cell G (by decide) (by decide) (F69.cell G (by decide) (by decide) (F59.cell G (by decide) (by decide) (F53.cell G (by decide) (by decide) (F47.cell G (by decide) (by decide) (F41.cell G (by decide) (by decide) (F20.cell G (by decide) (by decide) e5))))))))))))
        have e253 := (F177.cell G (by decide) (by decide) (F153.cell G (by decide) (by decide) (F146.cell G (by decide) (by decide) (F123.cell G (by decide) (by decide) (F99.cell G (by decide) (by decide) (F92.cell G (by decide) (by decide) (F69.cell G (by decide) (by decide) (F59.cell G (by decide) (by decide) (F53.cell G (by decide) (by decide) (F47.cell G (by decide) (by decide) (F41.cell G (by decide) (by decide) (F20.cell G (by decide) (by decide) e8))))))))))))
        exact pm_R_ret pm_M37 (r := some (.int 0)) (pm_q37_1 (Nat.le_of_ble_eq_true rfl)) rfl (K 0 m174 h175 T176 F179 W190 (fun z => ⟨_, _, e252, e253, (R.at (cl_aux67 _ (X22 (cl_aux68 _ _ ek81 (q114 (cl_aux68 _ _ ek135 (q168 (cl_aux68 _ _ ek189 z)).1)).1)).1) e5 e8).keep (cl_aux3 _ _ ek181) (cl_aux3 _ _ ek183) (cl_aux3 _ _ ek185) (cl_aux3 _ _ ek187)⟩) ⟨_, e251, b3⟩ (sf_weak sf_k0 (by decide) (by decide)))
    · skip
      refine pm_R_op pm_M37 (pc_q := 50) (st_q := [.int 0]) rfl rfl rfl ?_
      have e254 := (F123.cell G (by decide) (by decide) (F99.cell G (by decide) (by decide) (F92.cell G (by decide) (by decide) (F69.cell G (by decide) (by decide) (F59.cell G (by decide) (by decide) (F53.cell G (by decide) (by decide) (F47.cell G (by decide) (by decide) (F41.cell G (by decide) (by decide) (F20.cell G (by decide) (by decide) e2)))))))))
      have e255 := (F123.cell G (by decide) (by decide) (F99.cell G (by decide) (by decide) (F92.cell G (by decide) (by decide) (F69.cell G (by decide) (by decide) (F59.cell G (by decide) (by decide) (F53.cell G (by decide) (by decide) (F47.cell G (by decide) (by decide) (F41.cell G (by decide) (by decide) (F20.cell G (by decide) (by decide) e5)))))))))
      have e256 := (F123.cell G (by decide) (by decide) (F99.cell G (by decide) (by decide) (F92.cell G (by decide) (by decide) (F69.cell G (by decide) (by decide) (F59.cell G (by decide) (by decide) (F53.cell G (by decide) (by decide) (F47.cell G (by decide) (by decide) (F41.cell G (by decide) (by decide) (F20.cell G (by decide) (by decide) e8)))))))))
      exact pm_R_ret pm_M37 (r := some (.int 0)) rfl rfl (K 0 m120 h121 T122 F125 W136 (fun z => ⟨_, _, e255, e256, (R.at (cl_aux67 _ (X22 (cl_aux68 _ _ ek81 (q114 (cl_aux68 _ _ ek135 z)).1)).1) e5 e8).keep (cl_aux3 _ _ ek127) (cl_aux3 _ _ ek129) (cl_aux3 _ _ ek131) (cl_aux3 _ _ ek133)⟩) ⟨_, e254, b3⟩ (sf_weak sf_k0 (by decide) (by decide)))
  · skip
    refine pm_R_op pm_M37 (pc_q := 50) (st_q := [.int 0]) rfl rfl rfl ?_
    have e257 := (F69.cell G (by decide) (by decide) (F59.cell G (by decide) (by decide) (F53.cell G (by decide) (by decide) (F47.cell G (by decide) (by decide) (F41.cell G (by decide) (by decide) (F20.cell G (by decide) (by decide) e2))))))
    have e258 := (F69.cell G (by decide) (by decide) (F59.cell G (by decide) (by decide) (F53.cell G (by decide) (by decide) (F47.cell G (by decide) (by decide) (F41.cell G (by decide) (by decide) (F20.cell G (by decide) (by decide) e5))))))
    have e259 := (F69.cell G (by decide) (by decide) (F59.cell G (by decide) (by decide) (F53.cell G (by decide) (by decide) (F47.cell G (by decide) (by decide) (F41.cell G (by decide) (by decide) (F20.cell G (by decide) (by decide) e8))))))
    exact pm_R_ret pm_M37 (r := some (.int 0)) rfl rfl (K 0 m66 h67 T68 F71 W82 (fun z => ⟨_, _, e258, e259, (R.at (cl_aux67 _ (X22 (cl_aux68 _ _ ek81 z)).1) e5 e8).keep (cl_aux3 _ _ ek73) (cl_aux3 _ _ ek75) (cl_aux3 _ _ ek77) (cl_aux3 _ _ ek79)⟩) ⟨_, e257, b3⟩ (sf_weak sf_k0 (by decide) (by decide)))

set_option maxRecDepth 100000 in
set_option maxHeartbeats 4000000 in
/-- SilentTable$TextReader.readLine -/
theorem cl_c37_10 {d : Nat} {ck : cl_K} {E : Nat → pm_E} {m : Nat → Int32} {o : Nat → Option Nat} {h : pm_H} {Q : Option Value → pm_H → Prop}  (G : cl_G ck E) (T : cl_T ck E m o h) (R : cl_Rd 3 m h) (Y : cl_Y h) (K : ∀ (r : Int32) (m_q : Nat → Int32) (h_q : pm_H), cl_T ck E m_q o h_q → cl_F ck [25, 26, 29, 30] 0 0 h h_q → rf_W [3, 4, 5, 6, 7, 8, 10, 11, 12, 13] m m_q → cl_Rd 3 m_q h_q → cl_Y h_q → sf_B 0 1 r → Q (some (.int r)) h_q) : pm_R (d + 7) 37 0 [.ref 25, .int 10, pm_no] [] h Q := by
  obtain ⟨f1, e2, b3⟩ := Y
  obtain ⟨f4, e5⟩ := T.C 26 (by decide) (by decide)
  obtain ⟨f7, e8⟩ := T.C 27 (by decide) (by decide)
  have B10 : sf_B 0 4 (m 3) := T.B 3
  have B11 : sf_B 0 50 (m 5) := T.B 5
  have B12 : sf_B 0 16 (m 6) := T.B 6
  have B13 : sf_B 0 99 (m 7) := T.B 7
  have B14 : sf_B (-1) 99 (m 8) := T.B 8
  refine pm_R_lo pm_M37 (pc_q := 1) rfl rfl rfl ?_
  refine pm_R_op pm_M37 (pc_q := 2) (st_q := [.int (-1), .int 10]) rfl rfl rfl ?_
  refine pm_R_br pm_M37 (pc_q := 7) (st_q := []) rfl rfl ?_
  refine pm_R_lo pm_M37 (pc_q := 8) rfl rfl rfl ?_
  refine pm_R_lo pm_M37 (pc_q := 9) rfl rfl rfl ?_
  refine pm_R_cv pm_M37 (pc_q := 12) (a := 25) (ra := [.int 10]) (rest := []) (ls_q := [.ref 25, .int 10, pm_no, pm_no]) rfl rfl (Or.inl rfl) pm_M38 T.e25 rfl (by decide) (T.lt (by decide)) rfl rfl (Nat.le_of_ble_eq_true rfl) rfl rfl ?_
  refine cl_c38_10 (d := d + 5) G T  (fun m17 h18 T19 F20 W21 X22 => ?_)
  have F23 := (cl_F.refl (ck := ck) (A := [25, 26, 29, 30]) (n := 0) (s := 0) T.1).trans (N := 0) (S := 0) F20 (by decide) (by decide) (by decide)
  have B24 : sf_B 0 50 (m17 5) := by rw [W21 5 (by decide)]; exact B11
  have ek25 : (m17 5).toInt = ((m 5)).toInt := by rw [W21 5 (by decide)]
  have B26 : sf_B 0 16 (m17 6) := by rw [W21 6 (by decide)]; exact B12
  have ek27 : (m17 6).toInt = ((m 6)).toInt := by rw [W21 6 (by decide)]
  have B28 : sf_B 0 99 (m17 7) := by rw [W21 7 (by decide)]; exact B13
  have ek29 : (m17 7).toInt = ((m 7)).toInt := by rw [W21 7 (by decide)]
  have B30 : sf_B (-1) 99 (m17 8) := by rw [W21 8 (by decide)]; exact B14
  have ek31 : (m17 8).toInt = ((m 8)).toInt := by rw [W21 8 (by decide)]
  have W32 : rf_W [3, 4, 5, 6, 7, 8, 10, 11, 12, 13] m m17 := (rf_W.refl [3, 4, 5, 6, 7, 8, 10, 11, 12, 13] m).trans W21 (by decide)
  have B33 : sf_B 0 4 (m17 3) := T19.B 3
  show pm_R _ 37 12 [.ref 25, .int 10, pm_no] [] _ _
  refine pm_R_lo pm_M37 (pc_q := 13) rfl rfl rfl ?_
  refine pm_R_get pm_M37 (pc_q := 16) (v := .ref 29) rfl rfl T19.e25 (by decide) (T19.lt (by decide)) rfl rfl ?_
  refine pm_R_op pm_M37 (pc_q := 17) (st_q := [.int (-1), .ref 29]) rfl rfl rfl ?_
  refine pm_R_cs pm_M37 (pc_q := 20) (ra := [.int (-1), .ref 29]) (rest := []) (ls_q := [.ref 29, .int (-1), pm_no, pm_no]) rfl rfl (Or.inl rfl) pm_M13 rfl rfl (Nat.le_of_ble_eq_true rfl) rfl rfl ?_
  refine pm_R_op pm_M13 (pc_q := 1) (st_q := [.int 0]) rfl rfl rfl ?_
  refine pm_R_lo pm_M13 (pc_q := 2) (ls_q := [.ref 29, .int (-1), .int 0, pm_no]) (st_q := []) rfl rfl rfl ?_
  refine pm_R_lo pm_M13 (pc_q := 3) rfl rfl rfl ?_
  obtain ⟨f34, e35⟩ := T19.C 29 (by decide) (by decide)
  refine pm_R_alen pm_M13 (pc_q := 4) (v := 4) rfl e35 (by decide) (T19.lt (by decide)) (by decide) rfl rfl ?_
  refine pm_R_lo pm_M13 (pc_q := 5) (ls_q := [.ref 29, .int (-1), .int 0, .int 4]) (st_q := []) rfl rfl rfl ?_
  refine pm_R_lo pm_M13 (pc_q := 6) rfl rfl rfl ?_
  refine pm_R_lo pm_M13 (pc_q := 7) rfl rfl rfl ?_
  refine pm_R_br pm_M13 (pc_q := 10) (st_q := []) rfl rfl ?_
  refine pm_R_lo pm_M13 (pc_q := 11) rfl rfl rfl ?_
  refine pm_R_lo pm_M13 (pc_q := 12) rfl rfl rfl ?_
  refine pm_R_lo pm_M13 (pc_q := 13) rfl rfl rfl ?_
  refine cl_R_ist G pm_M13 T19 (pc_q := 14) rfl e35 (by decide) ⟨_, rfl⟩ rfl rfl (fun h37 T38 F39 e40 => ?_)
  have F41 := F39.cl (ck := ck) T19.1
  have F42 := F23.trans (N := 0) (S := 0) F41 (by decide) (by decide) (by decide)
  refine pm_R_lo pm_M13 (pc_q := 17) (ls_q := [.ref 29, .int (-1), .int 1, .int 4]) (st_q := []) rfl rfl rfl ?_
  refine pm_R_br pm_M13 (pc_q := 5) rfl rfl ?_
  refine pm_R_lo pm_M13 (pc_q := 6) rfl rfl rfl ?_
  refine pm_R_lo pm_M13 (pc_q := 7) rfl rfl rfl ?_
  refine pm_R_br pm_M13 (pc_q := 10) (st_q := []) rfl rfl ?_
  refine pm_R_lo pm_M13 (pc_q := 11) rfl rfl rfl ?_
  refine pm_R_lo pm_M13 (pc_q := 12) rfl rfl rfl ?_
  refine pm_R_lo pm_M13 (pc_q := 13) rfl rfl rfl ?_
  refine cl_R_ist G pm_M13 T38 (pc_q := 14) rfl e40 (by decide) ⟨_, rfl⟩ rfl rfl (fun h43 T44 F45 e46 => ?_)
  have F47 := F45.cl (ck := ck) T38.1
  have F48 := F42.trans (N := 0) (S := 0) F47 (by decide) (by decide) (by decide)
  refine pm_R_lo pm_M13 (pc_q := 17) (ls_q := [.ref 29, .int (-1), .int 2, .int 4]) (st_q := []) rfl rfl rfl ?_
  refine pm_R_br pm_M13 (pc_q := 5) rfl rfl ?_
  refine pm_R_lo pm_M13 (pc_q := 6) rfl rfl rfl ?_
  refine pm_R_lo pm_M13 (pc_q := 7) rfl rfl rfl ?_
  refine pm_R_br pm_M13 (pc_q := 10) (st_q := []) rfl rfl ?_
  refine pm_R_lo pm_M13 (pc_q := 11) rfl rfl rfl ?_
  refine pm_R_lo pm_M13 (pc_q := 12) rfl rfl rfl ?_
  refine pm_R_lo pm_M13 (pc_q := 13) rfl rfl rfl ?_
  refine cl_R_ist G pm_M13 T44 (pc_q := 14) rfl e46 (by decide) ⟨_, rfl⟩ rfl rfl (fun h49 T50 F51 e52 => ?_)
  have F53 := F51.cl (ck := ck) T44.1
  have F54 := F48.trans (N := 0) (S := 0) F53 (by decide) (by decide) (by decide)
  refine pm_R_lo pm_M13 (pc_q := 17) (ls_q := [.ref 29, .int (-1), .int 3, .int 4]) (st_q := []) rfl rfl rfl ?_
  refine pm_R_br pm_M13 (pc_q := 5) rfl rfl ?_
  refine pm_R_lo pm_M13 (pc_q := 6) rfl rfl rfl ?_
  refine pm_R_lo pm_M13 (pc_q := 7) rfl rfl rfl ?_
  refine pm_R_br pm_M13 (pc_q := 10) (st_q := []) rfl rfl ?_
  refine pm_R_lo pm_M13 (pc_q := 11) rfl rfl rfl ?_
  refine pm_R_lo pm_M13 (pc_q := 12) rfl rfl rfl ?_
  refine pm_R_lo pm_M13 (pc_q := 13) rfl rfl rfl ?_
  refine cl_R_ist G pm_M13 T50 (pc_q := 14) rfl e52 (by decide) ⟨_, rfl⟩ rfl rfl (fun h55 T56 F57 e58 => ?_)
  have F59 := F57.cl (ck := ck) T50.1
  have F60 := F54.trans (N := 0) (S := 0) F59 (by decide) (by decide) (by decide)
  refine pm_R_lo pm_M13 (pc_q := 17) (ls_q := [.ref 29, .int (-1), .int 4, .int 4]) (st_q := []) rfl rfl rfl ?_
  refine pm_R_br pm_M13 (pc_q := 5) rfl rfl ?_
  refine pm_R_lo pm_M13 (pc_q := 6) rfl rfl rfl ?_
  refine pm_R_lo pm_M13 (pc_q := 7) rfl rfl rfl ?_
  refine pm_R_br pm_M13 (pc_q := 20) (st_q := []) rfl rfl ?_
  refine pm_R_ret pm_M13 (r := none) rfl rfl ?_
  show pm_R _ 37 20 [.ref 25, .int 10, pm_no] [] _ _
  refine pm_R_op pm_M37 (pc_q := 21) (st_q := [.int 0]) rfl rfl rfl ?_
  refine pm_R_lo pm_M37 (pc_q := 22) (ls_q := [.ref 25, .int 10, .int 0]) (st_q := []) rfl rfl rfl ?_
  refine pm_R_lo pm_M37 (pc_q := 23) rfl rfl rfl ?_
  refine pm_R_stat pm_M37 (pc_q := 26) rfl rfl rfl ?_
  refine pm_R_lo pm_M37 (pc_q := 27) rfl rfl rfl ?_
  refine pm_R_iald pm_M37 (pc_q := 28) (v := 2) rfl ((T56.old (by decide)).trans G.tb2) (T56.lt (by decide)) rfl rfl rfl ?_
  refine pm_R_br pm_M37 (pc_q := 31) (st_q := []) rfl rfl ?_
  refine pm_R_lo pm_M37 (pc_q := 32) rfl rfl rfl ?_
  refine pm_R_get pm_M37 (pc_q := 35) (v := .ref 30) rfl rfl T56.e25 (by decide) (T56.lt (by decide)) rfl rfl ?_
  refine pm_R_cv pm_M37 (pc_q := 38) (a := 30) (ra := []) (rest := []) (ls_q := [.ref 30]) rfl rfl (Or.inl rfl) pm_M16 T56.e30 rfl (by decide) (T56.lt (by decide)) rfl rfl (Nat.le_of_ble_eq_true rfl) rfl rfl ?_
  refine cl_c16 (d := d + 4) G T56  (fun m66 h67 T68 F69 W70 => ?_)
  have F71 := F60.trans (N := 0) (S := 0) F69 (by decide) (by decide) (by decide)
  have B72 : sf_B 0 50 (m66 5) := by rw [W70 5 (by decide)]; exact B24
  have ek73 : (m66 5).toInt = ((m 5)).toInt := by rw [W70 5 (by decide)]; exact ek25
  have B74 : sf_B 0 16 (m66 6) := by rw [W70 6 (by decide)]; exact B26
  have ek75 : (m66 6).toInt = ((m 6)).toInt := by rw [W70 6 (by decide)]; exact ek27
  have B76 : sf_B 0 99 (m66 7) := by rw [W70 7 (by decide)]; exact B28
  have ek77 : (m66 7).toInt = ((m 7)).toInt := by rw [W70 7 (by decide)]; exact ek29
  have B78 : sf_B (-1) 99 (m66 8) := by rw [W70 8 (by decide)]; exact B30
  have ek79 : (m66 8).toInt = ((m 8)).toInt := by rw [W70 8 (by decide)]; exact ek31
  have B80 : sf_B 0 4 (m66 3) := by rw [W70 3 (by decide)]; exact B33
  have ek81 : (m66 3).toInt = ((m17 3)).toInt := by rw [W70 3 (by decide)]
  have W82 : rf_W [3, 4, 5, 6, 7, 8, 10, 11, 12, 13] m m66 := W32.trans W70 (by decide)
  show pm_R _ 37 38 [.ref 25, .int 10, .int 0] [] _ _
  refine pm_R_lo pm_M37 (pc_q := 39) rfl rfl rfl ?_
  refine pm_R_get pm_M37 (pc_q := 42) (v := .ref 30) rfl rfl T68.e25 (by decide) (T68.lt (by decide)) rfl rfl ?_
  have B83 : sf_B 0 4 (m66 12) := T68.B 12
  refine pm_R_get pm_M37 (pc_q := 45) (v := .int (m66 12)) rfl rfl T68.e30 (by decide) (T68.lt (by decide)) rfl rfl ?_
  refine pm_R_op pm_M37 (pc_q := 46) (st_q := [.int 2, .int (m66 12)]) rfl rfl rfl ?_
  refine pm_R_icmp pm_M37 (t := 51) (pc_q := 49) rfl rfl rfl (fun c84 => ?_) (fun c84 => ?_)
  · have B85 : sf_B 2 2 (m66 12) := sf_eqL c84 sf_k2
    refine pm_R_lo pm_M37 (pc_q := 52) rfl rfl rfl ?_
    refine pm_R_get pm_M37 (pc_q := 55) (v := .ref 29) rfl rfl T68.e25 (by decide) (T68.lt (by decide)) rfl rfl ?_
    refine pm_R_lo pm_M37 (pc_q := 56) rfl rfl rfl ?_
    refine pm_R_lo pm_M37 (pc_q := 57) rfl rfl rfl ?_
    refine pm_R_get pm_M37 (pc_q := 60) (v := .ref 30) rfl rfl T68.e25 (by decide) (T68.lt (by decide)) rfl rfl ?_
    have B86 : sf_B 0 99 (m66 13) := T68.B 13
    refine pm_R_get pm_M37 (pc_q := 63) (v := .int (m66 13)) rfl rfl T68.e30 (by decide) (T68.lt (by decide)) rfl rfl ?_
    have e87 := (F69.cell G (by decide) (by decide) e58)
    refine cl_R_ist G pm_M37 T68 (pc_q := 64) rfl e87 (by decide) ⟨_, rfl⟩ rfl rfl (fun h88 T89 F90 e91 => ?_)
    have F92 := F90.cl (ck := ck) T68.1
    have F93 := F71.trans (N := 0) (S := 0) F92 (by decide) (by decide) (by decide)
    refine pm_R_lo pm_M37 (pc_q := 65) rfl rfl rfl ?_
    refine pm_R_lo pm_M37 (pc_q := 66) rfl rfl rfl ?_
    refine pm_R_lo pm_M37 (pc_q := 67) rfl rfl rfl ?_
    refine pm_R_cv pm_M37 (pc_q := 70) (a := 25) (ra := [.int 0, .int 10]) (rest := []) (ls_q := [.ref 25, .int 10, .int 0, pm_no, pm_no, pm_no]) rfl rfl (Or.inl rfl) pm_M39 T89.e25 rfl (by decide) (T89.lt (by decide)) rfl rfl (Nat.le_of_ble_eq_true rfl) rfl rfl ?_
    refine cl_c39_10_0 (d := d + 5) G T89  (fun m96 h97 T98 F99 W100 X101 => ?_)
    have F102 := F93.trans (N := 0) (S := 0) F99 (by decide) (by decide) (by decide)
    have B103 : sf_B 0 50 (m96 5) := by rw [W100 5 (by decide)]; exact B72
    have ek104 : (m96 5).toInt = ((m 5)).toInt := by rw [W100 5 (by decide)]; exact ek73
    have B105 : sf_B 0 16 (m96 6) := by rw [W100 6 (by decide)]; exact B74
    have ek106 : (m96 6).toInt = ((m 6)).toInt := by rw [W100 6 (by decide)]; exact ek75
    have B107 : sf_B 0 99 (m96 7) := by rw [W100 7 (by decide)]; exact B76
    have ek108 : (m96 7).toInt = ((m 7)).toInt := by rw [W100 7 (by decide)]; exact ek77
    have B109 : sf_B (-1) 99 (m96 8) := by rw [W100 8 (by decide)]; exact B78
    have ek110 : (m96 8).toInt = ((m 8)).toInt := by rw [W100 8 (by decide)]; exact ek79
    have B111 : sf_B 2 2 (m96 12) := by rw [W100 12 (by decide)]; exact B85
    have W112 : rf_W [3, 4, 5, 6, 7, 8, 10, 11, 12, 13] m m96 := W82.trans W100 (by decide)
    have B113 : sf_B 0 4 (m96 3) := T98.B 3
    show pm_R _ 37 70 [.ref 25, .int 10, .int 0] [] _ _
    have q114 := X101 _ e91
    refine pm_R_lo pm_M37 (pc_q := 73) (ls_q := [.ref 25, .int 10, .int 1]) (st_q := []) rfl rfl rfl ?_
    refine pm_R_br pm_M37 (pc_q := 22) rfl rfl ?_
    refine pm_R_lo pm_M37 (pc_q := 23) rfl rfl rfl ?_
    refine pm_R_stat pm_M37 (pc_q := 26) rfl rfl rfl ?_
    refine pm_R_lo pm_M37 (pc_q := 27) rfl rfl rfl ?_
    refine pm_R_iald pm_M37 (pc_q := 28) (v := 2) rfl ((T98.old (by decide)).trans G.tb2) (T98.lt (by decide)) rfl rfl rfl ?_
    refine pm_R_br pm_M37 (pc_q := 31) (st_q := []) rfl rfl ?_
    refine pm_R_lo pm_M37 (pc_q := 32) rfl rfl rfl ?_
    refine pm_R_get pm_M37 (pc_q := 35) (v := .ref 30) rfl rfl T98.e25 (by decide) (T98.lt (by decide)) rfl rfl ?_
    refine pm_R_cv pm_M37 (pc_q := 38) (a := 30) (ra := []) (rest := []) (ls_q := [.ref 30]) rfl rfl (Or.inl rfl) pm_M16 T98.e30 rfl (by decide) (T98.lt (by decide)) rfl rfl (Nat.le_of_ble_eq_true rfl) rfl rfl ?_
    refine cl_c16 (d := d + 4) G T98  (fun m120 h121 T122 F123 W124 => ?_)
    have F125 := F102.trans (N := 0) (S := 0) F123 (by decide) (by decide) (by decide)
    have B126 : sf_B 0 50 (m120 5) := by rw [W124 5 (by decide)]; exact B103
    have ek127 : (m120 5).toInt = ((m 5)).toInt := by rw [W124 5 (by decide)]; exact ek104
    have B128 : sf_B 0 16 (m120 6) := by rw [W124 6 (by decide)]; exact B105
    have ek129 : (m120 6).toInt = ((m 6)).toInt := by rw [W124 6 (by decide)]; exact ek106
    have B130 : sf_B 0 99 (m120 7) := by rw [W124 7 (by decide)]; exact B107
    have ek131 : (m120 7).toInt = ((m 7)).toInt := by rw [W124 7 (by decide)]; exact ek108
    have B132 : sf_B (-1) 99 (m120 8) := by rw [W124 8 (by decide)]; exact B109
    have ek133 : (m120 8).toInt = ((m 8)).toInt := by rw [W124 8 (by decide)]; exact ek110
    have B134 : sf_B 0 4 (m120 3) := by rw [W124 3 (by decide)]; exact B113
    have ek135 : (m120 3).toInt = ((m96 3)).toInt := by rw [W124 3 (by decide)]
    have W136 : rf_W [3, 4, 5, 6, 7, 8, 10, 11, 12, 13] m m120 := W112.trans W124 (by decide)
    show pm_R _ 37 38 [.ref 25, .int 10, .int 1] [] _ _
    refine pm_R_lo pm_M37 (pc_q := 39) rfl rfl rfl ?_
    refine pm_R_get pm_M37 (pc_q := 42) (v := .ref 30) rfl rfl T122.e25 (by decide) (T122.lt (by decide)) rfl rfl ?_
    have B137 : sf_B 0 4 (m120 12) := T122.B 12
    refine pm_R_get pm_M37 (pc_q := 45) (v := .int (m120 12)) rfl rfl T122.e30 (by decide) (T122.lt (by decide)) rfl rfl ?_
    refine pm_R_op pm_M37 (pc_q := 46) (st_q := [.int 2, .int (m120 12)]) rfl rfl rfl ?_
    refine pm_R_icmp pm_M37 (t := 51) (pc_q := 49) rfl rfl rfl (fun c138 => ?_) (fun c138 => ?_)
    · have B139 : sf_B 2 2 (m120 12) := sf_eqL c138 sf_k2
      refine pm_R_lo pm_M37 (pc_q := 52) rfl rfl rfl ?_
      refine pm_R_get pm_M37 (pc_q := 55) (v := .ref 29) rfl rfl T122.e25 (by decide) (T122.lt (by decide)) rfl rfl ?_
      refine pm_R_lo pm_M37 (pc_q := 56) rfl rfl rfl ?_
      refine pm_R_lo pm_M37 (pc_q := 57) rfl rfl rfl ?_
      refine pm_R_get pm_M37 (pc_q := 60) (v := .ref 30) rfl rfl T122.e25 (by decide) (T122.lt (by decide)) rfl rfl ?_
      have B140 : sf_B 0 99 (m120 13) := T122.B 13
      refine pm_R_get pm_M37 (pc_q := 63) (v := .int (m120 13)) rfl rfl T122.e30 (by decide) (T122.lt (by decide)) rfl rfl ?_
      have e141 := (F123.cell G (by decide) (by decide) (F99.cell G (by decide) (by decide) e91))
      refine cl_R_ist G pm_M37 T122 (pc_q := 64) rfl e141 (by decide) ⟨_, rfl⟩ rfl rfl (fun h142 T143 F144 e145 => ?_)
      have F146 := F144.cl (ck := ck) T122.1
      have F147 := F125.trans (N := 0) (S := 0) F146 (by decide) (by decide) (by decide)
      refine pm_R_lo pm_M37 (pc_q := 65) rfl rfl rfl ?_
      refine pm_R_lo pm_M37 (pc_q := 66) rfl rfl rfl ?_
      refine pm_R_lo pm_M37 (pc_q := 67) rfl rfl rfl ?_
      refine pm_R_cv pm_M37 (pc_q := 70) (a := 25) (ra := [.int 1, .int 10]) (rest := []) (ls_q := [.ref 25, .int 10, .int 1, pm_no, pm_no, pm_no]) rfl rfl (Or.inl rfl) pm_M39 T143.e25 rfl (by decide) (T143.lt (by decide)) rfl rfl (Nat.le_of_ble_eq_true rfl) rfl rfl ?_
      refine cl_c39_10_1 (d := d + 5) G T143  (fun m150 h151 T152 F153 W154 X155 => ?_)
      have F156 := F147.trans (N := 0) (S := 0) F153 (by decide) (by decide) (by decide)
      have B157 : sf_B 0 50 (m150 5) := by rw [W154 5 (by decide)]; exact B126
      have ek158 : (m150 5).toInt = ((m 5)).toInt := by rw [W154 5 (by decide)]; exact ek127
      have B159 : sf_B 0 16 (m150 6) := by rw [W154 6 (by decide)]; exact B128
      have ek160 : (m150 6).toInt = ((m 6)).toInt := by rw [W154 6 (by decide)]; exact ek129
      have B161 : sf_B 0 99 (m150 7) := by rw [W154 7 (by decide)]; exact B130
      have ek162 : (m150 7).toInt = ((m 7)).toInt := by rw [W154 7 (by decide)]; exact ek131
      have B163 : sf_B (-1) 99 (m150 8) := by rw [W154 8 (by decide)]; exact B132
      have ek164 : (m150 8).toInt = ((m 8)).toInt := by rw [W154 8 (by decide)]; exact ek133
      have B165 : sf_B 2 2 (m150 12) := by rw [W154 12 (by decide)]; exact B139
      have W166 : rf_W [3, 4, 5, 6, 7, 8, 10, 11, 12, 13] m m150 := W136.trans W154 (by decide)
      have B167 : sf_B 0 4 (m150 3) := T152.B 3
      show pm_R _ 37 70 [.ref 25, .int 10, .int 1] [] _ _
      have q168 := X155 _ e145
      refine pm_R_lo pm_M37 (pc_q := 73) (ls_q := [.ref 25, .int 10, .int 2]) (st_q := []) rfl rfl rfl ?_
      refine pm_R_br pm_M37 (pc_q := 22) rfl rfl ?_
      refine pm_R_lo pm_M37 (pc_q := 23) rfl rfl rfl ?_
      refine pm_R_stat pm_M37 (pc_q := 26) rfl rfl rfl ?_
      refine pm_R_lo pm_M37 (pc_q := 27) rfl rfl rfl ?_
      refine pm_R_iald pm_M37 (pc_q := 28) (v := 2) rfl ((T152.old (by decide)).trans G.tb2) (T152.lt (by decide)) rfl rfl rfl ?_
      refine pm_R_br pm_M37 (pc_q := 76) (st_q := []) rfl rfl ?_
      refine pm_R_lo pm_M37 (pc_q := 77) rfl rfl rfl ?_
      refine pm_R_br pm_M37 (pc_q := 114) (st_q := []) rfl rfl ?_
      refine pm_R_lo pm_M37 (pc_q := 115) (pm_q37_1 (Nat.le_of_ble_eq_true rfl)) rfl rfl ?_
      refine pm_R_get pm_M37 (pc_q := 118) (v := .ref 30) (pm_q37_1 (Nat.le_of_ble_eq_true rfl)) rfl T152.e25 (by decide) (T152.lt (by decide)) rfl rfl ?_
      refine pm_R_cv pm_M37 (pc_q := 121) (a := 30) (ra := []) (rest := []) (ls_q := [.ref 30]) (pm_q37_1 (Nat.le_of_ble_eq_true rfl)) rfl (Or.inl rfl) pm_M16 T152.e30 rfl (by decide) (T152.lt (by decide)) rfl rfl (Nat.le_of_ble_eq_true rfl) rfl rfl ?_
      refine cl_c16 (d := d + 4) G T152  (fun m174 h175 T176 F177 W178 => ?_)
      have F179 := F156.trans (N := 0) (S := 0) F177 (by decide) (by decide) (by decide)
      have B180 : sf_B 0 50 (m174 5) := by rw [W178 5 (by decide)]; exact B157
      have ek181 : (m174 5).toInt = ((m 5)).toInt := by rw [W178 5 (by decide)]; exact ek158
      have B182 : sf_B 0 16 (m174 6) := by rw [W178 6 (by decide)]; exact B159
      have ek183 : (m174 6).toInt = ((m 6)).toInt := by rw [W178 6 (by decide)]; exact ek160
      have B184 : sf_B 0 99 (m174 7) := by rw [W178 7 (by decide)]; exact B161
      have ek185 : (m174 7).toInt = ((m 7)).toInt := by rw [W178 7 (by decide)]; exact ek162
      have B186 : sf_B (-1) 99 (m174 8) := by rw [W178 8 (by decide)]; exact B163
      have ek187 : (m174 8).toInt = ((m 8)).toInt := by rw [W178 8 (by decide)]; exact ek164
      have B188 : sf_B 0 4 (m174 3) := by rw [W178 3 (by decide)]; exact B167
      have ek189 : (m174 3).toInt = ((m150 3)).toInt := by rw [W178 3 (by decide)]
      have W190 : rf_W [3, 4, 5, 6, 7, 8, 10, 11, 12, 13] m m174 := W166.trans W178 (by decide)
      show pm_R _ 37 121 [.ref 25, .int 10, .int 2] [] _ _
      refine pm_R_lo pm_M37 (pc_q := 122) (pm_q37_1 (Nat.le_of_ble_eq_true rfl)) rfl rfl ?_
      refine pm_R_get pm_M37 (pc_q := 125) (v := .ref 30) (pm_q37_1 (Nat.le_of_ble_eq_true rfl)) rfl T176.e25 (by decide) (T176.lt (by decide)) rfl rfl ?_
      have B191 : sf_B 0 4 (m174 12) := T176.B 12
      refine pm_R_get pm_M37 (pc_q := 128) (v := .int (m174 12)) (pm_q37_1 (Nat.le_of_ble_eq_true rfl)) rfl T176.e30 (by decide) (T176.lt (by decide)) rfl rfl ?_
      refine pm_R_op pm_M37 (pc_q := 129) (st_q := [.int 3, .int (m174 12)]) (pm_q37_1 (Nat.le_of_ble_eq_true rfl)) rfl rfl ?_
      refine pm_R_icmp pm_M37 (t := 134) (pc_q := 132) (pm_q37_1 (Nat.le_of_ble_eq_true rfl)) rfl rfl (fun c192 => ?_) (fun c192 => ?_)
      · have B193 : sf_B 3 3 (m174 12) := sf_eqL c192 sf_k3
        refine pm_R_lo pm_M37 (pc_q := 135) (pm_q37_1 (Nat.le_of_ble_eq_true rfl)) rfl rfl ?_
        refine pm_R_lo pm_M37 (pc_q := 136) (pm_q37_1 (Nat.le_of_ble_eq_true rfl)) rfl rfl ?_
        refine pm_R_cv pm_M37 (pc_q := 139) (a := 25) (ra := [.int 10]) (rest := []) (ls_q := [.ref 25, .int 10]) (pm_q37_1 (Nat.le_of_ble_eq_true rfl)) rfl (Or.inl rfl) pm_M40 T176.e25 rfl (by decide) (T176.lt (by decide)) rfl rfl (Nat.le_of_ble_eq_true rfl) rfl rfl ?_
        refine pm_R_lo pm_M40 (pc_q := 1) rfl rfl rfl ?_
        refine pm_R_get pm_M40 (pc_q := 4) (v := .int (m150 3)) rfl rfl T176.e25 (by decide) (T176.lt (by decide)) (congrArg (fun z => some (Value.int z)) (Int32.toInt_inj.mp (cl_aux3 _ _ ek189))) rfl ?_
        refine pm_R_ifc pm_M40 (t := 8) (pc_q := 7) rfl rfl rfl (fun c194 => ?_) (fun c194 => ?_)
        · have y195 := q168 (cl_aux67 _ (congrArg Int32.toInt c194))
          have y196 := q114 (cl_aux68 _ _ ek135 y195.1)
          have y197 := X22 (cl_aux68 _ _ ek81 y196.1)
          have B198 : sf_B 0 9 (m120 13) := ⟨B140.1, cl_upE (P := fun x => x.toInt ≤ 9) y195.2.2⟩
          have B199 : sf_B 0 9 (m66 13) := ⟨B86.1, cl_upE (P := fun x => x.toInt ≤ 9) y196.2.2⟩
          have B200 : sf_B 0 7 (m174 5) := ⟨B180.1, (cl_aux80 _ _ ek181 y197.2)⟩
          have B201 : sf_B 0 0 (m150 3) := sf_eqL c194 sf_k0
          refine pm_R_lo pm_M40 (pc_q := 9) rfl rfl rfl ?_
          refine pm_R_br pm_M40 (pc_q := 118) (st_q := []) rfl rfl ?_
          refine pm_R_lo pm_M40 (pc_q := 119) rfl rfl rfl ?_
          refine pm_R_lo pm_M40 (pc_q := 120) rfl rfl rfl ?_
          refine pm_R_cv pm_M40 (pc_q := 123) (a := 25) (ra := [.int 10]) (rest := []) (ls_q := [.ref 25, .int 10]) rfl rfl (Or.inl rfl) pm_M42 T176.e25 rfl (by decide) (T176.lt (by decide)) rfl rfl (Nat.le_of_ble_eq_true rfl) rfl rfl ?_
          refine pm_R_lo pm_M42 (pc_q := 1) rfl rfl rfl ?_
          refine pm_R_op pm_M42 (pc_q := 3) (st_q := [.int 7, .int 10]) rfl rfl rfl ?_
          refine pm_R_br pm_M42 (pc_q := 45) (st_q := []) rfl rfl ?_
          refine pm_R_lo pm_M42 (pc_q := 46) rfl rfl rfl ?_
          refine pm_R_get pm_M42 (pc_q := 49) (v := .ref 26) rfl rfl T176.e25 (by decide) (T176.lt (by decide)) rfl rfl ?_
          refine pm_R_lo pm_M42 (pc_q := 50) rfl rfl rfl ?_
          refine pm_R_get pm_M42 (pc_q := 53) (v := .int (m 5)) rfl rfl T176.e25 (by decide) (T176.lt (by decide)) (congrArg (fun z => some (Value.int z)) (Int32.toInt_inj.mp (cl_aux3 _ _ ek181))) rfl ?_
          refine pm_R_op pm_M42 (pc_q := 54) (st_q := [.int 4, .int (m 5), .ref 26]) rfl rfl rfl ?_
          refine sf_R_imul pm_M42 (pc_q := 55) rfl rfl (sf_eqT (cl_aux70 _ _ ek181) B200) sf_k4 (by decide) (by decide) (by decide) (fun z202 e203 B204 => ?_)
          refine pm_R_lo pm_M42 (pc_q := 56) rfl rfl rfl ?_
          refine pm_R_op pm_M42 (pc_q := 58) (st_q := [.int 7, .int 10, .int z202, .ref 26]) rfl rfl rfl ?_
          refine pm_R_br pm_M42 (pc_q := 67) (st_q := [.int z202, .ref 26]) rfl rfl ?_
          refine pm_R_lo pm_M42 (pc_q := 68) rfl rfl rfl ?_
          refine pm_R_op pm_M42 (pc_q := 70) (st_q := [.int 7, .int 10, .int z202, .ref 26]) rfl rfl rfl ?_
          refine pm_R_op pm_M42 (pc_q := 71) (st_q := [.int 3, .int z202, .ref 26]) rfl rfl rfl ?_
          have e205 := (F177.cell G (by decide) (by decide) (F153.cell G (by decide) (by decide) (F146.cell G (by decide) (by decide) (F123.cell G (by decide) (by decide) (F99.cell G (by decide) (by decide) (F92.cell G (by decide) (by decide) (F69.cell G (by decide) (by decide) (F59.cell G (by decide) (by decide) (F53.cell G (by decide) (by decide) (F47.cell G (by decide) (by decide) (F41.cell G (by decide) (by decide) (F20.cell G (by decide) (by decide) e5))))))))))))
          refine cl_R_ist G pm_M42 T176 (pc_q := 72) rfl e205 (by decide) ⟨_, rfl⟩ (sf_in B204 (by decide) (by decide)) rfl (fun h206 T207 F208 e209 => ?_)
          have F210 := F208.cl (ck := ck) T176.1
          have F211 := F179.trans (N := 0) (S := 0) F210 (by decide) (by decide) (by decide)
          refine pm_R_lo pm_M42 (pc_q := 73) rfl rfl rfl ?_
          refine pm_R_lo pm_M42 (pc_q := 74) rfl rfl rfl ?_
          refine pm_R_lo pm_M42 (pc_q := 75) rfl rfl rfl ?_
          refine pm_R_get pm_M42 (pc_q := 78) (v := .ref 26) rfl rfl T207.e25 (by decide) (T207.lt (by decide)) rfl rfl ?_
          refine pm_R_lo pm_M42 (pc_q := 79) rfl rfl rfl ?_
          refine pm_R_get pm_M42 (pc_q := 82) (v := .int (m 5)) rfl rfl T207.e25 (by decide) (T207.lt (by decide)) (congrArg (fun z => some (Value.int z)) (Int32.toInt_inj.mp (cl_aux3 _ _ ek181))) rfl ?_
          refine pm_R_op pm_M42 (pc_q := 83) (st_q := [.int 1, .int (m 5), .ref 26, .ref 25, .ref 25]) rfl rfl rfl ?_
          refine pm_R_cv pm_M42 (pc_q := 86) (a := 25) (ra := [.int 1, .int (m 5), .ref 26]) (rest := [.ref 25]) (ls_q := [.ref 25, .ref 26, .int (m 5), .int 1]) rfl rfl (Or.inl rfl) pm_M41 T207.e25 rfl (by decide) (T207.lt (by decide)) rfl rfl (Nat.le_of_ble_eq_true rfl) rfl rfl ?_
          refine pm_R_lo pm_M41 (pc_q := 1) rfl rfl rfl ?_
          refine pm_R_get pm_M41 (pc_q := 4) (v := .ref 29) rfl rfl T207.e25 (by decide) (T207.lt (by decide)) rfl rfl ?_
          refine pm_R_op pm_M41 (pc_q := 5) (st_q := [.int 0, .ref 29]) rfl rfl rfl ?_
          refine pm_R_lo pm_M41 (pc_q := 6) rfl rfl rfl ?_
          refine pm_R_lo pm_M41 (pc_q := 7) rfl rfl rfl ?_
          refine pm_R_op pm_M41 (pc_q := 8) (st_q := [.int 4, .int (m 5), .ref 26, .int 0, .ref 29]) rfl rfl rfl ?_
          refine sf_R_imulV pm_M41 (pc_q := 9) rfl rfl (sf_eqT (cl_aux70 _ _ ek181) B200) sf_k4 (by decide) (by decide) (by decide) e203 ?_
          refine pm_R_lo pm_M41 (pc_q := 10) rfl rfl rfl ?_
          refine sf_R_iadd pm_M41 (pc_q := 11) rfl rfl B204 sf_k1 (by decide) (by decide) (fun z212 e213 B214 => ?_)
          refine pm_R_op pm_M41 (pc_q := 12) (st_q := [.int 4, .int z212, .ref 26, .int 0, .ref 29]) rfl rfl rfl ?_
          refine pm_R_lo pm_M41 (pc_q := 13) rfl rfl rfl ?_
          refine pm_R_op pm_M41 (pc_q := 14) (st_q := [.int 3, .int z212, .ref 26, .int 0, .ref 29]) rfl rfl rfl ?_
          have e215 := (F210.cell G (by decide) (by decide) (F177.cell G (by decide) (by decide) (F153.cell G (by decide) (by decide) e145)))
          refine cl_R_acp G pm_M41 T207 (N := 3) (pc_q := 17) rfl rfl rfl e215 e209 (Or.inl rfl) ⟨_, rfl⟩ rfl (by decide) (by decide) B214 (by decide) (by decide) (Nat.le_of_ble_eq_true rfl) rfl (fun h216 T217 F218 e219 => ?_)
          have F220 := F218.cl (ck := ck) T207.1
          have F221 := F211.trans (N := 0) (S := 0) F220 (by decide) (by decide) (by decide)
          refine pm_R_lo pm_M41 (pc_q := 18) rfl rfl rfl ?_
          refine pm_R_op pm_M41 (pc_q := 19) (st_q := [.int 1, .int (m 5)]) rfl rfl rfl ?_
          refine sf_R_iadd pm_M41 (pc_q := 20) rfl rfl (sf_eqT (cl_aux70 _ _ ek181) B200) sf_k1 (by decide) (by decide) (fun z222 e223 B224 => ?_)
          refine pm_R_ret pm_M41 (r := some (.int z222)) rfl (pm_ret_i _) ?_
          show pm_R _ 42 86 [.ref 25, .int 10] [.int z222, .ref 25] _ _
          refine cl_R_put25 G pm_M42 T217 (k := 5) (pc_q := 89) rfl rfl rfl (by decide) rfl rfl (sf_weak B224 (by decide) (by decide)) rfl rfl rfl rfl rfl (fun h225 m228 em229 T226 F227 => ?_)
          have F230 := F227.cl (ck := ck) T217.1
          have F231 := F221.trans (N := 0) (S := 0) F230 (by decide) (by decide) (by decide)
          have B232 : sf_B 0 16 (m228 6) := by rw [em229]; exact B182
          have ek233 : (m228 6).toInt = ((m 6)).toInt := by rw [em229]; exact ek183
          have B234 : sf_B 0 99 (m228 7) := by rw [em229]; exact B184
          have ek235 : (m228 7).toInt = ((m 7)).toInt := by rw [em229]; exact ek185
          have B236 : sf_B (-1) 99 (m228 8) := by rw [em229]; exact B186
          have ek237 : (m228 8).toInt = ((m 8)).toInt := by rw [em229]; exact ek187
          have B238 : sf_B 0 4 (m228 3) := by rw [em229]; exact B188
          have ek239 : (m228 3).toInt = ((m150 3)).toInt := by rw [em229]; exact ek189
          have B240 : sf_B 3 3 (m228 12) := by rw [em229]; exact B193
          have B241 : sf_B 1 8 (m228 5) := by rw [em229]; exact B224
          have ek242 : (m228 5).toInt = (z222).toInt := by rw [em229]; rfl
          have W243 : rf_W [3, 4, 5, 6, 7, 8, 10, 11, 12, 13] m m228 := by rw [em229]; exact W190.put (by decide)
          refine pm_R_ret pm_M42 (r := none) rfl rfl ?_
          show pm_R _ 40 123 [.ref 25, .int 10] [] _ _
          refine pm_R_ret pm_M40 (r := none) rfl rfl ?_
          show pm_R _ 37 139 [.ref 25, .int 10, .int 2] [] _ _
          refine pm_R_op pm_M37 (pc_q := 140) (st_q := [.int 1]) (pm_q37_1 (Nat.le_of_ble_eq_true rfl)) rfl rfl ?_
          have e244 := (F230.cell G (by decide) (by decide) e219)
          have e245 := (F230.cell G (by decide) (by decide) (F220.cell G (by decide) (by decide) (F210.cell G (by decide) (by decide) (F177.cell G (by decide) (by decide) (F153.cell G (by decide) (by decide) (F146.cell G (by decide) (by decide) (F123.cell G (by decide) (by decide) (F99.cell G (by decide) (by decide) (F92.cell G (by decide) (by decide) (F69.cell G (by decide) (by decide) (F59.cell G (by decide) (by decide) (F53.cell G (by decide) (by decide) (F47.cell G (by decide) (by decide) (F41.cell G (by decide) (by decide) (F20.cell G (by decide) (by decide) e2)))))))))))))))
          have e246 := (F230.cell G (by decide) (by decide) (F220.cell G (by decide) (by decide) (F210.cell G (by decide) (by decide) (F177.cell G (by decide) (by decide) (F153.cell G (by decide) (by decide) (F146.cell G (by decide) (by decide) (F123.cell G (by decide) (by decide) (F99.cell G (by decide) (by decide) (F92.cell G (by decide) (by decide) (F69.cell G (by decide) (by decide) (F59.cell G (by decide) (by decide) (F53.cell G (by decide) (by decide) (F47.cell G (by decide) (by decide) (F41.cell G (by decide) (by decide) (F20.cell G (by decide) (by decide) e8)))))))))))))))
          exact pm_R_ret pm_M37 (r := some (.int 1)) (pm_q37_1 (Nat.le_of_ble_eq_true rfl)) rfl (K 1 m228 h225 T226 F231 W243 (fun z => ⟨_, _, e244, e246, (R.at (cl_aux67 _ (X22 (cl_aux68 _ _ ek81 (q114 (cl_aux68 _ _ ek135 (q168 (cl_aux68 _ _ ek239 z)).1)).1)).1) e5 e8).law (cl_aux81 _ _ _ e223 ek242 (sf_eqT (cl_aux70 _ _ ek181) B200).1 (sf_eqT (cl_aux70 _ _ ek181) B200).2 B241.1 B241.2) ((cl_tnI (Int.le_trans (by decide) B204.1)).trans (cl_aux75 _ _ e203)) ((cl_tnI (Int.le_trans (by decide) B214.1)).trans (cl_aux7 _ _ _ e203 e213)) (sf_weak sf_k3 (by decide) (by decide)) (sf_eqL (Eq.trans (sf_upd_nec (k := Int32.toNatClampNeg 1) (j := Int32.toNatClampNeg 0) (by decide)) sf_upd_eq) B199) (sf_eqL sf_upd_eq (sf_weak B198 (by decide) (by decide))) (cl_aux25 _ _ _ e223 ek242)⟩) ⟨_, e245, b3⟩ (sf_weak sf_k1 (by decide) (by decide)))
        · have B247 : sf_B 1 4 (m150 3) := sf_neL0 c194 sf_k0 B167
          refine pm_R_ret pm_M40 (r := none) rfl rfl ?_
          show pm_R _ 37 139 [.ref 25, .int 10, .int 2] [] _ _
          refine pm_R_op pm_M37 (pc_q := 140) (st_q := [.int 1]) (pm_q37_1 (Nat.le_of_ble_eq_true rfl)) rfl rfl ?_
          have e248 := (F177.cell G (by decide) (by decide) (F153.cell G (by decide) (by decide) (F146.cell G (by decide) (by decide) (F123.cell G (by decide) (by decide) (F99.cell G (by decide) (by decide) (F92.cell G (by decide) (by decide) (F69.cell G (by decide) (by decide) (F59.cell G (by decide) (by decide) (F53.cell G (by decide) (by decide) (F47.cell G (by decide) (by decide) (F41.cell G (by decide) (by decide) (F20.cell G (by decide) (by decide) e2))))))))))))
          have e249 := (F177.cell G (by decide) (by decide) (F153.cell G (by decide) (by decide) (F146.cell G (by decide) (by decide) (F123.cell G (by decide) (by decide) (F99.cell G (by decide) (by decide) (F92.cell G (by decide) (by decide) (F69.cell G (by decide) (by decide) (F59.cell G (by decide) (by decide) (F53.cell G (by decide) (by decide) (F47.cell G (by decide) (by decide) (F41.cell G (by decide) (by decide) (F20.cell G (by decide) (by decide) e5))))))))))))
          have e250 := (F177.cell G (by decide) (by decide) (F153.cell G (by decide) (by decide) (F146.cell G (by decide) (by decide) (F123.cell G (by decide) (by decide) (F99.cell G (by decide) (by decide) (F92.cell G (by decide) (by decide) (F69.cell G (by decide) (by decide) (F59.cell G (by decide) (by decide) (F53.cell G (by decide) (by decide) (F47.cell G (by decide) (by decide) (F41.cell G (by decide) (by decide) (F20.cell G (by decide) (by decide) e8))))))))))))
          exact pm_R_ret pm_M37 (r := some (.int 1)) (pm_q37_1 (Nat.le_of_ble_eq_true rfl)) rfl (K 1 m174 h175 T176 F179 W190 (fun z => ⟨_, _, e249, e250, (R.at (cl_aux67 _ (X22 (cl_aux68 _ _ ek81 (q114 (cl_aux68 _ _ ek135 (q168 (cl_aux68 _ _ ek189 z)).1)).1)).1) e5 e8).keep (cl_aux3 _ _ ek181) (cl_aux3 _ _ ek183) (cl_aux3 _ _ ek185) (cl_aux3 _ _ ek187)⟩) ⟨_, e248, b3⟩ (sf_weak sf_k1 (by decide) (by decide)))
      · skip
        refine pm_R_op pm_M37 (pc_q := 133) (st_q := [.int 0]) (pm_q37_1 (Nat.le_of_ble_eq_true rfl)) rfl rfl ?_
        have e251 := (F177.cell G (by decide) (by decide) (F153.cell G (by decide) (by decide) (F146.cell G (by decide) (by decide) (F123.cell G (by decide) (by decide) (F99.cell G (by decide) (by decide) (F92.cell G (by decide) (by decide) (F69.cell G (by decide) (by decide) (F59.cell G (by decide) (by decide) (F53.cell G (by decide) (by decide) (F47.cell G (by decide) (by decide) (F41.cell G (by decide) (by decide) (F20.cell G (by decide) (by decide) e2))))))))))))
        have e252 := (F177.cell G (by decide) (by decide) (F153.cell G (by decide) (by decide) (F146.cell G (by decide) (by decide) (F123.cell G (by decide) (by decide) (F99.cell G (by decide) (by decide) (F92.cell G (by decide) (by decide) (F69.cell G (by decide) (by decide) (F59.cell G (by decide) (by decide) (F53.cell G (by decide) (by decide) (F47.cell G (by decide) (by decide) (F41.cell G (by decide) (by decide) (F20.cell G (by decide) (by decide) e5))))))))))))
        have e253 := (F177.cell G (by decide) (by decide) (F153.cell G (by decide) (by decide) (F146.cell G (by decide) (by decide) (F123.cell G (by decide) (by decide) (F99.cell G (by decide) (by decide) (F92.cell G (by decide) (by decide) (F69.cell G (by decide) (by decide) (F59.cell G (by decide) (by decide) (F53.cell G (by decide) (by decide) (F47.cell G (by decide) (by decide) (F41.cell G (by decide) (by decide) (F20.cell G (by decide) (by decide) e8))))))))))))
        exact pm_R_ret pm_M37 (r := some (.int 0)) (pm_q37_1 (Nat.le_of_ble_eq_true rfl)) rfl (K 0 m174 h175 T176 F179 W190 (fun z => ⟨_, _, e252, e253, (R.at (cl_aux67 _ (X22 (cl_aux68 _ _ ek81 (q114 (cl_aux68 _ _ ek135 (q168 (cl_aux68 _ _ ek189 z)).1)).1)).1) e5 e8).keep (cl_aux3 _ _ ek181) (cl_aux3 _ _ ek183) (cl_aux3 _ _ ek185) (cl_aux3 _ _ ek187)⟩) ⟨_, e251, b3⟩ (sf_weak sf_k0 (by decide) (by decide)))
    · skip
      refine pm_R_op pm_M37 (pc_q := 50) (st_q := [.int 0]) rfl rfl rfl ?_
      have e254 := (F123.cell G (by decide) (by decide) (F99.cell G (by decide) (by decide) (F92.cell G (by decide) (by decide) (F69.cell G (by decide) (by decide) (F59.cell G (by decide) (by decide) (F53.cell G (by decide) (by decide) (F47.cell G (by decide) (by decide) (F41.cell G (by decide) (by decide) (F20.cell G (by decide) (by decide) e2)))))))))
      have e255 := (F123.cell G (by decide) (by decide) (F99.cell G (by decide) (by decide) (F92.cell G (by decide) (by decide) (F69.cell G (by decide) (by decide) (F59.cell G (by decide) (by decide) (F53.cell G (by decide) (by decide) (F47.cell G (by decide) (by decide) (F41.cell G (by decide) (by decide) (F20.cell G (by decide) (by decide) e5)))))))))
      have e256 := (F123.cell G (by decide) (by decide) (F99.cell G (by decide) (by decide) (F92.cell G (by decide) (by decide) (F69.cell G (by decide) (by decide) (F59.cell G (by decide) (by decide) (F53.cell G (by decide) (by decide) (F47.cell G (by decide) (by decide) (F41.cell G (by decide) (by decide) (F20.cell G (by decide) (by decide) e8)))))))))
      exact pm_R_ret pm_M37 (r := some (.int 0)) rfl rfl (K 0 m120 h121 T122 F125 W136 (fun z => ⟨_, _, e255, e256, (R.at (cl_aux67 _ (X22 (cl_aux68 _ _ ek81 (q114 (cl_aux68 _ _ ek135 z)).1)).1) e5 e8).keep (cl_aux3 _ _ ek127) (cl_aux3 _ _ ek129) (cl_aux3 _ _ ek131) (cl_aux3 _ _ ek133)⟩) ⟨_, e254, b3⟩ (sf_weak sf_k0 (by decide) (by decide)))
  · skip
    refine pm_R_op pm_M37 (pc_q := 50) (st_q := [.int 0]) rfl rfl rfl ?_
    have e257 := (F69.cell G (by decide) (by decide) (F59.cell G (by decide) (by decide) (F53.cell G (by decide) (by decide) (F47.cell G (by decide) (by decide) (F41.cell G (by decide) (by decide) (F20.cell G (by decide) (by decide) e2))))))
    have e258 := (F69.cell G (by decide) (by decide) (F59.cell G (by decide) (by decide) (F53.cell G (by decide) (by decide) (F47.cell G (by decide) (by decide) (F41.cell G (by decide) (by decide) (F20.cell G (by decide) (by decide) e5))))))
    have e259 := (F69.cell G (by decide) (by decide) (F59.cell G (by decide) (by decide) (F53.cell G (by decide) (by decide) (F47.cell G (by decide) (by decide) (F41.cell G (by decide) (by decide) (F20.cell G (by decide) (by decide) e8))))))
    exact pm_R_ret pm_M37 (r := some (.int 0)) rfl rfl (K 0 m66 h67 T68 F71 W82 (fun z => ⟨_, _, e258, e259, (R.at (cl_aux67 _ (X22 (cl_aux68 _ _ ek81 z)).1) e5 e8).keep (cl_aux3 _ _ ek73) (cl_aux3 _ _ ek75) (cl_aux3 _ _ ek77) (cl_aux3 _ _ ek79)⟩) ⟨_, e257, b3⟩ (sf_weak sf_k0 (by decide) (by decide)))

set_option maxRecDepth 100000 in
set_option maxHeartbeats 4000000 in
/-- SilentTable$TextReader.readLine -/
theorem cl_c37_11 {d : Nat} {ck : cl_K} {E : Nat → pm_E} {m : Nat → Int32} {o : Nat → Option Nat} {h : pm_H} {Q : Option Value → pm_H → Prop}  (G : cl_G ck E) (T : cl_T ck E m o h) (R : cl_Rd 3 m h) (Y : cl_Y h) (K : ∀ (r : Int32) (m_q : Nat → Int32) (h_q : pm_H), cl_T ck E m_q o h_q → cl_F ck [25, 26, 29, 30] 0 0 h h_q → rf_W [3, 4, 5, 6, 7, 8, 10, 11, 12, 13] m m_q → cl_Rd 3 m_q h_q → cl_Y h_q → sf_B 0 1 r → Q (some (.int r)) h_q) : pm_R (d + 7) 37 0 [.ref 25, .int 11, pm_no] [] h Q := by
  obtain ⟨f1, e2, b3⟩ := Y
  obtain ⟨f4, e5⟩ := T.C 26 (by decide) (by decide)
  obtain ⟨f7, e8⟩ := T.C 27 (by decide) (by decide)
  have B10 : sf_B 0 4 (m 3) := T.B 3
  have B11 : sf_B 0 50 (m 5) := T.B 5
  have B12 : sf_B 0 16 (m 6) := T.B 6
  have B13 : sf_B 0 99 (m 7) := T.B 7
  have B14 : sf_B (-1) 99 (m 8) := T.B 8
  refine pm_R_lo pm_M37 (pc_q := 1) rfl rfl rfl ?_
  refine pm_R_op pm_M37 (pc_q := 2) (st_q := [.int (-1), .int 11]) rfl rfl rfl ?_
  refine pm_R_br pm_M37 (pc_q := 7) (st_q := []) rfl rfl ?_
  refine pm_R_lo pm_M37 (pc_q := 8) rfl rfl rfl ?_
  refine pm_R_lo pm_M37 (pc_q := 9) rfl rfl rfl ?_
  refine pm_R_cv pm_M37 (pc_q := 12) (a := 25) (ra := [.int 11]) (rest := []) (ls_q := [.ref 25, .int 11, pm_no, pm_no]) rfl rfl (Or.inl rfl) pm_M38 T.e25 rfl (by decide) (T.lt (by decide)) rfl rfl (Nat.le_of_ble_eq_true rfl) rfl rfl ?_
  refine cl_c38_11 (d := d + 5) G T  (fun m17 h18 T19 F20 W21 X22 => ?_)
  have F23 := (cl_F.refl (ck := ck) (A := [25, 26, 29, 30]) (n := 0) (s := 0) T.1).trans (N := 0) (S := 0) F20 (by decide) (by decide) (by decide)
  have B24 : sf_B 0 50 (m17 5) := by rw [W21 5 (by decide)]; exact B11
  have ek25 : (m17 5).toInt = ((m 5)).toInt := by rw [W21 5 (by decide)]
  have B26 : sf_B 0 16 (m17 6) := by rw [W21 6 (by decide)]; exact B12
  have ek27 : (m17 6).toInt = ((m 6)).toInt := by rw [W21 6 (by decide)]
  have B28 : sf_B 0 99 (m17 7) := by rw [W21 7 (by decide)]; exact B13
  have ek29 : (m17 7).toInt = ((m 7)).toInt := by rw [W21 7 (by decide)]
  have B30 : sf_B (-1) 99 (m17 8) := by rw [W21 8 (by decide)]; exact B14
  have ek31 : (m17 8).toInt = ((m 8)).toInt := by rw [W21 8 (by decide)]
  have W32 : rf_W [3, 4, 5, 6, 7, 8, 10, 11, 12, 13] m m17 := (rf_W.refl [3, 4, 5, 6, 7, 8, 10, 11, 12, 13] m).trans W21 (by decide)
  have B33 : sf_B 0 4 (m17 3) := T19.B 3
  show pm_R _ 37 12 [.ref 25, .int 11, pm_no] [] _ _
  refine pm_R_lo pm_M37 (pc_q := 13) rfl rfl rfl ?_
  refine pm_R_get pm_M37 (pc_q := 16) (v := .ref 29) rfl rfl T19.e25 (by decide) (T19.lt (by decide)) rfl rfl ?_
  refine pm_R_op pm_M37 (pc_q := 17) (st_q := [.int (-1), .ref 29]) rfl rfl rfl ?_
  refine pm_R_cs pm_M37 (pc_q := 20) (ra := [.int (-1), .ref 29]) (rest := []) (ls_q := [.ref 29, .int (-1), pm_no, pm_no]) rfl rfl (Or.inl rfl) pm_M13 rfl rfl (Nat.le_of_ble_eq_true rfl) rfl rfl ?_
  refine pm_R_op pm_M13 (pc_q := 1) (st_q := [.int 0]) rfl rfl rfl ?_
  refine pm_R_lo pm_M13 (pc_q := 2) (ls_q := [.ref 29, .int (-1), .int 0, pm_no]) (st_q := []) rfl rfl rfl ?_
  refine pm_R_lo pm_M13 (pc_q := 3) rfl rfl rfl ?_
  obtain ⟨f34, e35⟩ := T19.C 29 (by decide) (by decide)
  refine pm_R_alen pm_M13 (pc_q := 4) (v := 4) rfl e35 (by decide) (T19.lt (by decide)) (by decide) rfl rfl ?_
  refine pm_R_lo pm_M13 (pc_q := 5) (ls_q := [.ref 29, .int (-1), .int 0, .int 4]) (st_q := []) rfl rfl rfl ?_
  refine pm_R_lo pm_M13 (pc_q := 6) rfl rfl rfl ?_
  refine pm_R_lo pm_M13 (pc_q := 7) rfl rfl rfl ?_
  refine pm_R_br pm_M13 (pc_q := 10) (st_q := []) rfl rfl ?_
  refine pm_R_lo pm_M13 (pc_q := 11) rfl rfl rfl ?_
  refine pm_R_lo pm_M13 (pc_q := 12) rfl rfl rfl ?_
  refine pm_R_lo pm_M13 (pc_q := 13) rfl rfl rfl ?_
  refine cl_R_ist G pm_M13 T19 (pc_q := 14) rfl e35 (by decide) ⟨_, rfl⟩ rfl rfl (fun h37 T38 F39 e40 => ?_)
  have F41 := F39.cl (ck := ck) T19.1
  have F42 := F23.trans (N := 0) (S := 0) F41 (by decide) (by decide) (by decide)
  refine pm_R_lo pm_M13 (pc_q := 17) (ls_q := [.ref 29, .int (-1), .int 1, .int 4]) (st_q := []) rfl rfl rfl ?_
  refine pm_R_br pm_M13 (pc_q := 5) rfl rfl ?_
  refine pm_R_lo pm_M13 (pc_q := 6) rfl rfl rfl ?_
  refine pm_R_lo pm_M13 (pc_q := 7) rfl rfl rfl ?_
  refine pm_R_br pm_M13 (pc_q := 10) (st_q := []) rfl rfl ?_
  refine pm_R_lo pm_M13 (pc_q := 11) rfl rfl rfl ?_
  refine pm_R_lo pm_M13 (pc_q := 12) rfl rfl rfl ?_
  refine pm_R_lo pm_M13 (pc_q := 13) rfl rfl rfl ?_
  refine cl_R_ist G pm_M13 T38 (pc_q := 14) rfl e40 (by decide) ⟨_, rfl⟩ rfl rfl (fun h43 T44 F45 e46 => ?_)
  have F47 := F45.cl (ck := ck) T38.1
  have F48 := F42.trans (N := 0) (S := 0) F47 (by decide) (by decide) (by decide)
  refine pm_R_lo pm_M13 (pc_q := 17) (ls_q := [.ref 29, .int (-1), .int 2, .int 4]) (st_q := []) rfl rfl rfl ?_
  refine pm_R_br pm_M13 (pc_q := 5) rfl rfl ?_
  refine pm_R_lo pm_M13 (pc_q := 6) rfl rfl rfl ?_
  refine pm_R_lo pm_M13 (pc_q := 7) rfl rfl rfl ?_
  refine pm_R_br pm_M13 (pc_q := 10) (st_q := []) rfl rfl ?_
  refine pm_R_lo pm_M13 (pc_q := 11) rfl rfl rfl ?_
  refine pm_R_lo pm_M13 (pc_q := 12) rfl rfl rfl ?_
  refine pm_R_lo pm_M13 (pc_q := 13) rfl rfl rfl ?_
  refine cl_R_ist G pm_M13 T44 (pc_q := 14) rfl e46 (by decide) ⟨_, rfl⟩ rfl rfl (fun h49 T50 F51 e52 => ?_)
  have F53 := F51.cl (ck := ck) T44.1
  have F54 := F48.trans (N := 0) (S := 0) F53 (by decide) (by decide) (by decide)
  refine pm_R_lo pm_M13 (pc_q := 17) (ls_q := [.ref 29, .int (-1), .int 3, .int 4]) (st_q := []) rfl rfl rfl ?_
  refine pm_R_br pm_M13 (pc_q := 5) rfl rfl ?_
  refine pm_R_lo pm_M13 (pc_q := 6) rfl rfl rfl ?_
  refine pm_R_lo pm_M13 (pc_q := 7) rfl rfl rfl ?_
  refine pm_R_br pm_M13 (pc_q := 10) (st_q := []) rfl rfl ?_
  refine pm_R_lo pm_M13 (pc_q := 11) rfl rfl rfl ?_
  refine pm_R_lo pm_M13 (pc_q := 12) rfl rfl rfl ?_
  refine pm_R_lo pm_M13 (pc_q := 13) rfl rfl rfl ?_
  refine cl_R_ist G pm_M13 T50 (pc_q := 14) rfl e52 (by decide) ⟨_, rfl⟩ rfl rfl (fun h55 T56 F57 e58 => ?_)
  have F59 := F57.cl (ck := ck) T50.1
  have F60 := F54.trans (N := 0) (S := 0) F59 (by decide) (by decide) (by decide)
  refine pm_R_lo pm_M13 (pc_q := 17) (ls_q := [.ref 29, .int (-1), .int 4, .int 4]) (st_q := []) rfl rfl rfl ?_
  refine pm_R_br pm_M13 (pc_q := 5) rfl rfl ?_
  refine pm_R_lo pm_M13 (pc_q := 6) rfl rfl rfl ?_
  refine pm_R_lo pm_M13 (pc_q := 7) rfl rfl rfl ?_
  refine pm_R_br pm_M13 (pc_q := 20) (st_q := []) rfl rfl ?_
  refine pm_R_ret pm_M13 (r := none) rfl rfl ?_
  show pm_R _ 37 20 [.ref 25, .int 11, pm_no] [] _ _
  refine pm_R_op pm_M37 (pc_q := 21) (st_q := [.int 0]) rfl rfl rfl ?_
  refine pm_R_lo pm_M37 (pc_q := 22) (ls_q := [.ref 25, .int 11, .int 0]) (st_q := []) rfl rfl rfl ?_
  refine pm_R_lo pm_M37 (pc_q := 23) rfl rfl rfl ?_
  refine pm_R_stat pm_M37 (pc_q := 26) rfl rfl rfl ?_
  refine pm_R_lo pm_M37 (pc_q := 27) rfl rfl rfl ?_
  refine pm_R_iald pm_M37 (pc_q := 28) (v := 1) rfl ((T56.old (by decide)).trans G.tb2) (T56.lt (by decide)) rfl rfl rfl ?_
  refine pm_R_br pm_M37 (pc_q := 31) (st_q := []) rfl rfl ?_
  refine pm_R_lo pm_M37 (pc_q := 32) rfl rfl rfl ?_
  refine pm_R_get pm_M37 (pc_q := 35) (v := .ref 30) rfl rfl T56.e25 (by decide) (T56.lt (by decide)) rfl rfl ?_
  refine pm_R_cv pm_M37 (pc_q := 38) (a := 30) (ra := []) (rest := []) (ls_q := [.ref 30]) rfl rfl (Or.inl rfl) pm_M16 T56.e30 rfl (by decide) (T56.lt (by decide)) rfl rfl (Nat.le_of_ble_eq_true rfl) rfl rfl ?_
  refine cl_c16 (d := d + 4) G T56  (fun m66 h67 T68 F69 W70 => ?_)
  have F71 := F60.trans (N := 0) (S := 0) F69 (by decide) (by decide) (by decide)
  have B72 : sf_B 0 50 (m66 5) := by rw [W70 5 (by decide)]; exact B24
  have ek73 : (m66 5).toInt = ((m 5)).toInt := by rw [W70 5 (by decide)]; exact ek25
  have B74 : sf_B 0 16 (m66 6) := by rw [W70 6 (by decide)]; exact B26
  have ek75 : (m66 6).toInt = ((m 6)).toInt := by rw [W70 6 (by decide)]; exact ek27
  have B76 : sf_B 0 99 (m66 7) := by rw [W70 7 (by decide)]; exact B28
  have ek77 : (m66 7).toInt = ((m 7)).toInt := by rw [W70 7 (by decide)]; exact ek29
  have B78 : sf_B (-1) 99 (m66 8) := by rw [W70 8 (by decide)]; exact B30
  have ek79 : (m66 8).toInt = ((m 8)).toInt := by rw [W70 8 (by decide)]; exact ek31
  have B80 : sf_B 0 4 (m66 3) := by rw [W70 3 (by decide)]; exact B33
  have ek81 : (m66 3).toInt = ((m17 3)).toInt := by rw [W70 3 (by decide)]
  have W82 : rf_W [3, 4, 5, 6, 7, 8, 10, 11, 12, 13] m m66 := W32.trans W70 (by decide)
  show pm_R _ 37 38 [.ref 25, .int 11, .int 0] [] _ _
  refine pm_R_lo pm_M37 (pc_q := 39) rfl rfl rfl ?_
  refine pm_R_get pm_M37 (pc_q := 42) (v := .ref 30) rfl rfl T68.e25 (by decide) (T68.lt (by decide)) rfl rfl ?_
  have B83 : sf_B 0 4 (m66 12) := T68.B 12
  refine pm_R_get pm_M37 (pc_q := 45) (v := .int (m66 12)) rfl rfl T68.e30 (by decide) (T68.lt (by decide)) rfl rfl ?_
  refine pm_R_op pm_M37 (pc_q := 46) (st_q := [.int 2, .int (m66 12)]) rfl rfl rfl ?_
  refine pm_R_icmp pm_M37 (t := 51) (pc_q := 49) rfl rfl rfl (fun c84 => ?_) (fun c84 => ?_)
  · have B85 : sf_B 2 2 (m66 12) := sf_eqL c84 sf_k2
    refine pm_R_lo pm_M37 (pc_q := 52) rfl rfl rfl ?_
    refine pm_R_get pm_M37 (pc_q := 55) (v := .ref 29) rfl rfl T68.e25 (by decide) (T68.lt (by decide)) rfl rfl ?_
    refine pm_R_lo pm_M37 (pc_q := 56) rfl rfl rfl ?_
    refine pm_R_lo pm_M37 (pc_q := 57) rfl rfl rfl ?_
    refine pm_R_get pm_M37 (pc_q := 60) (v := .ref 30) rfl rfl T68.e25 (by decide) (T68.lt (by decide)) rfl rfl ?_
    have B86 : sf_B 0 99 (m66 13) := T68.B 13
    refine pm_R_get pm_M37 (pc_q := 63) (v := .int (m66 13)) rfl rfl T68.e30 (by decide) (T68.lt (by decide)) rfl rfl ?_
    have e87 := (F69.cell G (by decide) (by decide) e58)
    refine cl_R_ist G pm_M37 T68 (pc_q := 64) rfl e87 (by decide) ⟨_, rfl⟩ rfl rfl (fun h88 T89 F90 e91 => ?_)
    have F92 := F90.cl (ck := ck) T68.1
    have F93 := F71.trans (N := 0) (S := 0) F92 (by decide) (by decide) (by decide)
    refine pm_R_lo pm_M37 (pc_q := 65) rfl rfl rfl ?_
    refine pm_R_lo pm_M37 (pc_q := 66) rfl rfl rfl ?_
    refine pm_R_lo pm_M37 (pc_q := 67) rfl rfl rfl ?_
    refine pm_R_cv pm_M37 (pc_q := 70) (a := 25) (ra := [.int 0, .int 11]) (rest := []) (ls_q := [.ref 25, .int 11, .int 0, pm_no, pm_no, pm_no]) rfl rfl (Or.inl rfl) pm_M39 T89.e25 rfl (by decide) (T89.lt (by decide)) rfl rfl (Nat.le_of_ble_eq_true rfl) rfl rfl ?_
    refine cl_c39_11_0 (d := d + 5) G T89  (fun m96 h97 T98 F99 W100 X101 => ?_)
    have F102 := F93.trans (N := 0) (S := 0) F99 (by decide) (by decide) (by decide)
    have B103 : sf_B 0 50 (m96 5) := by rw [W100 5 (by decide)]; exact B72
    have ek104 : (m96 5).toInt = ((m 5)).toInt := by rw [W100 5 (by decide)]; exact ek73
    have B105 : sf_B 0 16 (m96 6) := by rw [W100 6 (by decide)]; exact B74
    have ek106 : (m96 6).toInt = ((m 6)).toInt := by rw [W100 6 (by decide)]; exact ek75
    have B107 : sf_B 0 99 (m96 7) := by rw [W100 7 (by decide)]; exact B76
    have ek108 : (m96 7).toInt = ((m 7)).toInt := by rw [W100 7 (by decide)]; exact ek77
    have B109 : sf_B (-1) 99 (m96 8) := by rw [W100 8 (by decide)]; exact B78
    have ek110 : (m96 8).toInt = ((m 8)).toInt := by rw [W100 8 (by decide)]; exact ek79
    have B111 : sf_B 2 2 (m96 12) := by rw [W100 12 (by decide)]; exact B85
    have W112 : rf_W [3, 4, 5, 6, 7, 8, 10, 11, 12, 13] m m96 := W82.trans W100 (by decide)
    have B113 : sf_B 0 4 (m96 3) := T98.B 3
    show pm_R _ 37 70 [.ref 25, .int 11, .int 0] [] _ _
    have q114 := X101 _ e91
    refine pm_R_lo pm_M37 (pc_q := 73) (ls_q := [.ref 25, .int 11, .int 1]) (st_q := []) rfl rfl rfl ?_
    refine pm_R_br pm_M37 (pc_q := 22) rfl rfl ?_
    refine pm_R_lo pm_M37 (pc_q := 23) rfl rfl rfl ?_
    refine pm_R_stat pm_M37 (pc_q := 26) rfl rfl rfl ?_
    refine pm_R_lo pm_M37 (pc_q := 27) rfl rfl rfl ?_
    refine pm_R_iald pm_M37 (pc_q := 28) (v := 1) rfl ((T98.old (by decide)).trans G.tb2) (T98.lt (by decide)) rfl rfl rfl ?_
    refine pm_R_br pm_M37 (pc_q := 76) (st_q := []) rfl rfl ?_
    refine pm_R_lo pm_M37 (pc_q := 77) rfl rfl rfl ?_
    refine pm_R_br pm_M37 (pc_q := 114) (st_q := []) rfl rfl ?_
    refine pm_R_lo pm_M37 (pc_q := 115) (pm_q37_1 (Nat.le_of_ble_eq_true rfl)) rfl rfl ?_
    refine pm_R_get pm_M37 (pc_q := 118) (v := .ref 30) (pm_q37_1 (Nat.le_of_ble_eq_true rfl)) rfl T98.e25 (by decide) (T98.lt (by decide)) rfl rfl ?_
    refine pm_R_cv pm_M37 (pc_q := 121) (a := 30) (ra := []) (rest := []) (ls_q := [.ref 30]) (pm_q37_1 (Nat.le_of_ble_eq_true rfl)) rfl (Or.inl rfl) pm_M16 T98.e30 rfl (by decide) (T98.lt (by decide)) rfl rfl (Nat.le_of_ble_eq_true rfl) rfl rfl ?_
    refine cl_c16 (d := d + 4) G T98  (fun m120 h121 T122 F123 W124 => ?_)
    have F125 := F102.trans (N := 0) (S := 0) F123 (by decide) (by decide) (by decide)
    have B126 : sf_B 0 50 (m120 5) := by rw [W124 5 (by decide)]; exact B103
    have ek127 : (m120 5).toInt = ((m 5)).toInt := by rw [W124 5 (by decide)]; exact ek104
    have B128 : sf_B 0 16 (m120 6) := by rw [W124 6 (by decide)]; exact B105
    have ek129 : (m120 6).toInt = ((m 6)).toInt := by rw [W124 6 (by decide)]; exact ek106
    have B130 : sf_B 0 99 (m120 7) := by rw [W124 7 (by decide)]; exact B107
    have ek131 : (m120 7).toInt = ((m 7)).toInt := by rw [W124 7 (by decide)]; exact ek108
    have B132 : sf_B (-1) 99 (m120 8) := by rw [W124 8 (by decide)]; exact B109
    have ek133 : (m120 8).toInt = ((m 8)).toInt := by rw [W124 8 (by decide)]; exact ek110
    have B134 : sf_B 0 4 (m120 3) := by rw [W124 3 (by decide)]; exact B113
    have ek135 : (m120 3).toInt = ((m96 3)).toInt := by rw [W124 3 (by decide)]
    have W136 : rf_W [3, 4, 5, 6, 7, 8, 10, 11, 12, 13] m m120 := W112.trans W124 (by decide)
    show pm_R _ 37 121 [.ref 25, .int 11, .int 1] [] _ _
    refine pm_R_lo pm_M37 (pc_q := 122) (pm_q37_1 (Nat.le_of_ble_eq_true rfl)) rfl rfl ?_
    refine pm_R_get pm_M37 (pc_q := 125) (v := .ref 30) (pm_q37_1 (Nat.le_of_ble_eq_true rfl)) rfl T122.e25 (by decide) (T122.lt (by decide)) rfl rfl ?_
    have B137 : sf_B 0 4 (m120 12) := T122.B 12
    refine pm_R_get pm_M37 (pc_q := 128) (v := .int (m120 12)) (pm_q37_1 (Nat.le_of_ble_eq_true rfl)) rfl T122.e30 (by decide) (T122.lt (by decide)) rfl rfl ?_
    refine pm_R_op pm_M37 (pc_q := 129) (st_q := [.int 3, .int (m120 12)]) (pm_q37_1 (Nat.le_of_ble_eq_true rfl)) rfl rfl ?_
    refine pm_R_icmp pm_M37 (t := 134) (pc_q := 132) (pm_q37_1 (Nat.le_of_ble_eq_true rfl)) rfl rfl (fun c138 => ?_) (fun c138 => ?_)
    · have B139 : sf_B 3 3 (m120 12) := sf_eqL c138 sf_k3
      refine pm_R_lo pm_M37 (pc_q := 135) (pm_q37_1 (Nat.le_of_ble_eq_true rfl)) rfl rfl ?_
      refine pm_R_lo pm_M37 (pc_q := 136) (pm_q37_1 (Nat.le_of_ble_eq_true rfl)) rfl rfl ?_
      refine pm_R_cv pm_M37 (pc_q := 139) (a := 25) (ra := [.int 11]) (rest := []) (ls_q := [.ref 25, .int 11]) (pm_q37_1 (Nat.le_of_ble_eq_true rfl)) rfl (Or.inl rfl) pm_M40 T122.e25 rfl (by decide) (T122.lt (by decide)) rfl rfl (Nat.le_of_ble_eq_true rfl) rfl rfl ?_
      refine pm_R_lo pm_M40 (pc_q := 1) rfl rfl rfl ?_
      refine pm_R_get pm_M40 (pc_q := 4) (v := .int (m96 3)) rfl rfl T122.e25 (by decide) (T122.lt (by decide)) (congrArg (fun z => some (Value.int z)) (Int32.toInt_inj.mp (cl_aux3 _ _ ek135))) rfl ?_
      refine pm_R_ifc pm_M40 (t := 8) (pc_q := 7) rfl rfl rfl (fun c140 => ?_) (fun c140 => ?_)
      · have y141 := q114 (cl_aux67 _ (congrArg Int32.toInt c140))
        have y142 := X22 (cl_aux68 _ _ ek81 y141.1)
        have B143 : sf_B 0 9 (m66 13) := ⟨B86.1, cl_upE (P := fun x => x.toInt ≤ 9) y141.2.2⟩
        have B144 : sf_B 0 7 (m120 5) := ⟨B126.1, (cl_aux80 _ _ ek127 y142.2)⟩
        have B145 : sf_B 0 0 (m96 3) := sf_eqL c140 sf_k0
        refine pm_R_lo pm_M40 (pc_q := 9) rfl rfl rfl ?_
        refine pm_R_br pm_M40 (pc_q := 118) (st_q := []) rfl rfl ?_
        refine pm_R_lo pm_M40 (pc_q := 119) rfl rfl rfl ?_
        refine pm_R_lo pm_M40 (pc_q := 120) rfl rfl rfl ?_
        refine pm_R_cv pm_M40 (pc_q := 123) (a := 25) (ra := [.int 11]) (rest := []) (ls_q := [.ref 25, .int 11]) rfl rfl (Or.inl rfl) pm_M42 T122.e25 rfl (by decide) (T122.lt (by decide)) rfl rfl (Nat.le_of_ble_eq_true rfl) rfl rfl ?_
        refine pm_R_lo pm_M42 (pc_q := 1) rfl rfl rfl ?_
        refine pm_R_op pm_M42 (pc_q := 3) (st_q := [.int 7, .int 11]) rfl rfl rfl ?_
        refine pm_R_br pm_M42 (pc_q := 45) (st_q := []) rfl rfl ?_
        refine pm_R_lo pm_M42 (pc_q := 46) rfl rfl rfl ?_
        refine pm_R_get pm_M42 (pc_q := 49) (v := .ref 26) rfl rfl T122.e25 (by decide) (T122.lt (by decide)) rfl rfl ?_
        refine pm_R_lo pm_M42 (pc_q := 50) rfl rfl rfl ?_
        refine pm_R_get pm_M42 (pc_q := 53) (v := .int (m 5)) rfl rfl T122.e25 (by decide) (T122.lt (by decide)) (congrArg (fun z => some (Value.int z)) (Int32.toInt_inj.mp (cl_aux3 _ _ ek127))) rfl ?_
        refine pm_R_op pm_M42 (pc_q := 54) (st_q := [.int 4, .int (m 5), .ref 26]) rfl rfl rfl ?_
        refine sf_R_imul pm_M42 (pc_q := 55) rfl rfl (sf_eqT (cl_aux70 _ _ ek127) B144) sf_k4 (by decide) (by decide) (by decide) (fun z146 e147 B148 => ?_)
        refine pm_R_lo pm_M42 (pc_q := 56) rfl rfl rfl ?_
        refine pm_R_op pm_M42 (pc_q := 58) (st_q := [.int 7, .int 11, .int z146, .ref 26]) rfl rfl rfl ?_
        refine pm_R_br pm_M42 (pc_q := 67) (st_q := [.int z146, .ref 26]) rfl rfl ?_
        refine pm_R_lo pm_M42 (pc_q := 68) rfl rfl rfl ?_
        refine pm_R_op pm_M42 (pc_q := 70) (st_q := [.int 7, .int 11, .int z146, .ref 26]) rfl rfl rfl ?_
        refine pm_R_op pm_M42 (pc_q := 71) (st_q := [.int 4, .int z146, .ref 26]) rfl rfl rfl ?_
        have e149 := (F123.cell G (by decide) (by decide) (F99.cell G (by decide) (by decide) (F92.cell G (by decide) (by decide) (F69.cell G (by decide) (by decide) (F59.cell G (by decide) (by decide) (F53.cell G (by decide) (by decide) (F47.cell G (by decide) (by decide) (F41.cell G (by decide) (by decide) (F20.cell G (by decide) (by decide) e5)))))))))
        refine cl_R_ist G pm_M42 T122 (pc_q := 72) rfl e149 (by decide) ⟨_, rfl⟩ (sf_in B148 (by decide) (by decide)) rfl (fun h150 T151 F152 e153 => ?_)
        have F154 := F152.cl (ck := ck) T122.1
        have F155 := F125.trans (N := 0) (S := 0) F154 (by decide) (by decide) (by decide)
        refine pm_R_lo pm_M42 (pc_q := 73) rfl rfl rfl ?_
        refine pm_R_lo pm_M42 (pc_q := 74) rfl rfl rfl ?_
        refine pm_R_lo pm_M42 (pc_q := 75) rfl rfl rfl ?_
        refine pm_R_get pm_M42 (pc_q := 78) (v := .ref 26) rfl rfl T151.e25 (by decide) (T151.lt (by decide)) rfl rfl ?_
        refine pm_R_lo pm_M42 (pc_q := 79) rfl rfl rfl ?_
        refine pm_R_get pm_M42 (pc_q := 82) (v := .int (m 5)) rfl rfl T151.e25 (by decide) (T151.lt (by decide)) (congrArg (fun z => some (Value.int z)) (Int32.toInt_inj.mp (cl_aux3 _ _ ek127))) rfl ?_
        refine pm_R_op pm_M42 (pc_q := 83) (st_q := [.int 1, .int (m 5), .ref 26, .ref 25, .ref 25]) rfl rfl rfl ?_
        refine pm_R_cv pm_M42 (pc_q := 86) (a := 25) (ra := [.int 1, .int (m 5), .ref 26]) (rest := [.ref 25]) (ls_q := [.ref 25, .ref 26, .int (m 5), .int 1]) rfl rfl (Or.inl rfl) pm_M41 T151.e25 rfl (by decide) (T151.lt (by decide)) rfl rfl (Nat.le_of_ble_eq_true rfl) rfl rfl ?_
        refine pm_R_lo pm_M41 (pc_q := 1) rfl rfl rfl ?_
        refine pm_R_get pm_M41 (pc_q := 4) (v := .ref 29) rfl rfl T151.e25 (by decide) (T151.lt (by decide)) rfl rfl ?_
        refine pm_R_op pm_M41 (pc_q := 5) (st_q := [.int 0, .ref 29]) rfl rfl rfl ?_
        refine pm_R_lo pm_M41 (pc_q := 6) rfl rfl rfl ?_
        refine pm_R_lo pm_M41 (pc_q := 7) rfl rfl rfl ?_
        refine pm_R_op pm_M41 (pc_q := 8) (st_q := [.int 4, .int (m 5), .ref 26, .int 0, .ref 29]) rfl rfl rfl ?_
        refine sf_R_imulV pm_M41 (pc_q := 9) rfl rfl (sf_eqT (cl_aux70 _ _ ek127) B144) sf_k4 (by decide) (by decide) (by decide) e147 ?_
        refine pm_R_lo pm_M41 (pc_q := 10) rfl rfl rfl ?_
        refine sf_R_iadd pm_M41 (pc_q := 11) rfl rfl B148 sf_k1 (by decide) (by decide) (fun z156 e157 B158 => ?_)
        refine pm_R_op pm_M41 (pc_q := 12) (st_q := [.int 4, .int z156, .ref 26, .int 0, .ref 29]) rfl rfl rfl ?_
        refine pm_R_lo pm_M41 (pc_q := 13) rfl rfl rfl ?_
        refine pm_R_op pm_M41 (pc_q := 14) (st_q := [.int 3, .int z156, .ref 26, .int 0, .ref 29]) rfl rfl rfl ?_
        have e159 := (F154.cell G (by decide) (by decide) (F123.cell G (by decide) (by decide) (F99.cell G (by decide) (by decide) e91)))
        refine cl_R_acp G pm_M41 T151 (N := 3) (pc_q := 17) rfl rfl rfl e159 e153 (Or.inl rfl) ⟨_, rfl⟩ rfl (by decide) (by decide) B158 (by decide) (by decide) (Nat.le_of_ble_eq_true rfl) rfl (fun h160 T161 F162 e163 => ?_)
        have F164 := F162.cl (ck := ck) T151.1
        have F165 := F155.trans (N := 0) (S := 0) F164 (by decide) (by decide) (by decide)
        refine pm_R_lo pm_M41 (pc_q := 18) rfl rfl rfl ?_
        refine pm_R_op pm_M41 (pc_q := 19) (st_q := [.int 1, .int (m 5)]) rfl rfl rfl ?_
        refine sf_R_iadd pm_M41 (pc_q := 20) rfl rfl (sf_eqT (cl_aux70 _ _ ek127) B144) sf_k1 (by decide) (by decide) (fun z166 e167 B168 => ?_)
        refine pm_R_ret pm_M41 (r := some (.int z166)) rfl (pm_ret_i _) ?_
        show pm_R _ 42 86 [.ref 25, .int 11] [.int z166, .ref 25] _ _
        refine cl_R_put25 G pm_M42 T161 (k := 5) (pc_q := 89) rfl rfl rfl (by decide) rfl rfl (sf_weak B168 (by decide) (by decide)) rfl rfl rfl rfl rfl (fun h169 m172 em173 T170 F171 => ?_)
        have F174 := F171.cl (ck := ck) T161.1
        have F175 := F165.trans (N := 0) (S := 0) F174 (by decide) (by decide) (by decide)
        have B176 : sf_B 0 16 (m172 6) := by rw [em173]; exact B128
        have ek177 : (m172 6).toInt = ((m 6)).toInt := by rw [em173]; exact ek129
        have B178 : sf_B 0 99 (m172 7) := by rw [em173]; exact B130
        have ek179 : (m172 7).toInt = ((m 7)).toInt := by rw [em173]; exact ek131
        have B180 : sf_B (-1) 99 (m172 8) := by rw [em173]; exact B132
        have ek181 : (m172 8).toInt = ((m 8)).toInt := by rw [em173]; exact ek133
        have B182 : sf_B 0 4 (m172 3) := by rw [em173]; exact B134
        have ek183 : (m172 3).toInt = ((m96 3)).toInt := by rw [em173]; exact ek135
        have B184 : sf_B 3 3 (m172 12) := by rw [em173]; exact B139
        have B185 : sf_B 1 8 (m172 5) := by rw [em173]; exact B168
        have ek186 : (m172 5).toInt = (z166).toInt := by rw [em173]; rfl
        have W187 : rf_W [3, 4, 5, 6, 7, 8, 10, 11, 12, 13] m m172 := by rw [em173]; exact W136.put (by decide)
        refine pm_R_ret pm_M42 (r := none) rfl rfl ?_
        show pm_R _ 40 123 [.ref 25, .int 11] [] _ _
        refine pm_R_ret pm_M40 (r := none) rfl rfl ?_
        show pm_R _ 37 139 [.ref 25, .int 11, .int 1] [] _ _
        refine pm_R_op pm_M37 (pc_q := 140) (st_q := [.int 1]) (pm_q37_1 (Nat.le_of_ble_eq_true rfl)) rfl rfl ?_
        have e188 := (F174.cell G (by decide) (by decide) e163)
        have e189 := (F174.cell G (by decide) (by decide) (F164.cell G (by decide) (by decide) (F154.cell G (by decide) (by decide) (F123.cell G (by decide) (by decide) (F99.cell G (by decide) (by decide) (F92.cell G (by decide) (by decide) (F69.cell G (by decide) (by decide) (F59.cell G (by decide) (by decide) (F53.cell G (by decide) (by decide) (F47.cell G (by decide) (by decide) (F41.cell G (by decide) (by decide) (F20.cell G (by decide) (by decide) e2))))))))))))
        have e190 := (F174.cell G (by decide) (by decide) (F164.cell G (by decide) (by decide) (F154.cell G (by decide) (by decide) (F123.cell G (by decide) (by decide) (F99.cell G (by decide) (by decide) (F92.cell G (by decide) (by decide) (F69.cell G (by decide) (by decide) (F59.cell G (by decide) (by decide) (F53.cell G (by decide) (by decide) (F47.cell G (by decide) (by decide) (F41.cell G (by decide) (by decide) (F20.cell G (by decide) (by decide) e8))))))))))))
        exact pm_R_ret pm_M37 (r := some (.int 1)) (pm_q37_1 (Nat.le_of_ble_eq_true rfl)) rfl (K 1 m172 h169 T170 F175 W187 (fun z => ⟨_, _, e188, e190, (R.at (cl_aux67 _ (X22 (cl_aux68 _ _ ek81 (q114 (cl_aux68 _ _ ek183 z)).1)).1) e5 e8).law (cl_aux81 _ _ _ e167 ek186 (sf_eqT (cl_aux70 _ _ ek127) B144).1 (sf_eqT (cl_aux70 _ _ ek127) B144).2 B185.1 B185.2) ((cl_tnI (Int.le_trans (by decide) B148.1)).trans (cl_aux75 _ _ e147)) ((cl_tnI (Int.le_trans (by decide) B158.1)).trans (cl_aux7 _ _ _ e147 e157)) (sf_weak sf_k4 (by decide) (by decide)) (sf_eqL sf_upd_eq B143) (sf_eqL (Eq.trans (sf_upd_nec (k := Int32.toNatClampNeg 0) (j := Int32.toNatClampNeg 1) (by decide)) (Eq.trans (sf_upd_nec (k := Int32.toNatClampNeg 3) (j := Int32.toNatClampNeg 1) (by decide)) (Eq.trans (sf_upd_nec (k := Int32.toNatClampNeg 2) (j := Int32.toNatClampNeg 1) (by decide)) sf_upd_eq))) (sf_weak sf_kn1 (by decide) (by decide))) (cl_aux25 _ _ _ e167 ek186)⟩) ⟨_, e189, b3⟩ (sf_weak sf_k1 (by decide) (by decide)))
      · have B191 : sf_B 1 4 (m96 3) := sf_neL0 c140 sf_k0 B113
        refine pm_R_ret pm_M40 (r := none) rfl rfl ?_
        show pm_R _ 37 139 [.ref 25, .int 11, .int 1] [] _ _
        refine pm_R_op pm_M37 (pc_q := 140) (st_q := [.int 1]) (pm_q37_1 (Nat.le_of_ble_eq_true rfl)) rfl rfl ?_
        have e192 := (F123.cell G (by decide) (by decide) (F99.cell G (by decide) (by decide) (F92.cell G (by decide) (by decide) (F69.cell G (by decide) (by decide) (F59.cell G (by decide) (by decide) (F53.cell G (by decide) (by decide) (F47.cell G (by decide) (by decide) (F41.cell G (by decide) (by decide) (F20.cell G (by decide) (by decide) e2)))))))))
        have e193 := (F123.cell G (by decide) (by decide) (F99.cell G (by decide) (by decide) (F92.cell G (by decide) (by decide) (F69.cell G (by decide) (by decide) (F59.cell G (by decide) (by decide) (F53.cell G (by decide) (by decide) (F47.cell G (by decide) (by decide) (F41.cell G (by decide) (by decide) (F20.cell G (by decide) (by decide) e5)))))))))
        have e194 := (F123.cell G (by decide) (by decide) (F99.cell G (by decide) (by decide) (F92.cell G (by decide) (by decide) (F69.cell G (by decide) (by decide) (F59.cell G (by decide) (by decide) (F53.cell G (by decide) (by decide) (F47.cell G (by decide) (by decide) (F41.cell G (by decide) (by decide) (F20.cell G (by decide) (by decide) e8)))))))))
        exact pm_R_ret pm_M37 (r := some (.int 1)) (pm_q37_1 (Nat.le_of_ble_eq_true rfl)) rfl (K 1 m120 h121 T122 F125 W136 (fun z => ⟨_, _, e193, e194, (R.at (cl_aux67 _ (X22 (cl_aux68 _ _ ek81 (q114 (cl_aux68 _ _ ek135 z)).1)).1) e5 e8).keep (cl_aux3 _ _ ek127) (cl_aux3 _ _ ek129) (cl_aux3 _ _ ek131) (cl_aux3 _ _ ek133)⟩) ⟨_, e192, b3⟩ (sf_weak sf_k1 (by decide) (by decide)))
    · skip
      refine pm_R_op pm_M37 (pc_q := 133) (st_q := [.int 0]) (pm_q37_1 (Nat.le_of_ble_eq_true rfl)) rfl rfl ?_
      have e195 := (F123.cell G (by decide) (by decide) (F99.cell G (by decide) (by decide) (F92.cell G (by decide) (by decide) (F69.cell G (by decide) (by decide) (F59.cell G (by decide) (by decide) (F53.cell G (by decide) (by decide) (F47.cell G (by decide) (by decide) (F41.cell G (by decide) (by decide) (F20.cell G (by decide) (by decide) e2)))))))))
      have e196 := (F123.cell G (by decide) (by decide) (F99.cell G (by decide) (by decide) (F92.cell G (by decide) (by decide) (F69.cell G (by decide) (by decide) (F59.cell G (by decide) (by decide) (F53.cell G (by decide) (by decide) (F47.cell G (by decide) (by decide) (F41.cell G (by decide) (by decide) (F20.cell G (by decide) (by decide) e5)))))))))
      have e197 := (F123.cell G (by decide) (by decide) (F99.cell G (by decide) (by decide) (F92.cell G (by decide) (by decide) (F69.cell G (by decide) (by decide) (F59.cell G (by decide) (by decide) (F53.cell G (by decide) (by decide) (F47.cell G (by decide) (by decide) (F41.cell G (by decide) (by decide) (F20.cell G (by decide) (by decide) e8)))))))))
      exact pm_R_ret pm_M37 (r := some (.int 0)) (pm_q37_1 (Nat.le_of_ble_eq_true rfl)) rfl (K 0 m120 h121 T122 F125 W136 (fun z => ⟨_, _, e196, e197, (R.at (cl_aux67 _ (X22 (cl_aux68 _ _ ek81 (q114 (cl_aux68 _ _ ek135 z)).1)).1) e5 e8).keep (cl_aux3 _ _ ek127) (cl_aux3 _ _ ek129) (cl_aux3 _ _ ek131) (cl_aux3 _ _ ek133)⟩) ⟨_, e195, b3⟩ (sf_weak sf_k0 (by decide) (by decide)))
  · skip
    refine pm_R_op pm_M37 (pc_q := 50) (st_q := [.int 0]) rfl rfl rfl ?_
    have e198 := (F69.cell G (by decide) (by decide) (F59.cell G (by decide) (by decide) (F53.cell G (by decide) (by decide) (F47.cell G (by decide) (by decide) (F41.cell G (by decide) (by decide) (F20.cell G (by decide) (by decide) e2))))))
    have e199 := (F69.cell G (by decide) (by decide) (F59.cell G (by decide) (by decide) (F53.cell G (by decide) (by decide) (F47.cell G (by decide) (by decide) (F41.cell G (by decide) (by decide) (F20.cell G (by decide) (by decide) e5))))))
    have e200 := (F69.cell G (by decide) (by decide) (F59.cell G (by decide) (by decide) (F53.cell G (by decide) (by decide) (F47.cell G (by decide) (by decide) (F41.cell G (by decide) (by decide) (F20.cell G (by decide) (by decide) e8))))))
    exact pm_R_ret pm_M37 (r := some (.int 0)) rfl rfl (K 0 m66 h67 T68 F71 W82 (fun z => ⟨_, _, e199, e200, (R.at (cl_aux67 _ (X22 (cl_aux68 _ _ ek81 z)).1) e5 e8).keep (cl_aux3 _ _ ek73) (cl_aux3 _ _ ek75) (cl_aux3 _ _ ek77) (cl_aux3 _ _ ek79)⟩) ⟨_, e198, b3⟩ (sf_weak sf_k0 (by decide) (by decide)))

set_option maxRecDepth 100000 in
set_option maxHeartbeats 4000000 in
/-- SilentTable$TextReader.readLine -/
theorem cl_c37_12 {d : Nat} {ck : cl_K} {E : Nat → pm_E} {m : Nat → Int32} {o : Nat → Option Nat} {h : pm_H} {Q : Option Value → pm_H → Prop}  (G : cl_G ck E) (T : cl_T ck E m o h) (R : cl_Rd 3 m h) (Y : cl_Y h) (K : ∀ (r : Int32) (m_q : Nat → Int32) (h_q : pm_H), cl_T ck E m_q o h_q → cl_F ck [25, 26, 29, 30] 0 0 h h_q → rf_W [3, 4, 5, 6, 7, 8, 10, 11, 12, 13] m m_q → cl_Rd 3 m_q h_q → cl_Y h_q → sf_B 0 1 r → Q (some (.int r)) h_q) : pm_R (d + 7) 37 0 [.ref 25, .int 12, pm_no] [] h Q := by
  obtain ⟨f1, e2, b3⟩ := Y
  obtain ⟨f4, e5⟩ := T.C 26 (by decide) (by decide)
  obtain ⟨f7, e8⟩ := T.C 27 (by decide) (by decide)
  have B10 : sf_B 0 4 (m 3) := T.B 3
  have B11 : sf_B 0 50 (m 5) := T.B 5
  have B12 : sf_B 0 16 (m 6) := T.B 6
  have B13 : sf_B 0 99 (m 7) := T.B 7
  have B14 : sf_B (-1) 99 (m 8) := T.B 8
  refine pm_R_lo pm_M37 (pc_q := 1) rfl rfl rfl ?_
  refine pm_R_op pm_M37 (pc_q := 2) (st_q := [.int (-1), .int 12]) rfl rfl rfl ?_
  refine pm_R_br pm_M37 (pc_q := 7) (st_q := []) rfl rfl ?_
  refine pm_R_lo pm_M37 (pc_q := 8) rfl rfl rfl ?_
  refine pm_R_lo pm_M37 (pc_q := 9) rfl rfl rfl ?_
  refine pm_R_cv pm_M37 (pc_q := 12) (a := 25) (ra := [.int 12]) (rest := []) (ls_q := [.ref 25, .int 12, pm_no, pm_no]) rfl rfl (Or.inl rfl) pm_M38 T.e25 rfl (by decide) (T.lt (by decide)) rfl rfl (Nat.le_of_ble_eq_true rfl) rfl rfl ?_
  refine cl_c38_12 (d := d + 5) G T  (fun m17 h18 T19 F20 W21 X22 => ?_)
  have F23 := (cl_F.refl (ck := ck) (A := [25, 26, 29, 30]) (n := 0) (s := 0) T.1).trans (N := 0) (S := 0) F20 (by decide) (by decide) (by decide)
  have B24 : sf_B 0 50 (m17 5) := by rw [W21 5 (by decide)]; exact B11
  have ek25 : (m17 5).toInt = ((m 5)).toInt := by rw [W21 5 (by decide)]
  have B26 : sf_B 0 16 (m17 6) := by rw [W21 6 (by decide)]; exact B12
  have ek27 : (m17 6).toInt = ((m 6)).toInt := by rw [W21 6 (by decide)]
  have B28 : sf_B 0 99 (m17 7) := by rw [W21 7 (by decide)]; exact B13
  have ek29 : (m17 7).toInt = ((m 7)).toInt := by rw [W21 7 (by decide)]
  have B30 : sf_B (-1) 99 (m17 8) := by rw [W21 8 (by decide)]; exact B14
  have ek31 : (m17 8).toInt = ((m 8)).toInt := by rw [W21 8 (by decide)]
  have W32 : rf_W [3, 4, 5, 6, 7, 8, 10, 11, 12, 13] m m17 := (rf_W.refl [3, 4, 5, 6, 7, 8, 10, 11, 12, 13] m).trans W21 (by decide)
  have B33 : sf_B 0 4 (m17 3) := T19.B 3
  show pm_R _ 37 12 [.ref 25, .int 12, pm_no] [] _ _
  refine pm_R_lo pm_M37 (pc_q := 13) rfl rfl rfl ?_
  refine pm_R_get pm_M37 (pc_q := 16) (v := .ref 29) rfl rfl T19.e25 (by decide) (T19.lt (by decide)) rfl rfl ?_
  refine pm_R_op pm_M37 (pc_q := 17) (st_q := [.int (-1), .ref 29]) rfl rfl rfl ?_
  refine pm_R_cs pm_M37 (pc_q := 20) (ra := [.int (-1), .ref 29]) (rest := []) (ls_q := [.ref 29, .int (-1), pm_no, pm_no]) rfl rfl (Or.inl rfl) pm_M13 rfl rfl (Nat.le_of_ble_eq_true rfl) rfl rfl ?_
  refine pm_R_op pm_M13 (pc_q := 1) (st_q := [.int 0]) rfl rfl rfl ?_
  refine pm_R_lo pm_M13 (pc_q := 2) (ls_q := [.ref 29, .int (-1), .int 0, pm_no]) (st_q := []) rfl rfl rfl ?_
  refine pm_R_lo pm_M13 (pc_q := 3) rfl rfl rfl ?_
  obtain ⟨f34, e35⟩ := T19.C 29 (by decide) (by decide)
  refine pm_R_alen pm_M13 (pc_q := 4) (v := 4) rfl e35 (by decide) (T19.lt (by decide)) (by decide) rfl rfl ?_
  refine pm_R_lo pm_M13 (pc_q := 5) (ls_q := [.ref 29, .int (-1), .int 0, .int 4]) (st_q := []) rfl rfl rfl ?_
  refine pm_R_lo pm_M13 (pc_q := 6) rfl rfl rfl ?_
  refine pm_R_lo pm_M13 (pc_q := 7) rfl rfl rfl ?_
  refine pm_R_br pm_M13 (pc_q := 10) (st_q := []) rfl rfl ?_
  refine pm_R_lo pm_M13 (pc_q := 11) rfl rfl rfl ?_
  refine pm_R_lo pm_M13 (pc_q := 12) rfl rfl rfl ?_
  refine pm_R_lo pm_M13 (pc_q := 13) rfl rfl rfl ?_
  refine cl_R_ist G pm_M13 T19 (pc_q := 14) rfl e35 (by decide) ⟨_, rfl⟩ rfl rfl (fun h37 T38 F39 e40 => ?_)
  have F41 := F39.cl (ck := ck) T19.1
  have F42 := F23.trans (N := 0) (S := 0) F41 (by decide) (by decide) (by decide)
  refine pm_R_lo pm_M13 (pc_q := 17) (ls_q := [.ref 29, .int (-1), .int 1, .int 4]) (st_q := []) rfl rfl rfl ?_
  refine pm_R_br pm_M13 (pc_q := 5) rfl rfl ?_
  refine pm_R_lo pm_M13 (pc_q := 6) rfl rfl rfl ?_
  refine pm_R_lo pm_M13 (pc_q := 7) rfl rfl rfl ?_
  refine pm_R_br pm_M13 (pc_q := 10) (st_q := []) rfl rfl ?_
  refine pm_R_lo pm_M13 (pc_q := 11) rfl rfl rfl ?_
  refine pm_R_lo pm_M13 (pc_q := 12) rfl rfl rfl ?_
  refine pm_R_lo pm_M13 (pc_q := 13) rfl rfl rfl ?_
  refine cl_R_ist G pm_M13 T38 (pc_q := 14) rfl e40 (by decide) ⟨_, rfl⟩ rfl rfl (fun h43 T44 F45 e46 => ?_)
  have F47 := F45.cl (ck := ck) T38.1
  have F48 := F42.trans (N := 0) (S := 0) F47 (by decide) (by decide) (by decide)
  refine pm_R_lo pm_M13 (pc_q := 17) (ls_q := [.ref 29, .int (-1), .int 2, .int 4]) (st_q := []) rfl rfl rfl ?_
  refine pm_R_br pm_M13 (pc_q := 5) rfl rfl ?_
  refine pm_R_lo pm_M13 (pc_q := 6) rfl rfl rfl ?_
  refine pm_R_lo pm_M13 (pc_q := 7) rfl rfl rfl ?_
  refine pm_R_br pm_M13 (pc_q := 10) (st_q := []) rfl rfl ?_
  refine pm_R_lo pm_M13 (pc_q := 11) rfl rfl rfl ?_
  refine pm_R_lo pm_M13 (pc_q := 12) rfl rfl rfl ?_
  refine pm_R_lo pm_M13 (pc_q := 13) rfl rfl rfl ?_
  refine cl_R_ist G pm_M13 T44 (pc_q := 14) rfl e46 (by decide) ⟨_, rfl⟩ rfl rfl (fun h49 T50 F51 e52 => ?_)
  have F53 := F51.cl (ck := ck) T44.1
  have F54 := F48.trans (N := 0) (S := 0) F53 (by decide) (by decide) (by decide)
  refine pm_R_lo pm_M13 (pc_q := 17) (ls_q := [.ref 29, .int (-1), .int 3, .int 4]) (st_q := []) rfl rfl rfl ?_
  refine pm_R_br pm_M13 (pc_q := 5) rfl rfl ?_
  refine pm_R_lo pm_M13 (pc_q := 6) rfl rfl rfl ?_
  refine pm_R_lo pm_M13 (pc_q := 7) rfl rfl rfl ?_
  refine pm_R_br pm_M13 (pc_q := 10) (st_q := []) rfl rfl ?_
  refine pm_R_lo pm_M13 (pc_q := 11) rfl rfl rfl ?_
  refine pm_R_lo pm_M13 (pc_q := 12) rfl rfl rfl ?_
  refine pm_R_lo pm_M13 (pc_q := 13) rfl rfl rfl ?_
  refine cl_R_ist G pm_M13 T50 (pc_q := 14) rfl e52 (by decide) ⟨_, rfl⟩ rfl rfl (fun h55 T56 F57 e58 => ?_)
  have F59 := F57.cl (ck := ck) T50.1
  have F60 := F54.trans (N := 0) (S := 0) F59 (by decide) (by decide) (by decide)
  refine pm_R_lo pm_M13 (pc_q := 17) (ls_q := [.ref 29, .int (-1), .int 4, .int 4]) (st_q := []) rfl rfl rfl ?_
  refine pm_R_br pm_M13 (pc_q := 5) rfl rfl ?_
  refine pm_R_lo pm_M13 (pc_q := 6) rfl rfl rfl ?_
  refine pm_R_lo pm_M13 (pc_q := 7) rfl rfl rfl ?_
  refine pm_R_br pm_M13 (pc_q := 20) (st_q := []) rfl rfl ?_
  refine pm_R_ret pm_M13 (r := none) rfl rfl ?_
  show pm_R _ 37 20 [.ref 25, .int 12, pm_no] [] _ _
  refine pm_R_op pm_M37 (pc_q := 21) (st_q := [.int 0]) rfl rfl rfl ?_
  refine pm_R_lo pm_M37 (pc_q := 22) (ls_q := [.ref 25, .int 12, .int 0]) (st_q := []) rfl rfl rfl ?_
  refine pm_R_lo pm_M37 (pc_q := 23) rfl rfl rfl ?_
  refine pm_R_stat pm_M37 (pc_q := 26) rfl rfl rfl ?_
  refine pm_R_lo pm_M37 (pc_q := 27) rfl rfl rfl ?_
  refine pm_R_iald pm_M37 (pc_q := 28) (v := 1) rfl ((T56.old (by decide)).trans G.tb2) (T56.lt (by decide)) rfl rfl rfl ?_
  refine pm_R_br pm_M37 (pc_q := 31) (st_q := []) rfl rfl ?_
  refine pm_R_lo pm_M37 (pc_q := 32) rfl rfl rfl ?_
  refine pm_R_get pm_M37 (pc_q := 35) (v := .ref 30) rfl rfl T56.e25 (by decide) (T56.lt (by decide)) rfl rfl ?_
  refine pm_R_cv pm_M37 (pc_q := 38) (a := 30) (ra := []) (rest := []) (ls_q := [.ref 30]) rfl rfl (Or.inl rfl) pm_M16 T56.e30 rfl (by decide) (T56.lt (by decide)) rfl rfl (Nat.le_of_ble_eq_true rfl) rfl rfl ?_
  refine cl_c16 (d := d + 4) G T56  (fun m66 h67 T68 F69 W70 => ?_)
  have F71 := F60.trans (N := 0) (S := 0) F69 (by decide) (by decide) (by decide)
  have B72 : sf_B 0 50 (m66 5) := by rw [W70 5 (by decide)]; exact B24
  have ek73 : (m66 5).toInt = ((m 5)).toInt := by rw [W70 5 (by decide)]; exact ek25
  have B74 : sf_B 0 16 (m66 6) := by rw [W70 6 (by decide)]; exact B26
  have ek75 : (m66 6).toInt = ((m 6)).toInt := by rw [W70 6 (by decide)]; exact ek27
  have B76 : sf_B 0 99 (m66 7) := by rw [W70 7 (by decide)]; exact B28
  have ek77 : (m66 7).toInt = ((m 7)).toInt := by rw [W70 7 (by decide)]; exact ek29
  have B78 : sf_B (-1) 99 (m66 8) := by rw [W70 8 (by decide)]; exact B30
  have ek79 : (m66 8).toInt = ((m 8)).toInt := by rw [W70 8 (by decide)]; exact ek31
  have B80 : sf_B 0 4 (m66 3) := by rw [W70 3 (by decide)]; exact B33
  have ek81 : (m66 3).toInt = ((m17 3)).toInt := by rw [W70 3 (by decide)]
  have W82 : rf_W [3, 4, 5, 6, 7, 8, 10, 11, 12, 13] m m66 := W32.trans W70 (by decide)
  show pm_R _ 37 38 [.ref 25, .int 12, .int 0] [] _ _
  refine pm_R_lo pm_M37 (pc_q := 39) rfl rfl rfl ?_
  refine pm_R_get pm_M37 (pc_q := 42) (v := .ref 30) rfl rfl T68.e25 (by decide) (T68.lt (by decide)) rfl rfl ?_
  have B83 : sf_B 0 4 (m66 12) := T68.B 12
  refine pm_R_get pm_M37 (pc_q := 45) (v := .int (m66 12)) rfl rfl T68.e30 (by decide) (T68.lt (by decide)) rfl rfl ?_
  refine pm_R_op pm_M37 (pc_q := 46) (st_q := [.int 2, .int (m66 12)]) rfl rfl rfl ?_
  refine pm_R_icmp pm_M37 (t := 51) (pc_q := 49) rfl rfl rfl (fun c84 => ?_) (fun c84 => ?_)
  · have B85 : sf_B 2 2 (m66 12) := sf_eqL c84 sf_k2
    refine pm_R_lo pm_M37 (pc_q := 52) rfl rfl rfl ?_
    refine pm_R_get pm_M37 (pc_q := 55) (v := .ref 29) rfl rfl T68.e25 (by decide) (T68.lt (by decide)) rfl rfl ?_
    refine pm_R_lo pm_M37 (pc_q := 56) rfl rfl rfl ?_
    refine pm_R_lo pm_M37 (pc_q := 57) rfl rfl rfl ?_
    refine pm_R_get pm_M37 (pc_q := 60) (v := .ref 30) rfl rfl T68.e25 (by decide) (T68.lt (by decide)) rfl rfl ?_
    have B86 : sf_B 0 99 (m66 13) := T68.B 13
    refine pm_R_get pm_M37 (pc_q := 63) (v := .int (m66 13)) rfl rfl T68.e30 (by decide) (T68.lt (by decide)) rfl rfl ?_
    have e87 := (F69.cell G (by decide) (by decide) e58)
    refine cl_R_ist G pm_M37 T68 (pc_q := 64) rfl e87 (by decide) ⟨_, rfl⟩ rfl rfl (fun h88 T89 F90 e91 => ?_)
    have F92 := F90.cl (ck := ck) T68.1
    have F93 := F71.trans (N := 0) (S := 0) F92 (by decide) (by decide) (by decide)
    refine pm_R_lo pm_M37 (pc_q := 65) rfl rfl rfl ?_
    refine pm_R_lo pm_M37 (pc_q := 66) rfl rfl rfl ?_
    refine pm_R_lo pm_M37 (pc_q := 67) rfl rfl rfl ?_
    refine pm_R_cv pm_M37 (pc_q := 70) (a := 25) (ra := [.int 0, .int 12]) (rest := []) (ls_q := [.ref 25, .int 12, .int 0, pm_no, pm_no, pm_no]) rfl rfl (Or.inl rfl) pm_M39 T89.e25 rfl (by decide) (T89.lt (by decide)) rfl rfl (Nat.le_of_ble_eq_true rfl) rfl rfl ?_
    refine cl_c39_12_0 (d := d + 5) G T89  (fun m96 h97 T98 F99 W100 X101 => ?_)
    have F102 := F93.trans (N := 0) (S := 0) F99 (by decide) (by decide) (by decide)
    have B103 : sf_B 0 50 (m96 5) := by rw [W100 5 (by decide)]; exact B72
    have ek104 : (m96 5).toInt = ((m 5)).toInt := by rw [W100 5 (by decide)]; exact ek73
    have B105 : sf_B 0 16 (m96 6) := by rw [W100 6 (by decide)]; exact B74
    have ek106 : (m96 6).toInt = ((m 6)).toInt := by rw [W100 6 (by decide)]; exact ek75
    have B107 : sf_B 0 99 (m96 7) := by rw [W100 7 (by decide)]; exact B76
    have ek108 : (m96 7).toInt = ((m 7)).toInt := by rw [W100 7 (by decide)]; exact ek77
    have B109 : sf_B (-1) 99 (m96 8) := by rw [W100 8 (by decide)]; exact B78
    have ek110 : (m96 8).toInt = ((m 8)).toInt := by rw [W100 8 (by decide)]; exact ek79
    have B111 : sf_B 2 2 (m96 12) := by rw [W100 12 (by decide)]; exact B85
    have W112 : rf_W [3, 4, 5, 6, 7, 8, 10, 11, 12, 13] m m96 := W82.trans W100 (by decide)
    have B113 : sf_B 0 4 (m96 3) := T98.B 3
    show pm_R _ 37 70 [.ref 25, .int 12, .int 0] [] _ _
    have q114 := X101 _ e91
    refine pm_R_lo pm_M37 (pc_q := 73) (ls_q := [.ref 25, .int 12, .int 1]) (st_q := []) rfl rfl rfl ?_
    refine pm_R_br pm_M37 (pc_q := 22) rfl rfl ?_
    refine pm_R_lo pm_M37 (pc_q := 23) rfl rfl rfl ?_
    refine pm_R_stat pm_M37 (pc_q := 26) rfl rfl rfl ?_
    refine pm_R_lo pm_M37 (pc_q := 27) rfl rfl rfl ?_
    refine pm_R_iald pm_M37 (pc_q := 28) (v := 1) rfl ((T98.old (by decide)).trans G.tb2) (T98.lt (by decide)) rfl rfl rfl ?_
    refine pm_R_br pm_M37 (pc_q := 76) (st_q := []) rfl rfl ?_
    refine pm_R_lo pm_M37 (pc_q := 77) rfl rfl rfl ?_
    refine pm_R_br pm_M37 (pc_q := 114) (st_q := []) rfl rfl ?_
    refine pm_R_lo pm_M37 (pc_q := 115) (pm_q37_1 (Nat.le_of_ble_eq_true rfl)) rfl rfl ?_
    refine pm_R_get pm_M37 (pc_q := 118) (v := .ref 30) (pm_q37_1 (Nat.le_of_ble_eq_true rfl)) rfl T98.e25 (by decide) (T98.lt (by decide)) rfl rfl ?_
    refine pm_R_cv pm_M37 (pc_q := 121) (a := 30) (ra := []) (rest := []) (ls_q := [.ref 30]) (pm_q37_1 (Nat.le_of_ble_eq_true rfl)) rfl (Or.inl rfl) pm_M16 T98.e30 rfl (by decide) (T98.lt (by decide)) rfl rfl (Nat.le_of_ble_eq_true rfl) rfl rfl ?_
    refine cl_c16 (d := d + 4) G T98  (fun m120 h121 T122 F123 W124 => ?_)
    have F125 := F102.trans (N := 0) (S := 0) F123 (by decide) (by decide) (by decide)
    have B126 : sf_B 0 50 (m120 5) := by rw [W124 5 (by decide)]; exact B103
    have ek127 : (m120 5).toInt = ((m 5)).toInt := by rw [W124 5 (by decide)]; exact ek104
    have B128 : sf_B 0 16 (m120 6) := by rw [W124 6 (by decide)]; exact B105
    have ek129 : (m120 6).toInt = ((m 6)).toInt := by rw [W124 6 (by decide)]; exact ek106
    have B130 : sf_B 0 99 (m120 7) := by rw [W124 7 (by decide)]; exact B107
    have ek131 : (m120 7).toInt = ((m 7)).toInt := by rw [W124 7 (by decide)]; exact ek108
    have B132 : sf_B (-1) 99 (m120 8) := by rw [W124 8 (by decide)]; exact B109
    have ek133 : (m120 8).toInt = ((m 8)).toInt := by rw [W124 8 (by decide)]; exact ek110
    have B134 : sf_B 0 4 (m120 3) := by rw [W124 3 (by decide)]; exact B113
    have ek135 : (m120 3).toInt = ((m96 3)).toInt := by rw [W124 3 (by decide)]
    have W136 : rf_W [3, 4, 5, 6, 7, 8, 10, 11, 12, 13] m m120 := W112.trans W124 (by decide)
    show pm_R _ 37 121 [.ref 25, .int 12, .int 1] [] _ _
    refine pm_R_lo pm_M37 (pc_q := 122) (pm_q37_1 (Nat.le_of_ble_eq_true rfl)) rfl rfl ?_
    refine pm_R_get pm_M37 (pc_q := 125) (v := .ref 30) (pm_q37_1 (Nat.le_of_ble_eq_true rfl)) rfl T122.e25 (by decide) (T122.lt (by decide)) rfl rfl ?_
    have B137 : sf_B 0 4 (m120 12) := T122.B 12
    refine pm_R_get pm_M37 (pc_q := 128) (v := .int (m120 12)) (pm_q37_1 (Nat.le_of_ble_eq_true rfl)) rfl T122.e30 (by decide) (T122.lt (by decide)) rfl rfl ?_
    refine pm_R_op pm_M37 (pc_q := 129) (st_q := [.int 3, .int (m120 12)]) (pm_q37_1 (Nat.le_of_ble_eq_true rfl)) rfl rfl ?_
    refine pm_R_icmp pm_M37 (t := 134) (pc_q := 132) (pm_q37_1 (Nat.le_of_ble_eq_true rfl)) rfl rfl (fun c138 => ?_) (fun c138 => ?_)
    · have B139 : sf_B 3 3 (m120 12) := sf_eqL c138 sf_k3
      refine pm_R_lo pm_M37 (pc_q := 135) (pm_q37_1 (Nat.le_of_ble_eq_true rfl)) rfl rfl ?_
      refine pm_R_lo pm_M37 (pc_q := 136) (pm_q37_1 (Nat.le_of_ble_eq_true rfl)) rfl rfl ?_
      refine pm_R_cv pm_M37 (pc_q := 139) (a := 25) (ra := [.int 12]) (rest := []) (ls_q := [.ref 25, .int 12]) (pm_q37_1 (Nat.le_of_ble_eq_true rfl)) rfl (Or.inl rfl) pm_M40 T122.e25 rfl (by decide) (T122.lt (by decide)) rfl rfl (Nat.le_of_ble_eq_true rfl) rfl rfl ?_
      refine pm_R_lo pm_M40 (pc_q := 1) rfl rfl rfl ?_
      refine pm_R_get pm_M40 (pc_q := 4) (v := .int (m96 3)) rfl rfl T122.e25 (by decide) (T122.lt (by decide)) (congrArg (fun z => some (Value.int z)) (Int32.toInt_inj.mp (cl_aux3 _ _ ek135))) rfl ?_
      refine pm_R_ifc pm_M40 (t := 8) (pc_q := 7) rfl rfl rfl (fun c140 => ?_) (fun c140 => ?_)
      · have y141 := q114 (cl_aux67 _ (congrArg Int32.toInt c140))
        have y142 := X22 (cl_aux68 _ _ ek81 y141.1)
        have B143 : sf_B 0 9 (m66 13) := ⟨B86.1, cl_upE (P := fun x => x.toInt ≤ 9) y141.2.2⟩
        have B144 : sf_B 0 7 (m120 5) := ⟨B126.1, (cl_aux80 _ _ ek127 y142.2)⟩
        have B145 : sf_B 0 0 (m96 3) := sf_eqL c140 sf_k0
        refine pm_R_lo pm_M40 (pc_q := 9) rfl rfl rfl ?_
        refine pm_R_br pm_M40 (pc_q := 118) (st_q := []) rfl rfl ?_
        refine pm_R_lo pm_M40 (pc_q := 119) rfl rfl rfl ?_
        refine pm_R_lo pm_M40 (pc_q := 120) rfl rfl rfl ?_
        refine pm_R_cv pm_M40 (pc_q := 123) (a := 25) (ra := [.int 12]) (rest := []) (ls_q := [.ref 25, .int 12]) rfl rfl (Or.inl rfl) pm_M42 T122.e25 rfl (by decide) (T122.lt (by decide)) rfl rfl (Nat.le_of_ble_eq_true rfl) rfl rfl ?_
        refine pm_R_lo pm_M42 (pc_q := 1) rfl rfl rfl ?_
        refine pm_R_op pm_M42 (pc_q := 3) (st_q := [.int 7, .int 12]) rfl rfl rfl ?_
        refine pm_R_br pm_M42 (pc_q := 45) (st_q := []) rfl rfl ?_
        refine pm_R_lo pm_M42 (pc_q := 46) rfl rfl rfl ?_
        refine pm_R_get pm_M42 (pc_q := 49) (v := .ref 26) rfl rfl T122.e25 (by decide) (T122.lt (by decide)) rfl rfl ?_
        refine pm_R_lo pm_M42 (pc_q := 50) rfl rfl rfl ?_
        refine pm_R_get pm_M42 (pc_q := 53) (v := .int (m 5)) rfl rfl T122.e25 (by decide) (T122.lt (by decide)) (congrArg (fun z => some (Value.int z)) (Int32.toInt_inj.mp (cl_aux3 _ _ ek127))) rfl ?_
        refine pm_R_op pm_M42 (pc_q := 54) (st_q := [.int 4, .int (m 5), .ref 26]) rfl rfl rfl ?_
        refine sf_R_imul pm_M42 (pc_q := 55) rfl rfl (sf_eqT (cl_aux70 _ _ ek127) B144) sf_k4 (by decide) (by decide) (by decide) (fun z146 e147 B148 => ?_)
        refine pm_R_lo pm_M42 (pc_q := 56) rfl rfl rfl ?_
        refine pm_R_op pm_M42 (pc_q := 58) (st_q := [.int 7, .int 12, .int z146, .ref 26]) rfl rfl rfl ?_
        refine pm_R_br pm_M42 (pc_q := 67) (st_q := [.int z146, .ref 26]) rfl rfl ?_
        refine pm_R_lo pm_M42 (pc_q := 68) rfl rfl rfl ?_
        refine pm_R_op pm_M42 (pc_q := 70) (st_q := [.int 7, .int 12, .int z146, .ref 26]) rfl rfl rfl ?_
        refine pm_R_op pm_M42 (pc_q := 71) (st_q := [.int 5, .int z146, .ref 26]) rfl rfl rfl ?_
        have e149 := (F123.cell G (by decide) (by decide) (F99.cell G (by decide) (by decide) (F92.cell G (by decide) (by decide) (F69.cell G (by decide) (by decide) (F59.cell G (by decide) (by decide) (F53.cell G (by decide) (by decide) (F47.cell G (by decide) (by decide) (F41.cell G (by decide) (by decide) (F20.cell G (by decide) (by decide) e5)))))))))
        refine cl_R_ist G pm_M42 T122 (pc_q := 72) rfl e149 (by decide) ⟨_, rfl⟩ (sf_in B148 (by decide) (by decide)) rfl (fun h150 T151 F152 e153 => ?_)
        have F154 := F152.cl (ck := ck) T122.1
        have F155 := F125.trans (N := 0) (S := 0) F154 (by decide) (by decide) (by decide)
        refine pm_R_lo pm_M42 (pc_q := 73) rfl rfl rfl ?_
        refine pm_R_lo pm_M42 (pc_q := 74) rfl rfl rfl ?_
        refine pm_R_lo pm_M42 (pc_q := 75) rfl rfl rfl ?_
        refine pm_R_get pm_M42 (pc_q := 78) (v := .ref 26) rfl rfl T151.e25 (by decide) (T151.lt (by decide)) rfl rfl ?_
        refine pm_R_lo pm_M42 (pc_q := 79) rfl rfl rfl ?_
        refine pm_R_get pm_M42 (pc_q := 82) (v := .int (m 5)) rfl rfl T151.e25 (by decide) (T151.lt (by decide)) (congrArg (fun z => some (Value.int z)) (Int32.toInt_inj.mp (cl_aux3 _ _ ek127))) rfl ?_
        refine pm_R_op pm_M42 (pc_q := 83) (st_q := [.int 1, .int (m 5), .ref 26, .ref 25, .ref 25]) rfl rfl rfl ?_
        refine pm_R_cv pm_M42 (pc_q := 86) (a := 25) (ra := [.int 1, .int (m 5), .ref 26]) (rest := [.ref 25]) (ls_q := [.ref 25, .ref 26, .int (m 5), .int 1]) rfl rfl (Or.inl rfl) pm_M41 T151.e25 rfl (by decide) (T151.lt (by decide)) rfl rfl (Nat.le_of_ble_eq_true rfl) rfl rfl ?_
        refine pm_R_lo pm_M41 (pc_q := 1) rfl rfl rfl ?_
        refine pm_R_get pm_M41 (pc_q := 4) (v := .ref 29) rfl rfl T151.e25 (by decide) (T151.lt (by decide)) rfl rfl ?_
        refine pm_R_op pm_M41 (pc_q := 5) (st_q := [.int 0, .ref 29]) rfl rfl rfl ?_
        refine pm_R_lo pm_M41 (pc_q := 6) rfl rfl rfl ?_
        refine pm_R_lo pm_M41 (pc_q := 7) rfl rfl rfl ?_
        refine pm_R_op pm_M41 (pc_q := 8) (st_q := [.int 4, .int (m 5), .ref 26, .int 0, .ref 29]) rfl rfl rfl ?_
        refine sf_R_imulV pm_M41 (pc_q := 9) rfl rfl (sf_eqT (cl_aux70 _ _ ek127) B144) sf_k4 (by decide) (by decide) (by decide) e147 ?_
        refine pm_R_lo pm_M41 (pc_q := 10) rfl rfl rfl ?_
        refine sf_R_iadd pm_M41 (pc_q := 11) rfl rfl B148 sf_k1 (by decide) (by decide) (fun z156 e157 B158 => ?_)
        refine pm_R_op pm_M41 (pc_q := 12) (st_q := [.int 4, .int z156, .ref 26, .int 0, .ref 29]) rfl rfl rfl ?_
        refine pm_R_lo pm_M41 (pc_q := 13) rfl rfl rfl ?_
        refine pm_R_op pm_M41 (pc_q := 14) (st_q := [.int 3, .int z156, .ref 26, .int 0, .ref 29]) rfl rfl rfl ?_
        have e159 := (F154.cell G (by decide) (by decide) (F123.cell G (by decide) (by decide) (F99.cell G (by decide) (by decide) e91)))
        refine cl_R_acp G pm_M41 T151 (N := 3) (pc_q := 17) rfl rfl rfl e159 e153 (Or.inl rfl) ⟨_, rfl⟩ rfl (by decide) (by decide) B158 (by decide) (by decide) (Nat.le_of_ble_eq_true rfl) rfl (fun h160 T161 F162 e163 => ?_)
        have F164 := F162.cl (ck := ck) T151.1
        have F165 := F155.trans (N := 0) (S := 0) F164 (by decide) (by decide) (by decide)
        refine pm_R_lo pm_M41 (pc_q := 18) rfl rfl rfl ?_
        refine pm_R_op pm_M41 (pc_q := 19) (st_q := [.int 1, .int (m 5)]) rfl rfl rfl ?_
        refine sf_R_iadd pm_M41 (pc_q := 20) rfl rfl (sf_eqT (cl_aux70 _ _ ek127) B144) sf_k1 (by decide) (by decide) (fun z166 e167 B168 => ?_)
        refine pm_R_ret pm_M41 (r := some (.int z166)) rfl (pm_ret_i _) ?_
        show pm_R _ 42 86 [.ref 25, .int 12] [.int z166, .ref 25] _ _
        refine cl_R_put25 G pm_M42 T161 (k := 5) (pc_q := 89) rfl rfl rfl (by decide) rfl rfl (sf_weak B168 (by decide) (by decide)) rfl rfl rfl rfl rfl (fun h169 m172 em173 T170 F171 => ?_)
        have F174 := F171.cl (ck := ck) T161.1
        have F175 := F165.trans (N := 0) (S := 0) F174 (by decide) (by decide) (by decide)
        have B176 : sf_B 0 16 (m172 6) := by rw [em173]; exact B128
        have ek177 : (m172 6).toInt = ((m 6)).toInt := by rw [em173]; exact ek129
        have B178 : sf_B 0 99 (m172 7) := by rw [em173]; exact B130
        have ek179 : (m172 7).toInt = ((m 7)).toInt := by rw [em173]; exact ek131
        have B180 : sf_B (-1) 99 (m172 8) := by rw [em173]; exact B132
        have ek181 : (m172 8).toInt = ((m 8)).toInt := by rw [em173]; exact ek133
        have B182 : sf_B 0 4 (m172 3) := by rw [em173]; exact B134
        have ek183 : (m172 3).toInt = ((m96 3)).toInt := by rw [em173]; exact ek135
        have B184 : sf_B 3 3 (m172 12) := by rw [em173]; exact B139
        have B185 : sf_B 1 8 (m172 5) := by rw [em173]; exact B168
        have ek186 : (m172 5).toInt = (z166).toInt := by rw [em173]; rfl
        have W187 : rf_W [3, 4, 5, 6, 7, 8, 10, 11, 12, 13] m m172 := by rw [em173]; exact W136.put (by decide)
        refine pm_R_ret pm_M42 (r := none) rfl rfl ?_
        show pm_R _ 40 123 [.ref 25, .int 12] [] _ _
        refine pm_R_ret pm_M40 (r := none) rfl rfl ?_
        show pm_R _ 37 139 [.ref 25, .int 12, .int 1] [] _ _
        refine pm_R_op pm_M37 (pc_q := 140) (st_q := [.int 1]) (pm_q37_1 (Nat.le_of_ble_eq_true rfl)) rfl rfl ?_
        have e188 := (F174.cell G (by decide) (by decide) e163)
        have e189 := (F174.cell G (by decide) (by decide) (F164.cell G (by decide) (by decide) (F154.cell G (by decide) (by decide) (F123.cell G (by decide) (by decide) (F99.cell G (by decide) (by decide) (F92.cell G (by decide) (by decide) (F69.cell G (by decide) (by decide) (F59.cell G (by decide) (by decide) (F53.cell G (by decide) (by decide) (F47.cell G (by decide) (by decide) (F41.cell G (by decide) (by decide) (F20.cell G (by decide) (by decide) e2))))))))))))
        have e190 := (F174.cell G (by decide) (by decide) (F164.cell G (by decide) (by decide) (F154.cell G (by decide) (by decide) (F123.cell G (by decide) (by decide) (F99.cell G (by decide) (by decide) (F92.cell G (by decide) (by decide) (F69.cell G (by decide) (by decide) (F59.cell G (by decide) (by decide) (F53.cell G (by decide) (by decide) (F47.cell G (by decide) (by decide) (F41.cell G (by decide) (by decide) (F20.cell G (by decide) (by decide) e8))))))))))))
        exact pm_R_ret pm_M37 (r := some (.int 1)) (pm_q37_1 (Nat.le_of_ble_eq_true rfl)) rfl (K 1 m172 h169 T170 F175 W187 (fun z => ⟨_, _, e188, e190, (R.at (cl_aux67 _ (X22 (cl_aux68 _ _ ek81 (q114 (cl_aux68 _ _ ek183 z)).1)).1) e5 e8).law (cl_aux81 _ _ _ e167 ek186 (sf_eqT (cl_aux70 _ _ ek127) B144).1 (sf_eqT (cl_aux70 _ _ ek127) B144).2 B185.1 B185.2) ((cl_tnI (Int.le_trans (by decide) B148.1)).trans (cl_aux75 _ _ e147)) ((cl_tnI (Int.le_trans (by decide) B158.1)).trans (cl_aux7 _ _ _ e147 e157)) (sf_weak sf_k5 (by decide) (by decide)) (sf_eqL sf_upd_eq B143) (sf_eqL (Eq.trans (sf_upd_nec (k := Int32.toNatClampNeg 0) (j := Int32.toNatClampNeg 1) (by decide)) (Eq.trans (sf_upd_nec (k := Int32.toNatClampNeg 3) (j := Int32.toNatClampNeg 1) (by decide)) (Eq.trans (sf_upd_nec (k := Int32.toNatClampNeg 2) (j := Int32.toNatClampNeg 1) (by decide)) sf_upd_eq))) (sf_weak sf_kn1 (by decide) (by decide))) (cl_aux25 _ _ _ e167 ek186)⟩) ⟨_, e189, b3⟩ (sf_weak sf_k1 (by decide) (by decide)))
      · have B191 : sf_B 1 4 (m96 3) := sf_neL0 c140 sf_k0 B113
        refine pm_R_ret pm_M40 (r := none) rfl rfl ?_
        show pm_R _ 37 139 [.ref 25, .int 12, .int 1] [] _ _
        refine pm_R_op pm_M37 (pc_q := 140) (st_q := [.int 1]) (pm_q37_1 (Nat.le_of_ble_eq_true rfl)) rfl rfl ?_
        have e192 := (F123.cell G (by decide) (by decide) (F99.cell G (by decide) (by decide) (F92.cell G (by decide) (by decide) (F69.cell G (by decide) (by decide) (F59.cell G (by decide) (by decide) (F53.cell G (by decide) (by decide) (F47.cell G (by decide) (by decide) (F41.cell G (by decide) (by decide) (F20.cell G (by decide) (by decide) e2)))))))))
        have e193 := (F123.cell G (by decide) (by decide) (F99.cell G (by decide) (by decide) (F92.cell G (by decide) (by decide) (F69.cell G (by decide) (by decide) (F59.cell G (by decide) (by decide) (F53.cell G (by decide) (by decide) (F47.cell G (by decide) (by decide) (F41.cell G (by decide) (by decide) (F20.cell G (by decide) (by decide) e5)))))))))
        have e194 := (F123.cell G (by decide) (by decide) (F99.cell G (by decide) (by decide) (F92.cell G (by decide) (by decide) (F69.cell G (by decide) (by decide) (F59.cell G (by decide) (by decide) (F53.cell G (by decide) (by decide) (F47.cell G (by decide) (by decide) (F41.cell G (by decide) (by decide) (F20.cell G (by decide) (by decide) e8)))))))))
        exact pm_R_ret pm_M37 (r := some (.int 1)) (pm_q37_1 (Nat.le_of_ble_eq_true rfl)) rfl (K 1 m120 h121 T122 F125 W136 (fun z => ⟨_, _, e193, e194, (R.at (cl_aux67 _ (X22 (cl_aux68 _ _ ek81 (q114 (cl_aux68 _ _ ek135 z)).1)).1) e5 e8).keep (cl_aux3 _ _ ek127) (cl_aux3 _ _ ek129) (cl_aux3 _ _ ek131) (cl_aux3 _ _ ek133)⟩) ⟨_, e192, b3⟩ (sf_weak sf_k1 (by decide) (by decide)))
    · skip
      refine pm_R_op pm_M37 (pc_q := 133) (st_q := [.int 0]) (pm_q37_1 (Nat.le_of_ble_eq_true rfl)) rfl rfl ?_
      have e195 := (F123.cell G (by decide) (by decide) (F99.cell G (by decide) (by decide) (F92.cell G (by decide) (by decide) (F69.cell G (by decide) (by decide) (F59.cell G (by decide) (by decide) (F53.cell G (by decide) (by decide) (F47.cell G (by decide) (by decide) (F41.cell G (by decide) (by decide) (F20.cell G (by decide) (by decide) e2)))))))))
      have e196 := (F123.cell G (by decide) (by decide) (F99.cell G (by decide) (by decide) (F92.cell G (by decide) (by decide) (F69.cell G (by decide) (by decide) (F59.cell G (by decide) (by decide) (F53.cell G (by decide) (by decide) (F47.cell G (by decide) (by decide) (F41.cell G (by decide) (by decide) (F20.cell G (by decide) (by decide) e5)))))))))
      have e197 := (F123.cell G (by decide) (by decide) (F99.cell G (by decide) (by decide) (F92.cell G (by decide) (by decide) (F69.cell G (by decide) (by decide) (F59.cell G (by decide) (by decide) (F53.cell G (by decide) (by decide) (F47.cell G (by decide) (by decide) (F41.cell G (by decide) (by decide) (F20.cell G (by decide) (by decide) e8)))))))))
      exact pm_R_ret pm_M37 (r := some (.int 0)) (pm_q37_1 (Nat.le_of_ble_eq_true rfl)) rfl (K 0 m120 h121 T122 F125 W136 (fun z => ⟨_, _, e196, e197, (R.at (cl_aux67 _ (X22 (cl_aux68 _ _ ek81 (q114 (cl_aux68 _ _ ek135 z)).1)).1) e5 e8).keep (cl_aux3 _ _ ek127) (cl_aux3 _ _ ek129) (cl_aux3 _ _ ek131) (cl_aux3 _ _ ek133)⟩) ⟨_, e195, b3⟩ (sf_weak sf_k0 (by decide) (by decide)))
  · skip
    refine pm_R_op pm_M37 (pc_q := 50) (st_q := [.int 0]) rfl rfl rfl ?_
    have e198 := (F69.cell G (by decide) (by decide) (F59.cell G (by decide) (by decide) (F53.cell G (by decide) (by decide) (F47.cell G (by decide) (by decide) (F41.cell G (by decide) (by decide) (F20.cell G (by decide) (by decide) e2))))))
    have e199 := (F69.cell G (by decide) (by decide) (F59.cell G (by decide) (by decide) (F53.cell G (by decide) (by decide) (F47.cell G (by decide) (by decide) (F41.cell G (by decide) (by decide) (F20.cell G (by decide) (by decide) e5))))))
    have e200 := (F69.cell G (by decide) (by decide) (F59.cell G (by decide) (by decide) (F53.cell G (by decide) (by decide) (F47.cell G (by decide) (by decide) (F41.cell G (by decide) (by decide) (F20.cell G (by decide) (by decide) e8))))))
    exact pm_R_ret pm_M37 (r := some (.int 0)) rfl rfl (K 0 m66 h67 T68 F71 W82 (fun z => ⟨_, _, e199, e200, (R.at (cl_aux67 _ (X22 (cl_aux68 _ _ ek81 z)).1) e5 e8).keep (cl_aux3 _ _ ek73) (cl_aux3 _ _ ek75) (cl_aux3 _ _ ek77) (cl_aux3 _ _ ek79)⟩) ⟨_, e198, b3⟩ (sf_weak sf_k0 (by decide) (by decide)))

theorem cl_aux82 (v0 v1 v2 : Int) (q0 : v0 = v1 + 1) (q1 : v2 = v0) (q2 : v1 < 12) (q3 : 0 ≤ v1) (q4 : v1 ≤ 50) (q5 : 1 ≤ v2) (q6 : v2 ≤ 12) : v1 < 12 := by omega
set_option maxRecDepth 100000 in
set_option maxHeartbeats 4000000 in
/-- SilentTable$TextReader.readSigns -/
theorem cl_c15 {d : Nat} {ck : cl_K} {E : Nat → pm_E} {m : Nat → Int32} {o : Nat → Option Nat} {h : pm_H} {Q : Option Value → pm_H → Prop}  (G : cl_G ck E) (T : cl_T ck E m o h) (R : cl_Rd 1 m h) (Y : cl_Y h) (K : ∀ (r : Int32) (m_q : Nat → Int32) (h_q : pm_H), cl_T ck E m_q o h_q → cl_F ck [25, 26, 30] 0 0 h h_q → rf_W [3, 4, 5, 10, 11, 12, 13] m m_q → cl_Rd 1 m_q h_q → cl_Y h_q → sf_B 0 1 r → Q (some (.int r)) h_q) : pm_R (d + 3) 15 0 [.ref 25, pm_no] [] h Q := by
  obtain ⟨f1, e2, b3⟩ := id Y
  obtain ⟨f4, e5⟩ := T.C 26 (by decide) (by decide)
  obtain ⟨f7, e8⟩ := T.C 27 (by decide) (by decide)
  have B10 : sf_B 0 4 (m 3) := T.B 3
  have B11 : sf_B 0 50 (m 5) := T.B 5
  have B12 : sf_B 0 16 (m 6) := T.B 6
  have B13 : sf_B 0 99 (m 7) := T.B 7
  have B14 : sf_B (-1) 99 (m 8) := T.B 8
  refine pm_R_lo pm_M15 (pc_q := 1) rfl rfl rfl ?_
  refine pm_R_get pm_M15 (pc_q := 4) (v := .ref 30) rfl rfl T.e25 (by decide) (T.lt (by decide)) rfl rfl ?_
  refine pm_R_cv pm_M15 (pc_q := 7) (a := 30) (ra := []) (rest := []) (ls_q := [.ref 30]) rfl rfl (Or.inl rfl) pm_M16 T.e30 rfl (by decide) (T.lt (by decide)) rfl rfl (Nat.le_of_ble_eq_true rfl) rfl rfl ?_
  refine cl_c16 (d := d + 0) G T  (fun m17 h18 T19 F20 W21 => ?_)
  have F22 := (cl_F.refl (ck := ck) (A := [25, 26, 30]) (n := 0) (s := 0) T.1).trans (N := 0) (S := 0) F20 (by decide) (by decide) (by decide)
  have B23 : sf_B 0 4 (m17 3) := by rw [W21 3 (by decide)]; exact B10
  have ek24 : (m17 3).toInt = ((m 3)).toInt := by rw [W21 3 (by decide)]
  have B25 : sf_B 0 50 (m17 5) := by rw [W21 5 (by decide)]; exact B11
  have ek26 : (m17 5).toInt = ((m 5)).toInt := by rw [W21 5 (by decide)]
  have B27 : sf_B 0 16 (m17 6) := by rw [W21 6 (by decide)]; exact B12
  have ek28 : (m17 6).toInt = ((m 6)).toInt := by rw [W21 6 (by decide)]
  have B29 : sf_B 0 99 (m17 7) := by rw [W21 7 (by decide)]; exact B13
  have ek30 : (m17 7).toInt = ((m 7)).toInt := by rw [W21 7 (by decide)]
  have B31 : sf_B (-1) 99 (m17 8) := by rw [W21 8 (by decide)]; exact B14
  have ek32 : (m17 8).toInt = ((m 8)).toInt := by rw [W21 8 (by decide)]
  have W33 : rf_W [3, 4, 5, 10, 11, 12, 13] m m17 := (rf_W.refl [3, 4, 5, 10, 11, 12, 13] m).trans W21 (by decide)
  show pm_R _ 15 7 [.ref 25, pm_no] [] _ _
  refine pm_R_op pm_M15 (pc_q := 8) (st_q := [.int 0]) rfl rfl rfl ?_
  refine pm_R_lo pm_M15 (pc_q := 9) (ls_q := [.ref 25, .int 0]) (st_q := []) rfl rfl rfl ?_
  have L_1941 : ∀ (N : Nat) (h_1941 : pm_H) (m_1941 : Nat → Int32) (x1_1941 : Int32), cl_T ck E m_1941 o h_1941 → cl_F ck [25, 26, 30] 0 0 h h_1941 → rf_W [3, 4, 5, 10, 11, 12, 13] m17 m_1941 → sf_B 0 600 x1_1941 → (cl_Rd 1 m_1941 h_1941 ∧ cl_Y h_1941) → (600 - x1_1941.toInt).toNat = N → pm_R (d + 3) 15 9 [.ref 25, .int x1_1941] [] h_1941 Q := by
    intro N
    induction N using Nat.strongRecOn with
    | ind N ih_1941 =>
      intro h_1941 m_1941 x1_1941 T_1941 F_1941 W_1941 Bx1_1941 X_1941 hN_1941
      have B1944 : sf_B 0 16 (m_1941 6) := by rw [W_1941 6 (by decide)]; exact B27
      have ek1945 : (m_1941 6).toInt = ((m 6)).toInt := by rw [W_1941 6 (by decide)]; exact ek28
      have B1946 : sf_B 0 99 (m_1941 7) := by rw [W_1941 7 (by decide)]; exact B29
      have ek1947 : (m_1941 7).toInt = ((m 7)).toInt := by rw [W_1941 7 (by decide)]; exact ek30
      have B1948 : sf_B (-1) 99 (m_1941 8) := by rw [W_1941 8 (by decide)]; exact B31
      have ek1949 : (m_1941 8).toInt = ((m 8)).toInt := by rw [W_1941 8 (by decide)]; exact ek32
      have W1950 : rf_W [3, 4, 5, 10, 11, 12, 13] m m_1941 := W33.trans W_1941 (by decide)
      obtain ⟨f1951, e1952, b1953⟩ := id X_1941.2
      obtain ⟨f1954, e1955⟩ := T_1941.C 26 (by decide) (by decide)
      obtain ⟨f1957, e1958⟩ := T_1941.C 27 (by decide) (by decide)
      have B1960 : sf_B 0 4 (m_1941 3) := T_1941.B 3
      have B1961 : sf_B 0 50 (m_1941 5) := T_1941.B 5
      refine pm_R_lo pm_M15 (pc_q := 10) rfl rfl rfl ?_
      refine pm_R_op pm_M15 (pc_q := 13) (st_q := [.int 600, .int x1_1941]) rfl rfl rfl ?_
      refine pm_R_icmp pm_M15 (t := 114) (pc_q := 16) rfl rfl rfl (fun c1962 => ?_) (fun c1962 => ?_)
      · have B1963 : sf_B 600 600 x1_1941 := sf_leR c1962 sf_k600 Bx1_1941
        refine pm_R_lo pm_M15 (pc_q := 115) rfl rfl rfl ?_
        refine pm_R_get pm_M15 (pc_q := 118) (v := .ref 30) rfl rfl T_1941.e25 (by decide) (T_1941.lt (by decide)) rfl rfl ?_
        have B1964 : sf_B 0 4 (m_1941 12) := T_1941.B 12
        refine pm_R_get pm_M15 (pc_q := 121) (v := .int (m_1941 12)) rfl rfl T_1941.e30 (by decide) (T_1941.lt (by decide)) rfl rfl ?_
        refine pm_R_ifc pm_M15 (t := 128) (pc_q := 124) rfl rfl rfl (fun c1965 => ?_) (fun c1965 => ?_)
        · have B1966 : sf_B 1 4 (m_1941 12) := sf_neL0 c1965 sf_k0 B1964
          refine pm_R_op pm_M15 (pc_q := 129) (st_q := [.int 0]) (pm_q15_1 (Nat.le_of_ble_eq_true rfl)) rfl rfl ?_
          exact pm_R_ret pm_M15 (r := some (.int 0)) (pm_q15_1 (Nat.le_of_ble_eq_true rfl)) rfl (K 0 m_1941 h_1941 T_1941 F_1941 W1950 (fun z => ⟨_, _, e1955, e1958, (X_1941.1.at (cl_aux67 _ z) e1955 e1958).keep rfl rfl rfl rfl⟩) ⟨_, e1952, b1953⟩ (sf_weak sf_k0 (by decide) (by decide)))
        · have B1967 : sf_B 0 0 (m_1941 12) := sf_eqL (Classical.not_not.mp c1965) sf_k0
          refine pm_R_op pm_M15 (pc_q := 125) (st_q := [.int 1]) rfl rfl rfl ?_
          refine pm_R_br pm_M15 (pc_q := 129) rfl rfl ?_
          exact pm_R_ret pm_M15 (r := some (.int 1)) (pm_q15_1 (Nat.le_of_ble_eq_true rfl)) rfl (K 1 m_1941 h_1941 T_1941 F_1941 W1950 (fun z => ⟨_, _, e1955, e1958, (X_1941.1.at (cl_aux67 _ z) e1955 e1958).keep rfl rfl rfl rfl⟩) ⟨_, e1952, b1953⟩ (sf_weak sf_k1 (by decide) (by decide)))
      · have B1968 : sf_B 0 599 x1_1941 := sf_ltL (Int32.not_le.mp c1962) Bx1_1941 sf_k600
        refine pm_R_lo pm_M15 (pc_q := 17) rfl rfl rfl ?_
        refine pm_R_get pm_M15 (pc_q := 20) (v := .ref 30) rfl rfl T_1941.e25 (by decide) (T_1941.lt (by decide)) rfl rfl ?_
        have B1969 : sf_B 0 4 (m_1941 12) := T_1941.B 12
        refine pm_R_get pm_M15 (pc_q := 23) (v := .int (m_1941 12)) rfl rfl T_1941.e30 (by decide) (T_1941.lt (by decide)) rfl rfl ?_
        refine pm_R_op pm_M15 (pc_q := 24) (st_q := [.int 2, .int (m_1941 12)]) rfl rfl rfl ?_
        refine pm_R_icmp pm_M15 (t := 114) (pc_q := 27) rfl rfl rfl (fun c1970 => ?_) (fun c1970 => ?_)
        · skip
          refine pm_R_lo pm_M15 (pc_q := 115) rfl rfl rfl ?_
          refine pm_R_get pm_M15 (pc_q := 118) (v := .ref 30) rfl rfl T_1941.e25 (by decide) (T_1941.lt (by decide)) rfl rfl ?_
          refine pm_R_get pm_M15 (pc_q := 121) (v := .int (m_1941 12)) rfl rfl T_1941.e30 (by decide) (T_1941.lt (by decide)) rfl rfl ?_
          refine pm_R_ifc pm_M15 (t := 128) (pc_q := 124) rfl rfl rfl (fun c1971 => ?_) (fun c1971 => ?_)
          · have B1972 : sf_B 1 4 (m_1941 12) := sf_neL0 c1971 sf_k0 B1969
            refine pm_R_op pm_M15 (pc_q := 129) (st_q := [.int 0]) (pm_q15_1 (Nat.le_of_ble_eq_true rfl)) rfl rfl ?_
            exact pm_R_ret pm_M15 (r := some (.int 0)) (pm_q15_1 (Nat.le_of_ble_eq_true rfl)) rfl (K 0 m_1941 h_1941 T_1941 F_1941 W1950 (fun z => ⟨_, _, e1955, e1958, (X_1941.1.at (cl_aux67 _ z) e1955 e1958).keep rfl rfl rfl rfl⟩) ⟨_, e1952, b1953⟩ (sf_weak sf_k0 (by decide) (by decide)))
          · have B1973 : sf_B 0 0 (m_1941 12) := sf_eqL (Classical.not_not.mp c1971) sf_k0
            refine pm_R_op pm_M15 (pc_q := 125) (st_q := [.int 1]) rfl rfl rfl ?_
            refine pm_R_br pm_M15 (pc_q := 129) rfl rfl ?_
            exact pm_R_ret pm_M15 (r := some (.int 1)) (pm_q15_1 (Nat.le_of_ble_eq_true rfl)) rfl (K 1 m_1941 h_1941 T_1941 F_1941 W1950 (fun z => ⟨_, _, e1955, e1958, (X_1941.1.at (cl_aux67 _ z) e1955 e1958).keep rfl rfl rfl rfl⟩) ⟨_, e1952, b1953⟩ (sf_weak sf_k1 (by decide) (by decide)))
        · have B1974 : sf_B 2 2 (m_1941 12) := sf_eqL (Classical.not_not.mp c1970) sf_k2
          refine pm_R_lo pm_M15 (pc_q := 28) rfl rfl rfl ?_
          refine pm_R_get pm_M15 (pc_q := 31) (v := .ref 30) rfl rfl T_1941.e25 (by decide) (T_1941.lt (by decide)) rfl rfl ?_
          have B1975 : sf_B 0 99 (m_1941 13) := T_1941.B 13
          refine pm_R_get pm_M15 (pc_q := 34) (v := .int (m_1941 13)) rfl rfl T_1941.e30 (by decide) (T_1941.lt (by decide)) rfl rfl ?_
          refine pm_R_op pm_M15 (pc_q := 36) (st_q := [.int 10, .int (m_1941 13)]) rfl rfl rfl ?_
          refine pm_R_icmp pm_M15 (t := 51) (pc_q := 39) rfl rfl rfl (fun c1976 => ?_) (fun c1976 => ?_)
          · have B1977 : sf_B 0 9 (m_1941 13) := sf_ltL c1976 B1975 sf_k10
            refine pm_R_lo pm_M15 (pc_q := 52) rfl rfl rfl ?_
            refine pm_R_get pm_M15 (pc_q := 55) (v := .int (m_1941 5)) rfl rfl T_1941.e25 (by decide) (T_1941.lt (by decide)) rfl rfl ?_
            refine pm_R_op pm_M15 (pc_q := 57) (st_q := [.int 12, .int (m_1941 5)]) rfl rfl rfl ?_
            refine pm_R_icmp pm_M15 (t := 75) (pc_q := 60) rfl rfl rfl (fun c1978 => ?_) (fun c1978 => ?_)
            · have B1979 : sf_B 0 11 (m_1941 5) := sf_ltL c1978 B1961 sf_k12
              refine pm_R_lo pm_M15 (pc_q := 76) rfl rfl rfl ?_
              refine pm_R_get pm_M15 (pc_q := 79) (v := .ref 26) rfl rfl T_1941.e25 (by decide) (T_1941.lt (by decide)) rfl rfl ?_
              refine pm_R_lo pm_M15 (pc_q := 80) rfl rfl rfl ?_
              refine pm_R_get pm_M15 (pc_q := 83) (v := .int (m_1941 5)) rfl rfl T_1941.e25 (by decide) (T_1941.lt (by decide)) rfl rfl ?_
              refine pm_R_lo pm_M15 (pc_q := 84) rfl rfl rfl ?_
              refine pm_R_get pm_M15 (pc_q := 87) (v := .ref 30) rfl rfl T_1941.e25 (by decide) (T_1941.lt (by decide)) rfl rfl ?_
              refine pm_R_get pm_M15 (pc_q := 90) (v := .int (m_1941 13)) rfl rfl T_1941.e30 (by decide) (T_1941.lt (by decide)) rfl rfl ?_
              refine cl_R_ist G pm_M15 T_1941 (pc_q := 91) rfl e1955 (by decide) ⟨_, rfl⟩ (sf_in B1979 (by decide) (by decide)) rfl (fun h1980 T1981 F1982 e1983 => ?_)
              have F1984 := F1982.cl (ck := ck) T_1941.1
              have F1985 := F_1941.trans (N := 0) (S := 0) F1984 (by decide) (by decide) (by decide)
              refine pm_R_lo pm_M15 (pc_q := 92) rfl rfl rfl ?_
              refine pm_R_op pm_M15 (pc_q := 93) (st_q := [.ref 25, .ref 25]) rfl rfl rfl ?_
              refine pm_R_get pm_M15 (pc_q := 96) (v := .int (m_1941 5)) rfl rfl T1981.e25 (by decide) (T1981.lt (by decide)) rfl rfl ?_
              refine pm_R_op pm_M15 (pc_q := 97) (st_q := [.int 1, .int (m_1941 5), .ref 25]) rfl rfl rfl ?_
              refine sf_R_iadd pm_M15 (pc_q := 98) rfl rfl B1979 sf_k1 (by decide) (by decide) (fun z1986 e1987 B1988 => ?_)
              refine cl_R_put25 G pm_M15 T1981 (k := 5) (pc_q := 101) rfl rfl rfl (by decide) rfl rfl (sf_weak B1988 (by decide) (by decide)) rfl rfl rfl rfl rfl (fun h1989 m1992 em1993 T1990 F1991 => ?_)
              have F1994 := F1991.cl (ck := ck) T1981.1
              have F1995 := F1985.trans (N := 0) (S := 0) F1994 (by decide) (by decide) (by decide)
              have B1996 : sf_B 0 16 (m1992 6) := by rw [em1993]; exact B1944
              have ek1997 : (m1992 6).toInt = ((m_1941 6)).toInt := by rw [em1993]; rfl
              have B1998 : sf_B 0 99 (m1992 7) := by rw [em1993]; exact B1946
              have ek1999 : (m1992 7).toInt = ((m_1941 7)).toInt := by rw [em1993]; rfl
              have B2000 : sf_B (-1) 99 (m1992 8) := by rw [em1993]; exact B1948
              have ek2001 : (m1992 8).toInt = ((m_1941 8)).toInt := by rw [em1993]; rfl
              have B2002 : sf_B 0 4 (m1992 3) := by rw [em1993]; exact B1960
              have ek2003 : (m1992 3).toInt = ((m_1941 3)).toInt := by rw [em1993]; rfl
              have B2004 : sf_B 2 2 (m1992 12) := by rw [em1993]; exact B1974
              have B2005 : sf_B 0 9 (m1992 13) := by rw [em1993]; exact B1977
              have B2006 : sf_B 1 12 (m1992 5) := by rw [em1993]; exact B1988
              have ek2007 : (m1992 5).toInt = (z1986).toInt := by rw [em1993]; rfl
              have W2008 : rf_W [3, 4, 5, 10, 11, 12, 13] m m1992 := by rw [em1993]; exact W1950.put (by decide)
              have W2009 : rf_W [3, 4, 5, 10, 11, 12, 13] m17 m1992 := by rw [em1993]; exact W_1941.put (by decide)
              refine pm_R_lo pm_M15 (pc_q := 102) rfl rfl rfl ?_
              refine pm_R_get pm_M15 (pc_q := 105) (v := .ref 30) rfl rfl T1990.e25 (by decide) (T1990.lt (by decide)) rfl rfl ?_
              refine pm_R_cv pm_M15 (pc_q := 108) (a := 30) (ra := []) (rest := []) (ls_q := [.ref 30]) rfl rfl (Or.inl rfl) pm_M16 T1990.e30 rfl (by decide) (T1990.lt (by decide)) rfl rfl (Nat.le_of_ble_eq_true rfl) rfl rfl ?_
              refine cl_c16 (d := d + 0) G T1990  (fun m2012 h2013 T2014 F2015 W2016 => ?_)
              have F2017 := F1995.trans (N := 0) (S := 0) F2015 (by decide) (by decide) (by decide)
              have B2018 : sf_B 0 16 (m2012 6) := by rw [W2016 6 (by decide)]; exact B1996
              have ek2019 : (m2012 6).toInt = ((m_1941 6)).toInt := by rw [W2016 6 (by decide)]; exact ek1997
              have B2020 : sf_B 0 99 (m2012 7) := by rw [W2016 7 (by decide)]; exact B1998
              have ek2021 : (m2012 7).toInt = ((m_1941 7)).toInt := by rw [W2016 7 (by decide)]; exact ek1999
              have B2022 : sf_B (-1) 99 (m2012 8) := by rw [W2016 8 (by decide)]; exact B2000
              have ek2023 : (m2012 8).toInt = ((m_1941 8)).toInt := by rw [W2016 8 (by decide)]; exact ek2001
              have B2024 : sf_B 0 4 (m2012 3) := by rw [W2016 3 (by decide)]; exact B2002
              have ek2025 : (m2012 3).toInt = ((m_1941 3)).toInt := by rw [W2016 3 (by decide)]; exact ek2003
              have B2026 : sf_B 1 12 (m2012 5) := by rw [W2016 5 (by decide)]; exact B2006
              have ek2027 : (m2012 5).toInt = (z1986).toInt := by rw [W2016 5 (by decide)]; exact ek2007
              have W2028 : rf_W [3, 4, 5, 10, 11, 12, 13] m m2012 := W2008.trans W2016 (by decide)
              have W2029 : rf_W [3, 4, 5, 10, 11, 12, 13] m17 m2012 := W2009.trans W2016 (by decide)
              show pm_R _ 15 108 [.ref 25, .int x1_1941] [] _ _
              refine sf_R_iinc pm_M15 (pc_q := 111) (ls_q := fun z => [.ref 25, .int z]) rfl B1968 rfl (by decide) (by decide) (by decide) (fun _ => rfl) rfl (fun z2030 e2031 B2032 => ?_)
              show pm_R _ 15 111 [.ref 25, .int z2030] [] _ _
              refine pm_R_br pm_M15 (pc_q := 9) rfl rfl ?_
              have e2033 := (F2015.cell G (by decide) (by decide) (F1994.cell G (by decide) (by decide) e1983))
              have e2034 := (F2015.cell G (by decide) (by decide) (F1994.cell G (by decide) (by decide) (F1984.cell G (by decide) (by decide) e1958)))
              have e2035 := (F2015.cell G (by decide) (by decide) (F1994.cell G (by decide) (by decide) (F1984.cell G (by decide) (by decide) e1952)))
              exact ih_1941 _ (sf_up hN_1941 e2031 B1968 (by decide) (by decide)) h2013 m2012 z2030 T2014 F2017 W2029 (sf_weak B2032 (by decide) (by decide)) ⟨(fun z => ⟨_, _, e2033, e2034, (X_1941.1.at (cl_aux68 _ _ ek2025 z) e1955 e1958).row (cl_aux82 _ _ _ e1987 ek2027 (Int32.lt_iff_toInt_lt.mp c1978) B1961.1 B1961.2 B2026.1 B2026.2) ((cl_tnI (Int.le_trans (by decide) B1979.1)).trans rfl) B1977 (cl_aux25 _ _ _ e1987 ek2027)⟩), ⟨_, e2035, b1953⟩⟩ rfl
            · have B2036 : sf_B 12 50 (m_1941 5) := sf_leR (Int32.not_lt.mp c1978) sf_k12 B1961
              refine pm_R_lo pm_M15 (pc_q := 61) rfl rfl rfl ?_
              refine pm_R_op pm_M15 (pc_q := 62) (st_q := [.int 3, .ref 25]) rfl rfl rfl ?_
              refine pm_R_lo pm_M15 (pc_q := 63) rfl rfl rfl ?_
              refine pm_R_get pm_M15 (pc_q := 66) (v := .ref 30) rfl rfl T_1941.e25 (by decide) (T_1941.lt (by decide)) rfl rfl ?_
              have B2037 : sf_B 0 600 (m_1941 11) := T_1941.B 11
              refine pm_R_get pm_M15 (pc_q := 69) (v := .int (m_1941 11)) rfl rfl T_1941.e30 (by decide) (T_1941.lt (by decide)) rfl rfl ?_
              refine pm_R_cv pm_M15 (pc_q := 72) (a := 25) (ra := [.int (m_1941 11), .int 3]) (rest := []) (ls_q := [.ref 25, .int 3, .int (m_1941 11)]) rfl rfl (Or.inl rfl) pm_M21 T_1941.e25 rfl (by decide) (T_1941.lt (by decide)) rfl rfl (Nat.le_of_ble_eq_true rfl) rfl rfl ?_
              refine pm_R_lo pm_M21 (pc_q := 1) rfl rfl rfl ?_
              refine pm_R_get pm_M21 (pc_q := 4) (v := .int (m_1941 3)) rfl rfl T_1941.e25 (by decide) (T_1941.lt (by decide)) rfl rfl ?_
              refine pm_R_ifc pm_M21 (t := 17) (pc_q := 7) rfl rfl rfl (fun c2038 => ?_) (fun c2038 => ?_)
              · have B2039 : sf_B 1 4 (m_1941 3) := sf_neL0 c2038 sf_k0 B1960
                refine pm_R_ret pm_M21 (r := none) rfl rfl ?_
                show pm_R _ 15 72 [.ref 25, .int x1_1941] [] _ _
                refine pm_R_br pm_M15 (pc_q := 101) rfl rfl ?_
                refine pm_R_lo pm_M15 (pc_q := 102) rfl rfl rfl ?_
                refine pm_R_get pm_M15 (pc_q := 105) (v := .ref 30) rfl rfl T_1941.e25 (by decide) (T_1941.lt (by decide)) rfl rfl ?_
                refine pm_R_cv pm_M15 (pc_q := 108) (a := 30) (ra := []) (rest := []) (ls_q := [.ref 30]) rfl rfl (Or.inl rfl) pm_M16 T_1941.e30 rfl (by decide) (T_1941.lt (by decide)) rfl rfl (Nat.le_of_ble_eq_true rfl) rfl rfl ?_
                refine cl_c16 (d := d + 0) G T_1941  (fun m2042 h2043 T2044 F2045 W2046 => ?_)
                have F2047 := F_1941.trans (N := 0) (S := 0) F2045 (by decide) (by decide) (by decide)
                have B2048 : sf_B 0 16 (m2042 6) := by rw [W2046 6 (by decide)]; exact B1944
                have ek2049 : (m2042 6).toInt = ((m_1941 6)).toInt := by rw [W2046 6 (by decide)]
                have B2050 : sf_B 0 99 (m2042 7) := by rw [W2046 7 (by decide)]; exact B1946
                have ek2051 : (m2042 7).toInt = ((m_1941 7)).toInt := by rw [W2046 7 (by decide)]
                have B2052 : sf_B (-1) 99 (m2042 8) := by rw [W2046 8 (by decide)]; exact B1948
                have ek2053 : (m2042 8).toInt = ((m_1941 8)).toInt := by rw [W2046 8 (by decide)]
                have B2054 : sf_B 1 4 (m2042 3) := by rw [W2046 3 (by decide)]; exact B2039
                have ek2055 : (m2042 3).toInt = ((m_1941 3)).toInt := by rw [W2046 3 (by decide)]
                have B2056 : sf_B 12 50 (m2042 5) := by rw [W2046 5 (by decide)]; exact B2036
                have ek2057 : (m2042 5).toInt = ((m_1941 5)).toInt := by rw [W2046 5 (by decide)]
                have W2058 : rf_W [3, 4, 5, 10, 11, 12, 13] m m2042 := W1950.trans W2046 (by decide)
                have W2059 : rf_W [3, 4, 5, 10, 11, 12, 13] m17 m2042 := W_1941.trans W2046 (by decide)
                show pm_R _ 15 108 [.ref 25, .int x1_1941] [] _ _
                refine sf_R_iinc pm_M15 (pc_q := 111) (ls_q := fun z => [.ref 25, .int z]) rfl B1968 rfl (by decide) (by decide) (by decide) (fun _ => rfl) rfl (fun z2060 e2061 B2062 => ?_)
                show pm_R _ 15 111 [.ref 25, .int z2060] [] _ _
                refine pm_R_br pm_M15 (pc_q := 9) rfl rfl ?_
                have e2063 := (F2045.cell G (by decide) (by decide) e1955)
                have e2064 := (F2045.cell G (by decide) (by decide) e1952)
                exact ih_1941 _ (sf_up hN_1941 e2061 B1968 (by decide) (by decide)) h2043 m2042 z2060 T2044 F2047 W2059 (sf_weak B2062 (by decide) (by decide)) ⟨(fun z => sf_pos B2054 (by decide) z), ⟨_, e2064, b1953⟩⟩ rfl
              · have B2065 : sf_B 0 0 (m_1941 3) := sf_eqL (Classical.not_not.mp c2038) sf_k0
                refine pm_R_lo pm_M21 (pc_q := 8) rfl rfl rfl ?_
                refine pm_R_lo pm_M21 (pc_q := 9) rfl rfl rfl ?_
                refine cl_R_put25 G pm_M21 T_1941 (k := 3) (pc_q := 12) rfl rfl rfl (by decide) rfl rfl (sf_weak sf_k3 (by decide) (by decide)) rfl rfl rfl rfl rfl (fun h2066 m2069 em2070 T2067 F2068 => ?_)
                have F2071 := F2068.cl (ck := ck) T_1941.1
                have F2072 := F_1941.trans (N := 0) (S := 0) F2071 (by decide) (by decide) (by decide)
                have B2073 : sf_B 0 16 (m2069 6) := by rw [em2070]; exact B1944
                have ek2074 : (m2069 6).toInt = ((m_1941 6)).toInt := by rw [em2070]; rfl
                have B2075 : sf_B 0 99 (m2069 7) := by rw [em2070]; exact B1946
                have ek2076 : (m2069 7).toInt = ((m_1941 7)).toInt := by rw [em2070]; rfl
                have B2077 : sf_B (-1) 99 (m2069 8) := by rw [em2070]; exact B1948
                have ek2078 : (m2069 8).toInt = ((m_1941 8)).toInt := by rw [em2070]; rfl
                have B2079 : sf_B 12 50 (m2069 5) := by rw [em2070]; exact B2036
                have ek2080 : (m2069 5).toInt = ((m_1941 5)).toInt := by rw [em2070]; rfl
                have B2081 : sf_B 2 2 (m2069 12) := by rw [em2070]; exact B1974
                have B2082 : sf_B 0 9 (m2069 13) := by rw [em2070]; exact B1977
                have B2083 : sf_B 3 3 (m2069 3) := by rw [em2070]; exact sf_k3
                have W2085 : rf_W [3, 4, 5, 10, 11, 12, 13] m m2069 := by rw [em2070]; exact W1950.put (by decide)
                have W2086 : rf_W [3, 4, 5, 10, 11, 12, 13] m17 m2069 := by rw [em2070]; exact W_1941.put (by decide)
                refine pm_R_lo pm_M21 (pc_q := 13) rfl rfl rfl ?_
                refine pm_R_lo pm_M21 (pc_q := 14) rfl rfl rfl ?_
                refine cl_R_put25 G pm_M21 T2067 (k := 4) (pc_q := 17) rfl rfl rfl (by decide) rfl rfl (sf_weak B2037 (by decide) (by decide)) rfl rfl rfl rfl rfl (fun h2087 m2090 em2091 T2088 F2089 => ?_)
                have F2092 := F2089.cl (ck := ck) T2067.1
                have F2093 := F2072.trans (N := 0) (S := 0) F2092 (by decide) (by decide) (by decide)
                have B2094 : sf_B 0 16 (m2090 6) := by rw [em2091]; exact B2073
                have ek2095 : (m2090 6).toInt = ((m_1941 6)).toInt := by rw [em2091]; exact ek2074
                have B2096 : sf_B 0 99 (m2090 7) := by rw [em2091]; exact B2075
                have ek2097 : (m2090 7).toInt = ((m_1941 7)).toInt := by rw [em2091]; exact ek2076
                have B2098 : sf_B (-1) 99 (m2090 8) := by rw [em2091]; exact B2077
                have ek2099 : (m2090 8).toInt = ((m_1941 8)).toInt := by rw [em2091]; exact ek2078
                have B2100 : sf_B 12 50 (m2090 5) := by rw [em2091]; exact B2079
                have ek2101 : (m2090 5).toInt = ((m_1941 5)).toInt := by rw [em2091]; exact ek2080
                have B2102 : sf_B 2 2 (m2090 12) := by rw [em2091]; exact B2081
                have B2103 : sf_B 0 9 (m2090 13) := by rw [em2091]; exact B2082
                have B2104 : sf_B 3 3 (m2090 3) := by rw [em2091]; exact B2083
                have ek2105 : (m2090 3).toInt = ((m2069 3)).toInt := by rw [em2091]; rfl
                have B2106 : sf_B 0 600 (m2090 4) := by rw [em2091]; exact B2037
                have ek2107 : (m2090 4).toInt = ((m_1941 11)).toInt := by rw [em2091]; rfl
                have W2108 : rf_W [3, 4, 5, 10, 11, 12, 13] m m2090 := by rw [em2091]; exact W2085.put (by decide)
                have W2109 : rf_W [3, 4, 5, 10, 11, 12, 13] m17 m2090 := by rw [em2091]; exact W2086.put (by decide)
                refine pm_R_ret pm_M21 (r := none) rfl rfl ?_
                show pm_R _ 15 72 [.ref 25, .int x1_1941] [] _ _
                refine pm_R_br pm_M15 (pc_q := 101) rfl rfl ?_
                refine pm_R_lo pm_M15 (pc_q := 102) rfl rfl rfl ?_
                refine pm_R_get pm_M15 (pc_q := 105) (v := .ref 30) rfl rfl T2088.e25 (by decide) (T2088.lt (by decide)) rfl rfl ?_
                refine pm_R_cv pm_M15 (pc_q := 108) (a := 30) (ra := []) (rest := []) (ls_q := [.ref 30]) rfl rfl (Or.inl rfl) pm_M16 T2088.e30 rfl (by decide) (T2088.lt (by decide)) rfl rfl (Nat.le_of_ble_eq_true rfl) rfl rfl ?_
                refine cl_c16 (d := d + 0) G T2088  (fun m2112 h2113 T2114 F2115 W2116 => ?_)
                have F2117 := F2093.trans (N := 0) (S := 0) F2115 (by decide) (by decide) (by decide)
                have B2118 : sf_B 0 16 (m2112 6) := by rw [W2116 6 (by decide)]; exact B2094
                have ek2119 : (m2112 6).toInt = ((m_1941 6)).toInt := by rw [W2116 6 (by decide)]; exact ek2095
                have B2120 : sf_B 0 99 (m2112 7) := by rw [W2116 7 (by decide)]; exact B2096
                have ek2121 : (m2112 7).toInt = ((m_1941 7)).toInt := by rw [W2116 7 (by decide)]; exact ek2097
                have B2122 : sf_B (-1) 99 (m2112 8) := by rw [W2116 8 (by decide)]; exact B2098
                have ek2123 : (m2112 8).toInt = ((m_1941 8)).toInt := by rw [W2116 8 (by decide)]; exact ek2099
                have B2124 : sf_B 12 50 (m2112 5) := by rw [W2116 5 (by decide)]; exact B2100
                have ek2125 : (m2112 5).toInt = ((m_1941 5)).toInt := by rw [W2116 5 (by decide)]; exact ek2101
                have B2126 : sf_B 3 3 (m2112 3) := by rw [W2116 3 (by decide)]; exact B2104
                have ek2127 : (m2112 3).toInt = ((m2069 3)).toInt := by rw [W2116 3 (by decide)]; exact ek2105
                have B2128 : sf_B 0 600 (m2112 4) := by rw [W2116 4 (by decide)]; exact B2106
                have ek2129 : (m2112 4).toInt = ((m_1941 11)).toInt := by rw [W2116 4 (by decide)]; exact ek2107
                have W2130 : rf_W [3, 4, 5, 10, 11, 12, 13] m m2112 := W2108.trans W2116 (by decide)
                have W2131 : rf_W [3, 4, 5, 10, 11, 12, 13] m17 m2112 := W2109.trans W2116 (by decide)
                show pm_R _ 15 108 [.ref 25, .int x1_1941] [] _ _
                refine sf_R_iinc pm_M15 (pc_q := 111) (ls_q := fun z => [.ref 25, .int z]) rfl B1968 rfl (by decide) (by decide) (by decide) (fun _ => rfl) rfl (fun z2132 e2133 B2134 => ?_)
                show pm_R _ 15 111 [.ref 25, .int z2132] [] _ _
                refine pm_R_br pm_M15 (pc_q := 9) rfl rfl ?_
                have e2135 := (F2115.cell G (by decide) (by decide) (F2092.cell G (by decide) (by decide) (F2071.cell G (by decide) (by decide) e1955)))
                have e2136 := (F2115.cell G (by decide) (by decide) (F2092.cell G (by decide) (by decide) (F2071.cell G (by decide) (by decide) e1952)))
                exact ih_1941 _ (sf_up hN_1941 e2133 B1968 (by decide) (by decide)) h2113 m2112 z2132 T2114 F2117 W2131 (sf_weak B2134 (by decide) (by decide)) ⟨(fun z => sf_pos B2126 (by decide) z), ⟨_, e2136, b1953⟩⟩ rfl
          · have B2137 : sf_B 10 99 (m_1941 13) := sf_leR (Int32.not_lt.mp c1976) sf_k10 B1975
            refine pm_R_lo pm_M15 (pc_q := 40) rfl rfl rfl ?_
            refine pm_R_op pm_M15 (pc_q := 41) (st_q := [.int 2, .ref 25]) rfl rfl rfl ?_
            refine pm_R_lo pm_M15 (pc_q := 42) rfl rfl rfl ?_
            refine pm_R_get pm_M15 (pc_q := 45) (v := .ref 30) rfl rfl T_1941.e25 (by decide) (T_1941.lt (by decide)) rfl rfl ?_
            have B2138 : sf_B 0 600 (m_1941 11) := T_1941.B 11
            refine pm_R_get pm_M15 (pc_q := 48) (v := .int (m_1941 11)) rfl rfl T_1941.e30 (by decide) (T_1941.lt (by decide)) rfl rfl ?_
            refine pm_R_cv pm_M15 (pc_q := 51) (a := 25) (ra := [.int (m_1941 11), .int 2]) (rest := []) (ls_q := [.ref 25, .int 2, .int (m_1941 11)]) rfl rfl (Or.inl rfl) pm_M21 T_1941.e25 rfl (by decide) (T_1941.lt (by decide)) rfl rfl (Nat.le_of_ble_eq_true rfl) rfl rfl ?_
            refine pm_R_lo pm_M21 (pc_q := 1) rfl rfl rfl ?_
            refine pm_R_get pm_M21 (pc_q := 4) (v := .int (m_1941 3)) rfl rfl T_1941.e25 (by decide) (T_1941.lt (by decide)) rfl rfl ?_
            refine pm_R_ifc pm_M21 (t := 17) (pc_q := 7) rfl rfl rfl (fun c2139 => ?_) (fun c2139 => ?_)
            · have B2140 : sf_B 1 4 (m_1941 3) := sf_neL0 c2139 sf_k0 B1960
              refine pm_R_ret pm_M21 (r := none) rfl rfl ?_
              show pm_R _ 15 51 [.ref 25, .int x1_1941] [] _ _
              refine pm_R_lo pm_M15 (pc_q := 52) rfl rfl rfl ?_
              refine pm_R_get pm_M15 (pc_q := 55) (v := .int (m_1941 5)) rfl rfl T_1941.e25 (by decide) (T_1941.lt (by decide)) rfl rfl ?_
              refine pm_R_op pm_M15 (pc_q := 57) (st_q := [.int 12, .int (m_1941 5)]) rfl rfl rfl ?_
              refine pm_R_icmp pm_M15 (t := 75) (pc_q := 60) rfl rfl rfl (fun c2141 => ?_) (fun c2141 => ?_)
              · have B2142 : sf_B 0 11 (m_1941 5) := sf_ltL c2141 B1961 sf_k12
                refine pm_R_lo pm_M15 (pc_q := 76) rfl rfl rfl ?_
                refine pm_R_get pm_M15 (pc_q := 79) (v := .ref 26) rfl rfl T_1941.e25 (by decide) (T_1941.lt (by decide)) rfl rfl ?_
                refine pm_R_lo pm_M15 (pc_q := 80) rfl rfl rfl ?_
                refine pm_R_get pm_M15 (pc_q := 83) (v := .int (m_1941 5)) rfl rfl T_1941.e25 (by decide) (T_1941.lt (by decide)) rfl rfl ?_
                refine pm_R_lo pm_M15 (pc_q := 84) rfl rfl rfl ?_
                refine pm_R_get pm_M15 (pc_q := 87) (v := .ref 30) rfl rfl T_1941.e25 (by decide) (T_1941.lt (by decide)) rfl rfl ?_
                refine pm_R_get pm_M15 (pc_q := 90) (v := .int (m_1941 13)) rfl rfl T_1941.e30 (by decide) (T_1941.lt (by decide)) rfl rfl ?_
                refine cl_R_ist G pm_M15 T_1941 (pc_q := 91) rfl e1955 (by decide) ⟨_, rfl⟩ (sf_in B2142 (by decide) (by decide)) rfl (fun h2143 T2144 F2145 e2146 => ?_)
                have F2147 := F2145.cl (ck := ck) T_1941.1
                have F2148 := F_1941.trans (N := 0) (S := 0) F2147 (by decide) (by decide) (by decide)
                refine pm_R_lo pm_M15 (pc_q := 92) rfl rfl rfl ?_
                refine pm_R_op pm_M15 (pc_q := 93) (st_q := [.ref 25, .ref 25]) rfl rfl rfl ?_
                refine pm_R_get pm_M15 (pc_q := 96) (v := .int (m_1941 5)) rfl rfl T2144.e25 (by decide) (T2144.lt (by decide)) rfl rfl ?_
                refine pm_R_op pm_M15 (pc_q := 97) (st_q := [.int 1, .int (m_1941 5), .ref 25]) rfl rfl rfl ?_
                refine sf_R_iadd pm_M15 (pc_q := 98) rfl rfl B2142 sf_k1 (by decide) (by decide) (fun z2149 e2150 B2151 => ?_)
                refine cl_R_put25 G pm_M15 T2144 (k := 5) (pc_q := 101) rfl rfl rfl (by decide) rfl rfl (sf_weak B2151 (by decide) (by decide)) rfl rfl rfl rfl rfl (fun h2152 m2155 em2156 T2153 F2154 => ?_)
                have F2157 := F2154.cl (ck := ck) T2144.1
                have F2158 := F2148.trans (N := 0) (S := 0) F2157 (by decide) (by decide) (by decide)
                have B2159 : sf_B 0 16 (m2155 6) := by rw [em2156]; exact B1944
                have ek2160 : (m2155 6).toInt = ((m_1941 6)).toInt := by rw [em2156]; rfl
                have B2161 : sf_B 0 99 (m2155 7) := by rw [em2156]; exact B1946
                have ek2162 : (m2155 7).toInt = ((m_1941 7)).toInt := by rw [em2156]; rfl
                have B2163 : sf_B (-1) 99 (m2155 8) := by rw [em2156]; exact B1948
                have ek2164 : (m2155 8).toInt = ((m_1941 8)).toInt := by rw [em2156]; rfl
                have B2165 : sf_B 1 4 (m2155 3) := by rw [em2156]; exact B2140
                have ek2166 : (m2155 3).toInt = ((m_1941 3)).toInt := by rw [em2156]; rfl
                have B2167 : sf_B 2 2 (m2155 12) := by rw [em2156]; exact B1974
                have B2168 : sf_B 10 99 (m2155 13) := by rw [em2156]; exact B2137
                have B2169 : sf_B 1 12 (m2155 5) := by rw [em2156]; exact B2151
                have ek2170 : (m2155 5).toInt = (z2149).toInt := by rw [em2156]; rfl
                have W2171 : rf_W [3, 4, 5, 10, 11, 12, 13] m m2155 := by rw [em2156]; exact W1950.put (by decide)
                have W2172 : rf_W [3, 4, 5, 10, 11, 12, 13] m17 m2155 := by rw [em2156]; exact W_1941.put (by decide)
                refine pm_R_lo pm_M15 (pc_q := 102) rfl rfl rfl ?_
                refine pm_R_get pm_M15 (pc_q := 105) (v := .ref 30) rfl rfl T2153.e25 (by decide) (T2153.lt (by decide)) rfl rfl ?_
                refine pm_R_cv pm_M15 (pc_q := 108) (a := 30) (ra := []) (rest := []) (ls_q := [.ref 30]) rfl rfl (Or.inl rfl) pm_M16 T2153.e30 rfl (by decide) (T2153.lt (by decide)) rfl rfl (Nat.le_of_ble_eq_true rfl) rfl rfl ?_
                refine cl_c16 (d := d + 0) G T2153  (fun m2175 h2176 T2177 F2178 W2179 => ?_)
                have F2180 := F2158.trans (N := 0) (S := 0) F2178 (by decide) (by decide) (by decide)
                have B2181 : sf_B 0 16 (m2175 6) := by rw [W2179 6 (by decide)]; exact B2159
                have ek2182 : (m2175 6).toInt = ((m_1941 6)).toInt := by rw [W2179 6 (by decide)]; exact ek2160
                have B2183 : sf_B 0 99 (m2175 7) := by rw [W2179 7 (by decide)]; exact B2161
                have ek2184 : (m2175 7).toInt = ((m_1941 7)).toInt := by rw [W2179 7 (by decide)]; exact ek2162
                have B2185 : sf_B (-1) 99 (m2175 8) := by rw [W2179 8 (by decide)]; exact B2163
                have ek2186 : (m2175 8).toInt = ((m_1941 8)).toInt := by rw [W2179 8 (by decide)]; exact ek2164
                have B2187 : sf_B 1 4 (m2175 3) := by rw [W2179 3 (by decide)]; exact B2165
                have ek2188 : (m2175 3).toInt = ((m_1941 3)).toInt := by rw [W2179 3 (by decide)]; exact ek2166
                have B2189 : sf_B 1 12 (m2175 5) := by rw [W2179 5 (by decide)]; exact B2169
                have ek2190 : (m2175 5).toInt = (z2149).toInt := by rw [W2179 5 (by decide)]; exact ek2170
                have W2191 : rf_W [3, 4, 5, 10, 11, 12, 13] m m2175 := W2171.trans W2179 (by decide)
                have W2192 : rf_W [3, 4, 5, 10, 11, 12, 13] m17 m2175 := W2172.trans W2179 (by decide)
                show pm_R _ 15 108 [.ref 25, .int x1_1941] [] _ _
                refine sf_R_iinc pm_M15 (pc_q := 111) (ls_q := fun z => [.ref 25, .int z]) rfl B1968 rfl (by decide) (by decide) (by decide) (fun _ => rfl) rfl (fun z2193 e2194 B2195 => ?_)
                show pm_R _ 15 111 [.ref 25, .int z2193] [] _ _
                refine pm_R_br pm_M15 (pc_q := 9) rfl rfl ?_
                have e2196 := (F2178.cell G (by decide) (by decide) (F2157.cell G (by decide) (by decide) e2146))
                have e2197 := (F2178.cell G (by decide) (by decide) (F2157.cell G (by decide) (by decide) (F2147.cell G (by decide) (by decide) e1952)))
                exact ih_1941 _ (sf_up hN_1941 e2194 B1968 (by decide) (by decide)) h2176 m2175 z2193 T2177 F2180 W2192 (sf_weak B2195 (by decide) (by decide)) ⟨(fun z => sf_pos B2187 (by decide) z), ⟨_, e2197, b1953⟩⟩ rfl
              · have B2198 : sf_B 12 50 (m_1941 5) := sf_leR (Int32.not_lt.mp c2141) sf_k12 B1961
                refine pm_R_lo pm_M15 (pc_q := 61) rfl rfl rfl ?_
                refine pm_R_op pm_M15 (pc_q := 62) (st_q := [.int 3, .ref 25]) rfl rfl rfl ?_
                refine pm_R_lo pm_M15 (pc_q := 63) rfl rfl rfl ?_
                refine pm_R_get pm_M15 (pc_q := 66) (v := .ref 30) rfl rfl T_1941.e25 (by decide) (T_1941.lt (by decide)) rfl rfl ?_
                refine pm_R_get pm_M15 (pc_q := 69) (v := .int (m_1941 11)) rfl rfl T_1941.e30 (by decide) (T_1941.lt (by decide)) rfl rfl ?_
                refine pm_R_cv pm_M15 (pc_q := 72) (a := 25) (ra := [.int (m_1941 11), .int 3]) (rest := []) (ls_q := [.ref 25, .int 3, .int (m_1941 11)]) rfl rfl (Or.inl rfl) pm_M21 T_1941.e25 rfl (by decide) (T_1941.lt (by decide)) rfl rfl (Nat.le_of_ble_eq_true rfl) rfl rfl ?_
                refine pm_R_lo pm_M21 (pc_q := 1) rfl rfl rfl ?_
                refine pm_R_get pm_M21 (pc_q := 4) (v := .int (m_1941 3)) rfl rfl T_1941.e25 (by decide) (T_1941.lt (by decide)) rfl rfl ?_
                refine pm_R_ifc pm_M21 (t := 17) (pc_q := 7) rfl rfl rfl (fun c2199 => ?_) (fun c2199 => absurd (Classical.not_not.mp c2199) (sf_neq1 B2140 sf_k0 (by decide)))
                skip
                refine pm_R_ret pm_M21 (r := none) rfl rfl ?_
                show pm_R _ 15 72 [.ref 25, .int x1_1941] [] _ _
                refine pm_R_br pm_M15 (pc_q := 101) rfl rfl ?_
                refine pm_R_lo pm_M15 (pc_q := 102) rfl rfl rfl ?_
                refine pm_R_get pm_M15 (pc_q := 105) (v := .ref 30) rfl rfl T_1941.e25 (by decide) (T_1941.lt (by decide)) rfl rfl ?_
                refine pm_R_cv pm_M15 (pc_q := 108) (a := 30) (ra := []) (rest := []) (ls_q := [.ref 30]) rfl rfl (Or.inl rfl) pm_M16 T_1941.e30 rfl (by decide) (T_1941.lt (by decide)) rfl rfl (Nat.le_of_ble_eq_true rfl) rfl rfl ?_
                refine cl_c16 (d := d + 0) G T_1941  (fun m2202 h2203 T2204 F2205 W2206 => ?_)
                have F2207 := F_1941.trans (N := 0) (S := 0) F2205 (by decide) (by decide) (by decide)
                have B2208 : sf_B 0 16 (m2202 6) := by rw [W2206 6 (by decide)]; exact B1944
                have ek2209 : (m2202 6).toInt = ((m_1941 6)).toInt := by rw [W2206 6 (by decide)]
                have B2210 : sf_B 0 99 (m2202 7) := by rw [W2206 7 (by decide)]; exact B1946
                have ek2211 : (m2202 7).toInt = ((m_1941 7)).toInt := by rw [W2206 7 (by decide)]
                have B2212 : sf_B (-1) 99 (m2202 8) := by rw [W2206 8 (by decide)]; exact B1948
                have ek2213 : (m2202 8).toInt = ((m_1941 8)).toInt := by rw [W2206 8 (by decide)]
                have B2214 : sf_B 1 4 (m2202 3) := by rw [W2206 3 (by decide)]; exact B2140
                have ek2215 : (m2202 3).toInt = ((m_1941 3)).toInt := by rw [W2206 3 (by decide)]
                have B2216 : sf_B 12 50 (m2202 5) := by rw [W2206 5 (by decide)]; exact B2198
                have ek2217 : (m2202 5).toInt = ((m_1941 5)).toInt := by rw [W2206 5 (by decide)]
                have W2218 : rf_W [3, 4, 5, 10, 11, 12, 13] m m2202 := W1950.trans W2206 (by decide)
                have W2219 : rf_W [3, 4, 5, 10, 11, 12, 13] m17 m2202 := W_1941.trans W2206 (by decide)
                show pm_R _ 15 108 [.ref 25, .int x1_1941] [] _ _
                refine sf_R_iinc pm_M15 (pc_q := 111) (ls_q := fun z => [.ref 25, .int z]) rfl B1968 rfl (by decide) (by decide) (by decide) (fun _ => rfl) rfl (fun z2220 e2221 B2222 => ?_)
                show pm_R _ 15 111 [.ref 25, .int z2220] [] _ _
                refine pm_R_br pm_M15 (pc_q := 9) rfl rfl ?_
                have e2223 := (F2205.cell G (by decide) (by decide) e1955)
                have e2224 := (F2205.cell G (by decide) (by decide) e1952)
                exact ih_1941 _ (sf_up hN_1941 e2221 B1968 (by decide) (by decide)) h2203 m2202 z2220 T2204 F2207 W2219 (sf_weak B2222 (by decide) (by decide)) ⟨(fun z => sf_pos B2214 (by decide) z), ⟨_, e2224, b1953⟩⟩ rfl
            · have B2225 : sf_B 0 0 (m_1941 3) := sf_eqL (Classical.not_not.mp c2139) sf_k0
              refine pm_R_lo pm_M21 (pc_q := 8) rfl rfl rfl ?_
              refine pm_R_lo pm_M21 (pc_q := 9) rfl rfl rfl ?_
              refine cl_R_put25 G pm_M21 T_1941 (k := 3) (pc_q := 12) rfl rfl rfl (by decide) rfl rfl (sf_weak sf_k2 (by decide) (by decide)) rfl rfl rfl rfl rfl (fun h2226 m2229 em2230 T2227 F2228 => ?_)
              have F2231 := F2228.cl (ck := ck) T_1941.1
              have F2232 := F_1941.trans (N := 0) (S := 0) F2231 (by decide) (by decide) (by decide)
              have B2233 : sf_B 0 16 (m2229 6) := by rw [em2230]; exact B1944
              have ek2234 : (m2229 6).toInt = ((m_1941 6)).toInt := by rw [em2230]; rfl
              have B2235 : sf_B 0 99 (m2229 7) := by rw [em2230]; exact B1946
              have ek2236 : (m2229 7).toInt = ((m_1941 7)).toInt := by rw [em2230]; rfl
              have B2237 : sf_B (-1) 99 (m2229 8) := by rw [em2230]; exact B1948
              have ek2238 : (m2229 8).toInt = ((m_1941 8)).toInt := by rw [em2230]; rfl
              have B2239 : sf_B 0 50 (m2229 5) := by rw [em2230]; exact B1961
              have ek2240 : (m2229 5).toInt = ((m_1941 5)).toInt := by rw [em2230]; rfl
              have B2241 : sf_B 2 2 (m2229 12) := by rw [em2230]; exact B1974
              have B2242 : sf_B 10 99 (m2229 13) := by rw [em2230]; exact B2137
              have B2243 : sf_B 2 2 (m2229 3) := by rw [em2230]; exact sf_k2
              have W2245 : rf_W [3, 4, 5, 10, 11, 12, 13] m m2229 := by rw [em2230]; exact W1950.put (by decide)
              have W2246 : rf_W [3, 4, 5, 10, 11, 12, 13] m17 m2229 := by rw [em2230]; exact W_1941.put (by decide)
              refine pm_R_lo pm_M21 (pc_q := 13) rfl rfl rfl ?_
              refine pm_R_lo pm_M21 (pc_q := 14) rfl rfl rfl ?_
              refine cl_R_put25 G pm_M21 T2227 (k := 4) (pc_q := 17) rfl rfl rfl (by decide) rfl rfl (sf_weak B2138 (by decide) (by decide)) rfl rfl rfl rfl rfl (fun h2247 m2250 em2251 T2248 F2249 => ?_)
              have F2252 := F2249.cl (ck := ck) T2227.1
              have F2253 := F2232.trans (N := 0) (S := 0) F2252 (by decide) (by decide) (by decide)
              have B2254 : sf_B 0 16 (m2250 6) := by rw [em2251]; exact B2233
              have ek2255 : (m2250 6).toInt = ((m_1941 6)).toInt := by rw [em2251]; exact ek2234
              have B2256 : sf_B 0 99 (m2250 7) := by rw [em2251]; exact B2235
              have ek2257 : (m2250 7).toInt = ((m_1941 7)).toInt := by rw [em2251]; exact ek2236
              have B2258 : sf_B (-1) 99 (m2250 8) := by rw [em2251]; exact B2237
              have ek2259 : (m2250 8).toInt = ((m_1941 8)).toInt := by rw [em2251]; exact ek2238
              have B2260 : sf_B 0 50 (m2250 5) := by rw [em2251]; exact B2239
              have ek2261 : (m2250 5).toInt = ((m_1941 5)).toInt := by rw [em2251]; exact ek2240
              have B2262 : sf_B 2 2 (m2250 12) := by rw [em2251]; exact B2241
              have B2263 : sf_B 10 99 (m2250 13) := by rw [em2251]; exact B2242
              have B2264 : sf_B 2 2 (m2250 3) := by rw [em2251]; exact B2243
              have ek2265 : (m2250 3).toInt = ((m2229 3)).toInt := by rw [em2251]; rfl
              have B2266 : sf_B 0 600 (m2250 4) := by rw [em2251]; exact B2138
              have ek2267 : (m2250 4).toInt = ((m_1941 11)).toInt := by rw [em2251]; rfl
              have W2268 : rf_W [3, 4, 5, 10, 11, 12, 13] m m2250 := by rw [em2251]; exact W2245.put (by decide)
              have W2269 : rf_W [3, 4, 5, 10, 11, 12, 13] m17 m2250 := by rw [em2251]; exact W2246.put (by decide)
              refine pm_R_ret pm_M21 (r := none) rfl rfl ?_
              show pm_R _ 15 51 [.ref 25, .int x1_1941] [] _ _
              refine pm_R_lo pm_M15 (pc_q := 52) rfl rfl rfl ?_
              refine pm_R_get pm_M15 (pc_q := 55) (v := .int (m_1941 5)) rfl rfl T2248.e25 (by decide) (T2248.lt (by decide)) (congrArg (fun z => some (Value.int z)) (Int32.toInt_inj.mp (cl_aux3 _ _ ek2261))) rfl ?_
              refine pm_R_op pm_M15 (pc_q := 57) (st_q := [.int 12, .int (m_1941 5)]) rfl rfl rfl ?_
              refine pm_R_icmp pm_M15 (t := 75) (pc_q := 60) rfl rfl rfl (fun c2270 => ?_) (fun c2270 => ?_)
              · have B2271 : sf_B 0 11 (m_1941 5) := sf_ltL c2270 B1961 sf_k12
                refine pm_R_lo pm_M15 (pc_q := 76) rfl rfl rfl ?_
                refine pm_R_get pm_M15 (pc_q := 79) (v := .ref 26) rfl rfl T2248.e25 (by decide) (T2248.lt (by decide)) rfl rfl ?_
                refine pm_R_lo pm_M15 (pc_q := 80) rfl rfl rfl ?_
                refine pm_R_get pm_M15 (pc_q := 83) (v := .int (m_1941 5)) rfl rfl T2248.e25 (by decide) (T2248.lt (by decide)) (congrArg (fun z => some (Value.int z)) (Int32.toInt_inj.mp (cl_aux3 _ _ ek2261))) rfl ?_
                refine pm_R_lo pm_M15 (pc_q := 84) rfl rfl rfl ?_
                refine pm_R_get pm_M15 (pc_q := 87) (v := .ref 30) rfl rfl T2248.e25 (by decide) (T2248.lt (by decide)) rfl rfl ?_
                refine pm_R_get pm_M15 (pc_q := 90) (v := .int (m2250 13)) rfl rfl T2248.e30 (by decide) (T2248.lt (by decide)) rfl rfl ?_
                have e2272 := (F2252.cell G (by decide) (by decide) (F2231.cell G (by decide) (by decide) e1955))
                refine cl_R_ist G pm_M15 T2248 (pc_q := 91) rfl e2272 (by decide) ⟨_, rfl⟩ (sf_in B2271 (by decide) (by decide)) rfl (fun h2273 T2274 F2275 e2276 => ?_)
                have F2277 := F2275.cl (ck := ck) T2248.1
                have F2278 := F2253.trans (N := 0) (S := 0) F2277 (by decide) (by decide) (by decide)
                refine pm_R_lo pm_M15 (pc_q := 92) rfl rfl rfl ?_
                refine pm_R_op pm_M15 (pc_q := 93) (st_q := [.ref 25, .ref 25]) rfl rfl rfl ?_
                refine pm_R_get pm_M15 (pc_q := 96) (v := .int (m_1941 5)) rfl rfl T2274.e25 (by decide) (T2274.lt (by decide)) (congrArg (fun z => some (Value.int z)) (Int32.toInt_inj.mp (cl_aux3 _ _ ek2261))) rfl ?_
                refine pm_R_op pm_M15 (pc_q := 97) (st_q := [.int 1, .int (m_1941 5), .ref 25]) rfl rfl rfl ?_
                refine sf_R_iadd pm_M15 (pc_q := 98) rfl rfl B2271 sf_k1 (by decide) (by decide) (fun z2279 e2280 B2281 => ?_)
                refine cl_R_put25 G pm_M15 T2274 (k := 5) (pc_q := 101) rfl rfl rfl (by decide) rfl rfl (sf_weak B2281 (by decide) (by decide)) rfl rfl rfl rfl rfl (fun h2282 m2285 em2286 T2283 F2284 => ?_)
                have F2287 := F2284.cl (ck := ck) T2274.1
                have F2288 := F2278.trans (N := 0) (S := 0) F2287 (by decide) (by decide) (by decide)
                have B2289 : sf_B 0 16 (m2285 6) := by rw [em2286]; exact B2254
                have ek2290 : (m2285 6).toInt = ((m_1941 6)).toInt := by rw [em2286]; exact ek2255
                have B2291 : sf_B 0 99 (m2285 7) := by rw [em2286]; exact B2256
                have ek2292 : (m2285 7).toInt = ((m_1941 7)).toInt := by rw [em2286]; exact ek2257
                have B2293 : sf_B (-1) 99 (m2285 8) := by rw [em2286]; exact B2258
                have ek2294 : (m2285 8).toInt = ((m_1941 8)).toInt := by rw [em2286]; exact ek2259
                have B2295 : sf_B 2 2 (m2285 12) := by rw [em2286]; exact B2262
                have B2296 : sf_B 10 99 (m2285 13) := by rw [em2286]; exact B2263
                have B2297 : sf_B 2 2 (m2285 3) := by rw [em2286]; exact B2264
                have ek2298 : (m2285 3).toInt = ((m2229 3)).toInt := by rw [em2286]; exact ek2265
                have B2299 : sf_B 0 600 (m2285 4) := by rw [em2286]; exact B2266
                have ek2300 : (m2285 4).toInt = ((m_1941 11)).toInt := by rw [em2286]; exact ek2267
                have B2301 : sf_B 1 12 (m2285 5) := by rw [em2286]; exact B2281
                have ek2302 : (m2285 5).toInt = (z2279).toInt := by rw [em2286]; rfl
                have W2303 : rf_W [3, 4, 5, 10, 11, 12, 13] m m2285 := by rw [em2286]; exact W2268.put (by decide)
                have W2304 : rf_W [3, 4, 5, 10, 11, 12, 13] m17 m2285 := by rw [em2286]; exact W2269.put (by decide)
                refine pm_R_lo pm_M15 (pc_q := 102) rfl rfl rfl ?_
                refine pm_R_get pm_M15 (pc_q := 105) (v := .ref 30) rfl rfl T2283.e25 (by decide) (T2283.lt (by decide)) rfl rfl ?_
                refine pm_R_cv pm_M15 (pc_q := 108) (a := 30) (ra := []) (rest := []) (ls_q := [.ref 30]) rfl rfl (Or.inl rfl) pm_M16 T2283.e30 rfl (by decide) (T2283.lt (by decide)) rfl rfl (Nat.le_of_ble_eq_true rfl) rfl rfl ?_
                refine cl_c16 (d := d + 0) G T2283  (fun m2307 h2308 T2309 F2310 W2311 => ?_)
                have F2312 := F2288.trans (N := 0) (S := 0) F2310 (by decide) (by decide) (by decide)
                have B2313 : sf_B 0 16 (m2307 6) := by rw [W2311 6 (by decide)]; exact B2289
                have ek2314 : (m2307 6).toInt = ((m_1941 6)).toInt := by rw [W2311 6 (by decide)]; exact ek2290
                have B2315 : sf_B 0 99 (m2307 7) := by rw [W2311 7 (by decide)]; exact B2291
                have ek2316 : (m2307 7).toInt = ((m_1941 7)).toInt := by rw [W2311 7 (by decide)]; exact ek2292
                have B2317 : sf_B (-1) 99 (m2307 8) := by rw [W2311 8 (by decide)]; exact B2293
                have ek2318 : (m2307 8).toInt = ((m_1941 8)).toInt := by rw [W2311 8 (by decide)]; exact ek2294
                have B2319 : sf_B 2 2 (m2307 3) := by rw [W2311 3 (by decide)]; exact B2297
                have ek2320 : (m2307 3).toInt = ((m2229 3)).toInt := by rw [W2311 3 (by decide)]; exact ek2298
                have B2321 : sf_B 0 600 (m2307 4) := by rw [W2311 4 (by decide)]; exact B2299
                have ek2322 : (m2307 4).toInt = ((m_1941 11)).toInt := by rw [W2311 4 (by decide)]; exact ek2300
                have B2323 : sf_B 1 12 (m2307 5) := by rw [W2311 5 (by decide)]; exact B2301
                have ek2324 : (m2307 5).toInt = (z2279).toInt := by rw [W2311 5 (by decide)]; exact ek2302
                have W2325 : rf_W [3, 4, 5, 10, 11, 12, 13] m m2307 := W2303.trans W2311 (by decide)
                have W2326 : rf_W [3, 4, 5, 10, 11, 12, 13] m17 m2307 := W2304.trans W2311 (by decide)
                show pm_R _ 15 108 [.ref 25, .int x1_1941] [] _ _
                refine sf_R_iinc pm_M15 (pc_q := 111) (ls_q := fun z => [.ref 25, .int z]) rfl B1968 rfl (by decide) (by decide) (by decide) (fun _ => rfl) rfl (fun z2327 e2328 B2329 => ?_)
                show pm_R _ 15 111 [.ref 25, .int z2327] [] _ _
                refine pm_R_br pm_M15 (pc_q := 9) rfl rfl ?_
                have e2330 := (F2310.cell G (by decide) (by decide) (F2287.cell G (by decide) (by decide) e2276))
                have e2331 := (F2310.cell G (by decide) (by decide) (F2287.cell G (by decide) (by decide) (F2277.cell G (by decide) (by decide) (F2252.cell G (by decide) (by decide) (F2231.cell G (by decide) (by decide) e1952)))))
                exact ih_1941 _ (sf_up hN_1941 e2328 B1968 (by decide) (by decide)) h2308 m2307 z2327 T2309 F2312 W2326 (sf_weak B2329 (by decide) (by decide)) ⟨(fun z => sf_pos B2319 (by decide) z), ⟨_, e2331, b1953⟩⟩ rfl
              · have B2332 : sf_B 12 50 (m_1941 5) := sf_leR (Int32.not_lt.mp c2270) sf_k12 B1961
                refine pm_R_lo pm_M15 (pc_q := 61) rfl rfl rfl ?_
                refine pm_R_op pm_M15 (pc_q := 62) (st_q := [.int 3, .ref 25]) rfl rfl rfl ?_
                refine pm_R_lo pm_M15 (pc_q := 63) rfl rfl rfl ?_
                refine pm_R_get pm_M15 (pc_q := 66) (v := .ref 30) rfl rfl T2248.e25 (by decide) (T2248.lt (by decide)) rfl rfl ?_
                have B2333 : sf_B 0 600 (m2250 11) := T2248.B 11
                refine pm_R_get pm_M15 (pc_q := 69) (v := .int (m2250 11)) rfl rfl T2248.e30 (by decide) (T2248.lt (by decide)) rfl rfl ?_
                refine pm_R_cv pm_M15 (pc_q := 72) (a := 25) (ra := [.int (m2250 11), .int 3]) (rest := []) (ls_q := [.ref 25, .int 3, .int (m2250 11)]) rfl rfl (Or.inl rfl) pm_M21 T2248.e25 rfl (by decide) (T2248.lt (by decide)) rfl rfl (Nat.le_of_ble_eq_true rfl) rfl rfl ?_
                refine pm_R_lo pm_M21 (pc_q := 1) rfl rfl rfl ?_
                refine pm_R_get pm_M21 (pc_q := 4) (v := .int (m2229 3)) rfl rfl T2248.e25 (by decide) (T2248.lt (by decide)) (congrArg (fun z => some (Value.int z)) (Int32.toInt_inj.mp (cl_aux3 _ _ ek2265))) rfl ?_
                refine pm_R_ifc pm_M21 (t := 17) (pc_q := 7) rfl rfl rfl (fun c2334 => ?_) (fun c2334 => absurd (Classical.not_not.mp c2334) (sf_neq1 B2243 sf_k0 (by decide)))
                skip
                refine pm_R_ret pm_M21 (r := none) rfl rfl ?_
                show pm_R _ 15 72 [.ref 25, .int x1_1941] [] _ _
                refine pm_R_br pm_M15 (pc_q := 101) rfl rfl ?_
                refine pm_R_lo pm_M15 (pc_q := 102) rfl rfl rfl ?_
                refine pm_R_get pm_M15 (pc_q := 105) (v := .ref 30) rfl rfl T2248.e25 (by decide) (T2248.lt (by decide)) rfl rfl ?_
                refine pm_R_cv pm_M15 (pc_q := 108) (a := 30) (ra := []) (rest := []) (ls_q := [.ref 30]) rfl rfl (Or.inl rfl) pm_M16 T2248.e30 rfl (by decide) (T2248.lt (by decide)) rfl rfl (Nat.le_of_ble_eq_true rfl) rfl rfl ?_
                refine cl_c16 (d := d + 0) G T2248  (fun m2337 h2338 T2339 F2340 W2341 => ?_)
                have F2342 := F2253.trans (N := 0) (S := 0) F2340 (by decide) (by decide) (by decide)
                have B2343 : sf_B 0 16 (m2337 6) := by rw [W2341 6 (by decide)]; exact B2254
                have ek2344 : (m2337 6).toInt = ((m_1941 6)).toInt := by rw [W2341 6 (by decide)]; exact ek2255
                have B2345 : sf_B 0 99 (m2337 7) := by rw [W2341 7 (by decide)]; exact B2256
                have ek2346 : (m2337 7).toInt = ((m_1941 7)).toInt := by rw [W2341 7 (by decide)]; exact ek2257
                have B2347 : sf_B (-1) 99 (m2337 8) := by rw [W2341 8 (by decide)]; exact B2258
                have ek2348 : (m2337 8).toInt = ((m_1941 8)).toInt := by rw [W2341 8 (by decide)]; exact ek2259
                have B2349 : sf_B 0 50 (m2337 5) := by rw [W2341 5 (by decide)]; exact B2260
                have ek2350 : (m2337 5).toInt = ((m_1941 5)).toInt := by rw [W2341 5 (by decide)]; exact ek2261
                have B2351 : sf_B 2 2 (m2337 3) := by rw [W2341 3 (by decide)]; exact B2264
                have ek2352 : (m2337 3).toInt = ((m2229 3)).toInt := by rw [W2341 3 (by decide)]; exact ek2265
                have B2353 : sf_B 0 600 (m2337 4) := by rw [W2341 4 (by decide)]; exact B2266
                have ek2354 : (m2337 4).toInt = ((m_1941 11)).toInt := by rw [W2341 4 (by decide)]; exact ek2267
                have W2355 : rf_W [3, 4, 5, 10, 11, 12, 13] m m2337 := W2268.trans W2341 (by decide)
                have W2356 : rf_W [3, 4, 5, 10, 11, 12, 13] m17 m2337 := W2269.trans W2341 (by decide)
                show pm_R _ 15 108 [.ref 25, .int x1_1941] [] _ _
                refine sf_R_iinc pm_M15 (pc_q := 111) (ls_q := fun z => [.ref 25, .int z]) rfl B1968 rfl (by decide) (by decide) (by decide) (fun _ => rfl) rfl (fun z2357 e2358 B2359 => ?_)
                show pm_R _ 15 111 [.ref 25, .int z2357] [] _ _
                refine pm_R_br pm_M15 (pc_q := 9) rfl rfl ?_
                have e2360 := (F2340.cell G (by decide) (by decide) (F2252.cell G (by decide) (by decide) (F2231.cell G (by decide) (by decide) e1955)))
                have e2361 := (F2340.cell G (by decide) (by decide) (F2252.cell G (by decide) (by decide) (F2231.cell G (by decide) (by decide) e1952)))
                exact ih_1941 _ (sf_up hN_1941 e2358 B1968 (by decide) (by decide)) h2338 m2337 z2357 T2339 F2342 W2356 (sf_weak B2359 (by decide) (by decide)) ⟨(fun z => sf_pos B2351 (by decide) z), ⟨_, e2361, b1953⟩⟩ rfl
  have e2362 := (F20.cell G (by decide) (by decide) e5)
  have e2363 := (F20.cell G (by decide) (by decide) e8)
  have e2364 := (F20.cell G (by decide) (by decide) e2)
  exact L_1941 _ h18 m17 0 T19 F22 (rf_W.refl _ _) (sf_weak sf_k0 (by decide) (by decide)) ⟨(fun z => ⟨_, _, e2362, e2363, (R.at (cl_aux68 _ _ ek24 z) e5 e8).keep (cl_aux3 _ _ ek26) (cl_aux3 _ _ ek28) (cl_aux3 _ _ ek30) (cl_aux3 _ _ ek32)⟩), ⟨_, e2364, b3⟩⟩ rfl
