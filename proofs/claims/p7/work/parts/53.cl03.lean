theorem cl_aux74 (v0 v1 : Int) (q0 : v0 = v1) (q1 : v1 < 50) : v0 ≤ 49 := by omega
theorem cl_aux75 (v0 v1 : Int) (q0 : v0 = v1 * 4) : v0 = 4 * v1 := by omega
theorem cl_aux76 (v0 v1 v2 v3 v4 v5 : Int) (q0 : v0 = v1) (q1 : v2 ≤ v3) (q2 : v4 ≤ v3) (q3 : v3 ≤ v1) (q4 : v5 ≤ v1) (q5 : 0 ≤ v1) (q6 : v1 ≤ 99) (q7 : 0 ≤ v0) (q8 : v0 ≤ 99) (q9 : 0 ≤ v4) (q10 : v4 ≤ 5) (q11 : (-1) ≤ v2) (q12 : v2 ≤ 99) (q13 : 0 ≤ v3) (q14 : v3 ≤ 99) (q15 : 0 ≤ v5) (q16 : v5 ≤ 5) : v4 ≤ v0 := by omega
theorem cl_aux77 (v0 v1 v2 v3 v4 v5 : Int) (q0 : v0 = v1) (q1 : v2 ≤ v3) (q2 : v4 ≤ v3) (q3 : v3 ≤ v1) (q4 : v5 ≤ v1) (q5 : 0 ≤ v1) (q6 : v1 ≤ 99) (q7 : 0 ≤ v0) (q8 : v0 ≤ 99) (q9 : 0 ≤ v4) (q10 : v4 ≤ 5) (q11 : (-1) ≤ v2) (q12 : v2 ≤ 99) (q13 : 0 ≤ v3) (q14 : v3 ≤ 99) (q15 : 0 ≤ v5) (q16 : v5 ≤ 5) : v2 ≤ v0 := by omega
set_option maxRecDepth 100000 in
set_option maxHeartbeats 4000000 in
/-- SilentTable$TextReader.readLine -/
theorem cl_c37_4 {d : Nat} {ck : cl_K} {E : Nat → pm_E} {m : Nat → Int32} {o : Nat → Option Nat} {h : pm_H} {Q : Option Value → pm_H → Prop}  (G : cl_G ck E) (T : cl_T ck E m o h) (R : cl_Rd 2 m h) (Y : cl_Y h) (K : ∀ (r : Int32) (m_q : Nat → Int32) (h_q : pm_H), cl_T ck E m_q o h_q → cl_F ck [25, 26, 29, 30] 0 0 h h_q → rf_W [3, 4, 5, 6, 7, 8, 10, 11, 12, 13] m m_q → cl_Rd 2 m_q h_q → cl_Y h_q → sf_B 0 1 r → Q (some (.int r)) h_q) : pm_R (d + 7) 37 0 [.ref 25, .int 4, pm_no] [] h Q := by
  obtain ⟨f1, e2, b3⟩ := Y
  obtain ⟨f4, e5⟩ := T.C 26 (by decide) (by decide)
  obtain ⟨f7, e8⟩ := T.C 27 (by decide) (by decide)
  have B10 : sf_B 0 4 (m 3) := T.B 3
  have B11 : sf_B 0 50 (m 5) := T.B 5
  have B12 : sf_B 0 16 (m 6) := T.B 6
  have B13 : sf_B 0 99 (m 7) := T.B 7
  have B14 : sf_B (-1) 99 (m 8) := T.B 8
  refine pm_R_lo pm_M37 (pc_q := 1) rfl rfl rfl ?_
  refine pm_R_op pm_M37 (pc_q := 2) (st_q := [.int (-1), .int 4]) rfl rfl rfl ?_
  refine pm_R_br pm_M37 (pc_q := 7) (st_q := []) rfl rfl ?_
  refine pm_R_lo pm_M37 (pc_q := 8) rfl rfl rfl ?_
  refine pm_R_lo pm_M37 (pc_q := 9) rfl rfl rfl ?_
  refine pm_R_cv pm_M37 (pc_q := 12) (a := 25) (ra := [.int 4]) (rest := []) (ls_q := [.ref 25, .int 4, pm_no, pm_no]) rfl rfl (Or.inl rfl) pm_M38 T.e25 rfl (by decide) (T.lt (by decide)) rfl rfl (Nat.le_of_ble_eq_true rfl) rfl rfl ?_
  refine cl_c38_4 (d := d + 5) G T  (fun m17 h18 T19 F20 W21 X22 => ?_)
  have F23 := (cl_F.refl (ck := ck) (A := [25, 26, 29, 30]) (n := 0) (s := 0) T.1).trans (N := 0) (S := 0) F20 (by decide) (by decide) (by decide)
  have B24 : sf_B 0 50 (m17 5) := by rw [W21 5 (by decide)]; exact B11
  have ek25 : (m17 5).toInt = ((m 5)).toInt := by rw [W21 5 (by decide)]
  have B26 : sf_B 0 16 (m17 6) := by rw [W21 6 (by decide)]; exact B12
  have ek27 : (m17 6).toInt = ((m 6)).toInt := by rw [W21 6 (by decide)]
  have B28 : sf_B 0 99 (m17 7) := by rw [W21 7 (by decide)]; exact B13
  have ek29 : (m17 7).toInt = ((m 7)).toInt := by rw [W21 7 (by decide)]
  have B30 : sf_B (-1) 99 (m17 8) := by rw [W21 8 (by decide)]; exact B14
  have ek31 : (m17 8).toInt = ((m 8)).toInt := by rw [W21 8 (by decide)]
  have W32 : rf_W [3, 4, 5, 6, 7, 8, 10, 11, 12, 13] m m17 := (rf_W.refl [3, 4, 5, 6, 7, 8, 10, 11, 12, 13] m).trans W21 (by decide)
  have B33 : sf_B 0 4 (m17 3) := T19.B 3
  show pm_R _ 37 12 [.ref 25, .int 4, pm_no] [] _ _
  refine pm_R_lo pm_M37 (pc_q := 13) rfl rfl rfl ?_
  refine pm_R_get pm_M37 (pc_q := 16) (v := .ref 29) rfl rfl T19.e25 (by decide) (T19.lt (by decide)) rfl rfl ?_
  refine pm_R_op pm_M37 (pc_q := 17) (st_q := [.int (-1), .ref 29]) rfl rfl rfl ?_
  refine pm_R_cs pm_M37 (pc_q := 20) (ra := [.int (-1), .ref 29]) (rest := []) (ls_q := [.ref 29, .int (-1), pm_no, pm_no]) rfl rfl (Or.inl rfl) pm_M13 rfl rfl (Nat.le_of_ble_eq_true rfl) rfl rfl ?_
  refine pm_R_op pm_M13 (pc_q := 1) (st_q := [.int 0]) rfl rfl rfl ?_
  refine pm_R_lo pm_M13 (pc_q := 2) (ls_q := [.ref 29, .int (-1), .int 0, pm_no]) (st_q := []) rfl rfl rfl ?_
  refine pm_R_lo pm_M13 (pc_q := 3) rfl rfl rfl ?_
  obtain ⟨f34, e35⟩ := T19.C 29 (by decide) (by decide)
  refine pm_R_alen pm_M13 (pc_q := 4) (v := 4) rfl e35 (by decide) (T19.lt (by decide)) (by decide) rfl rfl ?_
  refine pm_R_lo pm_M13 (pc_q := 5) (ls_q := [.ref 29, .int (-1), .int 0, .int 4]) (st_q := []) rfl rfl rfl ?_
  refine pm_R_lo pm_M13 (pc_q := 6) rfl rfl rfl ?_
  refine pm_R_lo pm_M13 (pc_q := 7) rfl rfl rfl ?_
  refine pm_R_br pm_M13 (pc_q := 10) (st_q := []) rfl rfl ?_
  refine pm_R_lo pm_M13 (pc_q := 11) rfl rfl rfl ?_
  refine pm_R_lo pm_M13 (pc_q := 12) rfl rfl rfl ?_
  refine pm_R_lo pm_M13 (pc_q := 13) rfl rfl rfl ?_
  refine cl_R_ist G pm_M13 T19 (pc_q := 14) rfl e35 (by decide) ⟨_, rfl⟩ rfl rfl (fun h37 T38 F39 e40 => ?_)
  have F41 := F39.cl (ck := ck) T19.1
  have F42 := F23.trans (N := 0) (S := 0) F41 (by decide) (by decide) (by decide)
  refine pm_R_lo pm_M13 (pc_q := 17) (ls_q := [.ref 29, .int (-1), .int 1, .int 4]) (st_q := []) rfl rfl rfl ?_
  refine pm_R_br pm_M13 (pc_q := 5) rfl rfl ?_
  refine pm_R_lo pm_M13 (pc_q := 6) rfl rfl rfl ?_
  refine pm_R_lo pm_M13 (pc_q := 7) rfl rfl rfl ?_
  refine pm_R_br pm_M13 (pc_q := 10) (st_q := []) rfl rfl ?_
  refine pm_R_lo pm_M13 (pc_q := 11) rfl rfl rfl ?_
  refine pm_R_lo pm_M13 (pc_q := 12) rfl rfl rfl ?_
  refine pm_R_lo pm_M13 (pc_q := 13) rfl rfl rfl ?_
  refine cl_R_ist G pm_M13 T38 (pc_q := 14) rfl e40 (by decide) ⟨_, rfl⟩ rfl rfl (fun h43 T44 F45 e46 => ?_)
  have F47 := F45.cl (ck := ck) T38.1
  have F48 := F42.trans (N := 0) (S := 0) F47 (by decide) (by decide) (by decide)
  refine pm_R_lo pm_M13 (pc_q := 17) (ls_q := [.ref 29, .int (-1), .int 2, .int 4]) (st_q := []) rfl rfl rfl ?_
  refine pm_R_br pm_M13 (pc_q := 5) rfl rfl ?_
  refine pm_R_lo pm_M13 (pc_q := 6) rfl rfl rfl ?_
  refine pm_R_lo pm_M13 (pc_q := 7) rfl rfl rfl ?_
  refine pm_R_br pm_M13 (pc_q := 10) (st_q := []) rfl rfl ?_
  refine pm_R_lo pm_M13 (pc_q := 11) rfl rfl rfl ?_
  refine pm_R_lo pm_M13 (pc_q := 12) rfl rfl rfl ?_
  refine pm_R_lo pm_M13 (pc_q := 13) rfl rfl rfl ?_
  refine cl_R_ist G pm_M13 T44 (pc_q := 14) rfl e46 (by decide) ⟨_, rfl⟩ rfl rfl (fun h49 T50 F51 e52 => ?_)
  have F53 := F51.cl (ck := ck) T44.1
  have F54 := F48.trans (N := 0) (S := 0) F53 (by decide) (by decide) (by decide)
  refine pm_R_lo pm_M13 (pc_q := 17) (ls_q := [.ref 29, .int (-1), .int 3, .int 4]) (st_q := []) rfl rfl rfl ?_
  refine pm_R_br pm_M13 (pc_q := 5) rfl rfl ?_
  refine pm_R_lo pm_M13 (pc_q := 6) rfl rfl rfl ?_
  refine pm_R_lo pm_M13 (pc_q := 7) rfl rfl rfl ?_
  refine pm_R_br pm_M13 (pc_q := 10) (st_q := []) rfl rfl ?_
  refine pm_R_lo pm_M13 (pc_q := 11) rfl rfl rfl ?_
  refine pm_R_lo pm_M13 (pc_q := 12) rfl rfl rfl ?_
  refine pm_R_lo pm_M13 (pc_q := 13) rfl rfl rfl ?_
  refine cl_R_ist G pm_M13 T50 (pc_q := 14) rfl e52 (by decide) ⟨_, rfl⟩ rfl rfl (fun h55 T56 F57 e58 => ?_)
  have F59 := F57.cl (ck := ck) T50.1
  have F60 := F54.trans (N := 0) (S := 0) F59 (by decide) (by decide) (by decide)
  refine pm_R_lo pm_M13 (pc_q := 17) (ls_q := [.ref 29, .int (-1), .int 4, .int 4]) (st_q := []) rfl rfl rfl ?_
  refine pm_R_br pm_M13 (pc_q := 5) rfl rfl ?_
  refine pm_R_lo pm_M13 (pc_q := 6) rfl rfl rfl ?_
  refine pm_R_lo pm_M13 (pc_q := 7) rfl rfl rfl ?_
  refine pm_R_br pm_M13 (pc_q := 20) (st_q := []) rfl rfl ?_
  refine pm_R_ret pm_M13 (r := none) rfl rfl ?_
  show pm_R _ 37 20 [.ref 25, .int 4, pm_no] [] _ _
  refine pm_R_op pm_M37 (pc_q := 21) (st_q := [.int 0]) rfl rfl rfl ?_
  refine pm_R_lo pm_M37 (pc_q := 22) (ls_q := [.ref 25, .int 4, .int 0]) (st_q := []) rfl rfl rfl ?_
  refine pm_R_lo pm_M37 (pc_q := 23) rfl rfl rfl ?_
  refine pm_R_stat pm_M37 (pc_q := 26) rfl rfl rfl ?_
  refine pm_R_lo pm_M37 (pc_q := 27) rfl rfl rfl ?_
  refine pm_R_iald pm_M37 (pc_q := 28) (v := 2) rfl ((T56.old (by decide)).trans G.tb2) (T56.lt (by decide)) rfl rfl rfl ?_
  refine pm_R_br pm_M37 (pc_q := 31) (st_q := []) rfl rfl ?_
  refine pm_R_lo pm_M37 (pc_q := 32) rfl rfl rfl ?_
  refine pm_R_get pm_M37 (pc_q := 35) (v := .ref 30) rfl rfl T56.e25 (by decide) (T56.lt (by decide)) rfl rfl ?_
  refine pm_R_cv pm_M37 (pc_q := 38) (a := 30) (ra := []) (rest := []) (ls_q := [.ref 30]) rfl rfl (Or.inl rfl) pm_M16 T56.e30 rfl (by decide) (T56.lt (by decide)) rfl rfl (Nat.le_of_ble_eq_true rfl) rfl rfl ?_
  refine cl_c16 (d := d + 4) G T56  (fun m66 h67 T68 F69 W70 => ?_)
  have F71 := F60.trans (N := 0) (S := 0) F69 (by decide) (by decide) (by decide)
  have B72 : sf_B 0 50 (m66 5) := by rw [W70 5 (by decide)]; exact B24
  have ek73 : (m66 5).toInt = ((m 5)).toInt := by rw [W70 5 (by decide)]; exact ek25
  have B74 : sf_B 0 16 (m66 6) := by rw [W70 6 (by decide)]; exact B26
  have ek75 : (m66 6).toInt = ((m 6)).toInt := by rw [W70 6 (by decide)]; exact ek27
  have B76 : sf_B 0 99 (m66 7) := by rw [W70 7 (by decide)]; exact B28
  have ek77 : (m66 7).toInt = ((m 7)).toInt := by rw [W70 7 (by decide)]; exact ek29
  have B78 : sf_B (-1) 99 (m66 8) := by rw [W70 8 (by decide)]; exact B30
  have ek79 : (m66 8).toInt = ((m 8)).toInt := by rw [W70 8 (by decide)]; exact ek31
  have B80 : sf_B 0 4 (m66 3) := by rw [W70 3 (by decide)]; exact B33
  have ek81 : (m66 3).toInt = ((m17 3)).toInt := by rw [W70 3 (by decide)]
  have W82 : rf_W [3, 4, 5, 6, 7, 8, 10, 11, 12, 13] m m66 := W32.trans W70 (by decide)
  show pm_R _ 37 38 [.ref 25, .int 4, .int 0] [] _ _
  refine pm_R_lo pm_M37 (pc_q := 39) rfl rfl rfl ?_
  refine pm_R_get pm_M37 (pc_q := 42) (v := .ref 30) rfl rfl T68.e25 (by decide) (T68.lt (by decide)) rfl rfl ?_
  have B83 : sf_B 0 4 (m66 12) := T68.B 12
  refine pm_R_get pm_M37 (pc_q := 45) (v := .int (m66 12)) rfl rfl T68.e30 (by decide) (T68.lt (by decide)) rfl rfl ?_
  refine pm_R_op pm_M37 (pc_q := 46) (st_q := [.int 2, .int (m66 12)]) rfl rfl rfl ?_
  refine pm_R_icmp pm_M37 (t := 51) (pc_q := 49) rfl rfl rfl (fun c84 => ?_) (fun c84 => ?_)
  · have B85 : sf_B 2 2 (m66 12) := sf_eqL c84 sf_k2
    refine pm_R_lo pm_M37 (pc_q := 52) rfl rfl rfl ?_
    refine pm_R_get pm_M37 (pc_q := 55) (v := .ref 29) rfl rfl T68.e25 (by decide) (T68.lt (by decide)) rfl rfl ?_
    refine pm_R_lo pm_M37 (pc_q := 56) rfl rfl rfl ?_
    refine pm_R_lo pm_M37 (pc_q := 57) rfl rfl rfl ?_
    refine pm_R_get pm_M37 (pc_q := 60) (v := .ref 30) rfl rfl T68.e25 (by decide) (T68.lt (by decide)) rfl rfl ?_
    have B86 : sf_B 0 99 (m66 13) := T68.B 13
    refine pm_R_get pm_M37 (pc_q := 63) (v := .int (m66 13)) rfl rfl T68.e30 (by decide) (T68.lt (by decide)) rfl rfl ?_
    have e87 := (F69.cell G (by decide) (by decide) e58)
    refine cl_R_ist G pm_M37 T68 (pc_q := 64) rfl e87 (by decide) ⟨_, rfl⟩ rfl rfl (fun h88 T89 F90 e91 => ?_)
    have F92 := F90.cl (ck := ck) T68.1
    have F93 := F71.trans (N := 0) (S := 0) F92 (by decide) (by decide) (by decide)
    refine pm_R_lo pm_M37 (pc_q := 65) rfl rfl rfl ?_
    refine pm_R_lo pm_M37 (pc_q := 66) rfl rfl rfl ?_
    refine pm_R_lo pm_M37 (pc_q := 67) rfl rfl rfl ?_
    refine pm_R_cv pm_M37 (pc_q := 70) (a := 25) (ra := [.int 0, .int 4]) (rest := []) (ls_q := [.ref 25, .int 4, .int 0, pm_no, pm_no, pm_no]) rfl rfl (Or.inl rfl) pm_M39 T89.e25 rfl (by decide) (T89.lt (by decide)) rfl rfl (Nat.le_of_ble_eq_true rfl) rfl rfl ?_
    refine cl_c39_4_0 (d := d + 5) G T89  (fun m96 h97 T98 F99 W100 X101 => ?_)
    have F102 := F93.trans (N := 0) (S := 0) F99 (by decide) (by decide) (by decide)
    have B103 : sf_B 0 50 (m96 5) := by rw [W100 5 (by decide)]; exact B72
    have ek104 : (m96 5).toInt = ((m 5)).toInt := by rw [W100 5 (by decide)]; exact ek73
    have B105 : sf_B 0 16 (m96 6) := by rw [W100 6 (by decide)]; exact B74
    have ek106 : (m96 6).toInt = ((m 6)).toInt := by rw [W100 6 (by decide)]; exact ek75
    have B107 : sf_B 0 99 (m96 7) := by rw [W100 7 (by decide)]; exact B76
    have ek108 : (m96 7).toInt = ((m 7)).toInt := by rw [W100 7 (by decide)]; exact ek77
    have B109 : sf_B (-1) 99 (m96 8) := by rw [W100 8 (by decide)]; exact B78
    have ek110 : (m96 8).toInt = ((m 8)).toInt := by rw [W100 8 (by decide)]; exact ek79
    have B111 : sf_B 2 2 (m96 12) := by rw [W100 12 (by decide)]; exact B85
    have W112 : rf_W [3, 4, 5, 6, 7, 8, 10, 11, 12, 13] m m96 := W82.trans W100 (by decide)
    have B113 : sf_B 0 4 (m96 3) := T98.B 3
    show pm_R _ 37 70 [.ref 25, .int 4, .int 0] [] _ _
    have q114 := X101 _ e91
    refine pm_R_lo pm_M37 (pc_q := 73) (ls_q := [.ref 25, .int 4, .int 1]) (st_q := []) rfl rfl rfl ?_
    refine pm_R_br pm_M37 (pc_q := 22) rfl rfl ?_
    refine pm_R_lo pm_M37 (pc_q := 23) rfl rfl rfl ?_
    refine pm_R_stat pm_M37 (pc_q := 26) rfl rfl rfl ?_
    refine pm_R_lo pm_M37 (pc_q := 27) rfl rfl rfl ?_
    refine pm_R_iald pm_M37 (pc_q := 28) (v := 2) rfl ((T98.old (by decide)).trans G.tb2) (T98.lt (by decide)) rfl rfl rfl ?_
    refine pm_R_br pm_M37 (pc_q := 31) (st_q := []) rfl rfl ?_
    refine pm_R_lo pm_M37 (pc_q := 32) rfl rfl rfl ?_
    refine pm_R_get pm_M37 (pc_q := 35) (v := .ref 30) rfl rfl T98.e25 (by decide) (T98.lt (by decide)) rfl rfl ?_
    refine pm_R_cv pm_M37 (pc_q := 38) (a := 30) (ra := []) (rest := []) (ls_q := [.ref 30]) rfl rfl (Or.inl rfl) pm_M16 T98.e30 rfl (by decide) (T98.lt (by decide)) rfl rfl (Nat.le_of_ble_eq_true rfl) rfl rfl ?_
    refine cl_c16 (d := d + 4) G T98  (fun m120 h121 T122 F123 W124 => ?_)
    have F125 := F102.trans (N := 0) (S := 0) F123 (by decide) (by decide) (by decide)
    have B126 : sf_B 0 50 (m120 5) := by rw [W124 5 (by decide)]; exact B103
    have ek127 : (m120 5).toInt = ((m 5)).toInt := by rw [W124 5 (by decide)]; exact ek104
    have B128 : sf_B 0 16 (m120 6) := by rw [W124 6 (by decide)]; exact B105
    have ek129 : (m120 6).toInt = ((m 6)).toInt := by rw [W124 6 (by decide)]; exact ek106
    have B130 : sf_B 0 99 (m120 7) := by rw [W124 7 (by decide)]; exact B107
    have ek131 : (m120 7).toInt = ((m 7)).toInt := by rw [W124 7 (by decide)]; exact ek108
    have B132 : sf_B (-1) 99 (m120 8) := by rw [W124 8 (by decide)]; exact B109
    have ek133 : (m120 8).toInt = ((m 8)).toInt := by rw [W124 8 (by decide)]; exact ek110
    have B134 : sf_B 0 4 (m120 3) := by rw [W124 3 (by decide)]; exact B113
    have ek135 : (m120 3).toInt = ((m96 3)).toInt := by rw [W124 3 (by decide)]
    have W136 : rf_W [3, 4, 5, 6, 7, 8, 10, 11, 12, 13] m m120 := W112.trans W124 (by decide)
    show pm_R _ 37 38 [.ref 25, .int 4, .int 1] [] _ _
    refine pm_R_lo pm_M37 (pc_q := 39) rfl rfl rfl ?_
    refine pm_R_get pm_M37 (pc_q := 42) (v := .ref 30) rfl rfl T122.e25 (by decide) (T122.lt (by decide)) rfl rfl ?_
    have B137 : sf_B 0 4 (m120 12) := T122.B 12
    refine pm_R_get pm_M37 (pc_q := 45) (v := .int (m120 12)) rfl rfl T122.e30 (by decide) (T122.lt (by decide)) rfl rfl ?_
    refine pm_R_op pm_M37 (pc_q := 46) (st_q := [.int 2, .int (m120 12)]) rfl rfl rfl ?_
    refine pm_R_icmp pm_M37 (t := 51) (pc_q := 49) rfl rfl rfl (fun c138 => ?_) (fun c138 => ?_)
    · have B139 : sf_B 2 2 (m120 12) := sf_eqL c138 sf_k2
      refine pm_R_lo pm_M37 (pc_q := 52) rfl rfl rfl ?_
      refine pm_R_get pm_M37 (pc_q := 55) (v := .ref 29) rfl rfl T122.e25 (by decide) (T122.lt (by decide)) rfl rfl ?_
      refine pm_R_lo pm_M37 (pc_q := 56) rfl rfl rfl ?_
      refine pm_R_lo pm_M37 (pc_q := 57) rfl rfl rfl ?_
      refine pm_R_get pm_M37 (pc_q := 60) (v := .ref 30) rfl rfl T122.e25 (by decide) (T122.lt (by decide)) rfl rfl ?_
      have B140 : sf_B 0 99 (m120 13) := T122.B 13
      refine pm_R_get pm_M37 (pc_q := 63) (v := .int (m120 13)) rfl rfl T122.e30 (by decide) (T122.lt (by decide)) rfl rfl ?_
      have e141 := (F123.cell G (by decide) (by decide) (F99.cell G (by decide) (by decide) e91))
      refine cl_R_ist G pm_M37 T122 (pc_q := 64) rfl e141 (by decide) ⟨_, rfl⟩ rfl rfl (fun h142 T143 F144 e145 => ?_)
      have F146 := F144.cl (ck := ck) T122.1
      have F147 := F125.trans (N := 0) (S := 0) F146 (by decide) (by decide) (by decide)
      refine pm_R_lo pm_M37 (pc_q := 65) rfl rfl rfl ?_
      refine pm_R_lo pm_M37 (pc_q := 66) rfl rfl rfl ?_
      refine pm_R_lo pm_M37 (pc_q := 67) rfl rfl rfl ?_
      refine pm_R_cv pm_M37 (pc_q := 70) (a := 25) (ra := [.int 1, .int 4]) (rest := []) (ls_q := [.ref 25, .int 4, .int 1, pm_no, pm_no, pm_no]) rfl rfl (Or.inl rfl) pm_M39 T143.e25 rfl (by decide) (T143.lt (by decide)) rfl rfl (Nat.le_of_ble_eq_true rfl) rfl rfl ?_
      refine cl_c39_4_1 (d := d + 5) G T143  (fun m150 h151 T152 F153 W154 X155 => ?_)
      have F156 := F147.trans (N := 0) (S := 0) F153 (by decide) (by decide) (by decide)
      have B157 : sf_B 0 50 (m150 5) := by rw [W154 5 (by decide)]; exact B126
      have ek158 : (m150 5).toInt = ((m 5)).toInt := by rw [W154 5 (by decide)]; exact ek127
      have B159 : sf_B 0 16 (m150 6) := by rw [W154 6 (by decide)]; exact B128
      have ek160 : (m150 6).toInt = ((m 6)).toInt := by rw [W154 6 (by decide)]; exact ek129
      have B161 : sf_B 0 99 (m150 7) := by rw [W154 7 (by decide)]; exact B130
      have ek162 : (m150 7).toInt = ((m 7)).toInt := by rw [W154 7 (by decide)]; exact ek131
      have B163 : sf_B (-1) 99 (m150 8) := by rw [W154 8 (by decide)]; exact B132
      have ek164 : (m150 8).toInt = ((m 8)).toInt := by rw [W154 8 (by decide)]; exact ek133
      have B165 : sf_B 2 2 (m150 12) := by rw [W154 12 (by decide)]; exact B139
      have W166 : rf_W [3, 4, 5, 6, 7, 8, 10, 11, 12, 13] m m150 := W136.trans W154 (by decide)
      have B167 : sf_B 0 4 (m150 3) := T152.B 3
      show pm_R _ 37 70 [.ref 25, .int 4, .int 1] [] _ _
      have q168 := X155 _ e145
      refine pm_R_lo pm_M37 (pc_q := 73) (ls_q := [.ref 25, .int 4, .int 2]) (st_q := []) rfl rfl rfl ?_
      refine pm_R_br pm_M37 (pc_q := 22) rfl rfl ?_
      refine pm_R_lo pm_M37 (pc_q := 23) rfl rfl rfl ?_
      refine pm_R_stat pm_M37 (pc_q := 26) rfl rfl rfl ?_
      refine pm_R_lo pm_M37 (pc_q := 27) rfl rfl rfl ?_
      refine pm_R_iald pm_M37 (pc_q := 28) (v := 2) rfl ((T152.old (by decide)).trans G.tb2) (T152.lt (by decide)) rfl rfl rfl ?_
      refine pm_R_br pm_M37 (pc_q := 76) (st_q := []) rfl rfl ?_
      refine pm_R_lo pm_M37 (pc_q := 77) rfl rfl rfl ?_
      refine pm_R_br pm_M37 (pc_q := 114) (st_q := []) rfl rfl ?_
      refine pm_R_lo pm_M37 (pc_q := 115) (pm_q37_1 (Nat.le_of_ble_eq_true rfl)) rfl rfl ?_
      refine pm_R_get pm_M37 (pc_q := 118) (v := .ref 30) (pm_q37_1 (Nat.le_of_ble_eq_true rfl)) rfl T152.e25 (by decide) (T152.lt (by decide)) rfl rfl ?_
      refine pm_R_cv pm_M37 (pc_q := 121) (a := 30) (ra := []) (rest := []) (ls_q := [.ref 30]) (pm_q37_1 (Nat.le_of_ble_eq_true rfl)) rfl (Or.inl rfl) pm_M16 T152.e30 rfl (by decide) (T152.lt (by decide)) rfl rfl (Nat.le_of_ble_eq_true rfl) rfl rfl ?_
      refine cl_c16 (d := d + 4) G T152  (fun m174 h175 T176 F177 W178 => ?_)
      have F179 := F156.trans (N := 0) (S := 0) F177 (by decide) (by decide) (by decide)
      have B180 : sf_B 0 50 (m174 5) := by rw [W178 5 (by decide)]; exact B157
      have ek181 : (m174 5).toInt = ((m 5)).toInt := by rw [W178 5 (by decide)]; exact ek158
      have B182 : sf_B 0 16 (m174 6) := by rw [W178 6 (by decide)]; exact B159
      have ek183 : (m174 6).toInt = ((m 6)).toInt := by rw [W178 6 (by decide)]; exact ek160
      have B184 : sf_B 0 99 (m174 7) := by rw [W178 7 (by decide)]; exact B161
      have ek185 : (m174 7).toInt = ((m 7)).toInt := by rw [W178 7 (by decide)]; exact ek162
      have B186 : sf_B (-1) 99 (m174 8) := by rw [W178 8 (by decide)]; exact B163
      have ek187 : (m174 8).toInt = ((m 8)).toInt := by rw [W178 8 (by decide)]; exact ek164
      have B188 : sf_B 0 4 (m174 3) := by rw [W178 3 (by decide)]; exact B167
      have ek189 : (m174 3).toInt = ((m150 3)).toInt := by rw [W178 3 (by decide)]
      have W190 : rf_W [3, 4, 5, 6, 7, 8, 10, 11, 12, 13] m m174 := W166.trans W178 (by decide)
      show pm_R _ 37 121 [.ref 25, .int 4, .int 2] [] _ _
      refine pm_R_lo pm_M37 (pc_q := 122) (pm_q37_1 (Nat.le_of_ble_eq_true rfl)) rfl rfl ?_
      refine pm_R_get pm_M37 (pc_q := 125) (v := .ref 30) (pm_q37_1 (Nat.le_of_ble_eq_true rfl)) rfl T176.e25 (by decide) (T176.lt (by decide)) rfl rfl ?_
      have B191 : sf_B 0 4 (m174 12) := T176.B 12
      refine pm_R_get pm_M37 (pc_q := 128) (v := .int (m174 12)) (pm_q37_1 (Nat.le_of_ble_eq_true rfl)) rfl T176.e30 (by decide) (T176.lt (by decide)) rfl rfl ?_
      refine pm_R_op pm_M37 (pc_q := 129) (st_q := [.int 3, .int (m174 12)]) (pm_q37_1 (Nat.le_of_ble_eq_true rfl)) rfl rfl ?_
      refine pm_R_icmp pm_M37 (t := 134) (pc_q := 132) (pm_q37_1 (Nat.le_of_ble_eq_true rfl)) rfl rfl (fun c192 => ?_) (fun c192 => ?_)
      · have B193 : sf_B 3 3 (m174 12) := sf_eqL c192 sf_k3
        refine pm_R_lo pm_M37 (pc_q := 135) (pm_q37_1 (Nat.le_of_ble_eq_true rfl)) rfl rfl ?_
        refine pm_R_lo pm_M37 (pc_q := 136) (pm_q37_1 (Nat.le_of_ble_eq_true rfl)) rfl rfl ?_
        refine pm_R_cv pm_M37 (pc_q := 139) (a := 25) (ra := [.int 4]) (rest := []) (ls_q := [.ref 25, .int 4]) (pm_q37_1 (Nat.le_of_ble_eq_true rfl)) rfl (Or.inl rfl) pm_M40 T176.e25 rfl (by decide) (T176.lt (by decide)) rfl rfl (Nat.le_of_ble_eq_true rfl) rfl rfl ?_
        refine pm_R_lo pm_M40 (pc_q := 1) rfl rfl rfl ?_
        refine pm_R_get pm_M40 (pc_q := 4) (v := .int (m150 3)) rfl rfl T176.e25 (by decide) (T176.lt (by decide)) (congrArg (fun z => some (Value.int z)) (Int32.toInt_inj.mp (cl_aux3 _ _ ek189))) rfl ?_
        refine pm_R_ifc pm_M40 (t := 8) (pc_q := 7) rfl rfl rfl (fun c194 => ?_) (fun c194 => ?_)
        · have y195 := q168 (cl_aux67 _ (congrArg Int32.toInt c194))
          have y196 := q114 (cl_aux68 _ _ ek135 y195.1)
          have y197 := X22 (cl_aux68 _ _ ek81 y196.1)
          have B198 : sf_B 0 5 (m120 13) := ⟨B140.1, cl_upE (P := fun x => x.toInt ≤ 5) y195.2.2⟩
          have B199 : sf_B 0 5 (m66 13) := ⟨B86.1, cl_upE (P := fun x => x.toInt ≤ 5) y196.2.2⟩
          have B200 : sf_B 0 49 (m174 5) := ⟨B180.1, (cl_aux74 _ _ ek181 y197.2)⟩
          have B201 : sf_B 0 0 (m150 3) := sf_eqL c194 sf_k0
          refine pm_R_lo pm_M40 (pc_q := 9) rfl rfl rfl ?_
          refine pm_R_br pm_M40 (pc_q := 118) (st_q := []) rfl rfl ?_
          refine pm_R_lo pm_M40 (pc_q := 119) rfl rfl rfl ?_
          refine pm_R_lo pm_M40 (pc_q := 120) rfl rfl rfl ?_
          refine pm_R_cv pm_M40 (pc_q := 123) (a := 25) (ra := [.int 4]) (rest := []) (ls_q := [.ref 25, .int 4]) rfl rfl (Or.inl rfl) pm_M42 T176.e25 rfl (by decide) (T176.lt (by decide)) rfl rfl (Nat.le_of_ble_eq_true rfl) rfl rfl ?_
          refine pm_R_lo pm_M42 (pc_q := 1) rfl rfl rfl ?_
          refine pm_R_op pm_M42 (pc_q := 3) (st_q := [.int 7, .int 4]) rfl rfl rfl ?_
          refine pm_R_br pm_M42 (pc_q := 6) (st_q := []) rfl rfl ?_
          refine pm_R_lo pm_M42 (pc_q := 7) rfl rfl rfl ?_
          refine pm_R_lo pm_M42 (pc_q := 8) rfl rfl rfl ?_
          refine pm_R_get pm_M42 (pc_q := 11) (v := .int (m 8)) rfl rfl T176.e25 (by decide) (T176.lt (by decide)) (congrArg (fun z => some (Value.int z)) (Int32.toInt_inj.mp (cl_aux3 _ _ ek187))) rfl ?_
          refine pm_R_lo pm_M42 (pc_q := 12) rfl rfl rfl ?_
          refine pm_R_get pm_M42 (pc_q := 15) (v := .ref 29) rfl rfl T176.e25 (by decide) (T176.lt (by decide)) rfl rfl ?_
          refine pm_R_op pm_M42 (pc_q := 16) (st_q := [.int 0, .ref 29, .int (m 8), .ref 25]) rfl rfl rfl ?_
          have e205 := (F177.cell G (by decide) (by decide) (F153.cell G (by decide) (by decide) e145))
          refine pm_R_iald pm_M42 (pc_q := 17) (v := (m66 13)) rfl e205 (T176.lt (by decide)) rfl (Eq.trans (sf_upd_nec (k := Int32.toNatClampNeg 1) (j := Int32.toNatClampNeg 0) (by decide)) sf_upd_eq) rfl ?_
          refine cl_R_maxR pm_M42 (pc_q := 20) rfl rfl rfl (Nat.le_of_ble_eq_true rfl) rfl B14 B199 (fun z206 B207 q208 q209 => ?_)
          refine cl_R_put25 G pm_M42 T176 (k := 8) (pc_q := 23) rfl rfl rfl (by decide) rfl rfl (sf_weak B207 (by decide) (by decide)) rfl rfl rfl rfl rfl (fun h210 m213 em214 T211 F212 => ?_)
          have F215 := F212.cl (ck := ck) T176.1
          have F216 := F179.trans (N := 0) (S := 0) F215 (by decide) (by decide) (by decide)
          have B217 : sf_B 0 49 (m213 5) := by rw [em214]; exact B200
          have ek218 : (m213 5).toInt = ((m 5)).toInt := by rw [em214]; exact ek181
          have B219 : sf_B 0 16 (m213 6) := by rw [em214]; exact B182
          have ek220 : (m213 6).toInt = ((m 6)).toInt := by rw [em214]; exact ek183
          have B221 : sf_B 0 99 (m213 7) := by rw [em214]; exact B184
          have ek222 : (m213 7).toInt = ((m 7)).toInt := by rw [em214]; exact ek185
          have B223 : sf_B 0 4 (m213 3) := by rw [em214]; exact B188
          have ek224 : (m213 3).toInt = ((m150 3)).toInt := by rw [em214]; exact ek189
          have B225 : sf_B 3 3 (m213 12) := by rw [em214]; exact B193
          have B226 : sf_B 0 99 (m213 8) := by rw [em214]; exact B207
          have ek227 : (m213 8).toInt = (z206).toInt := by rw [em214]; rfl
          have W228 : rf_W [3, 4, 5, 6, 7, 8, 10, 11, 12, 13] m m213 := by rw [em214]; exact W190.put (by decide)
          refine pm_R_lo pm_M42 (pc_q := 24) rfl rfl rfl ?_
          refine pm_R_op pm_M42 (pc_q := 25) (st_q := [.int 4, .int 4]) rfl rfl rfl ?_
          refine pm_R_br pm_M42 (pc_q := 28) (st_q := []) rfl rfl ?_
          refine pm_R_lo pm_M42 (pc_q := 29) rfl rfl rfl ?_
          refine pm_R_lo pm_M42 (pc_q := 30) rfl rfl rfl ?_
          refine pm_R_get pm_M42 (pc_q := 33) (v := .int z206) rfl rfl T211.e25 (by decide) (T211.lt (by decide)) (congrArg (fun z => some (Value.int z)) (Int32.toInt_inj.mp (cl_aux3 _ _ ek227))) rfl ?_
          refine pm_R_lo pm_M42 (pc_q := 34) rfl rfl rfl ?_
          refine pm_R_get pm_M42 (pc_q := 37) (v := .ref 29) rfl rfl T211.e25 (by decide) (T211.lt (by decide)) rfl rfl ?_
          refine pm_R_op pm_M42 (pc_q := 38) (st_q := [.int 1, .ref 29, .int z206, .ref 25]) rfl rfl rfl ?_
          have e232 := (F215.cell G (by decide) (by decide) e205)
          refine pm_R_iald pm_M42 (pc_q := 39) (v := (m120 13)) rfl e232 (T211.lt (by decide)) rfl sf_upd_eq rfl ?_
          refine cl_R_maxR pm_M42 (pc_q := 42) rfl rfl rfl (Nat.le_of_ble_eq_true rfl) rfl B207 B198 (fun z233 B234 q235 q236 => ?_)
          refine cl_R_put25 G pm_M42 T211 (k := 8) (pc_q := 45) rfl rfl rfl (by decide) rfl rfl (sf_weak B234 (by decide) (by decide)) rfl rfl rfl rfl rfl (fun h237 m240 em241 T238 F239 => ?_)
          have F242 := F239.cl (ck := ck) T211.1
          have F243 := F216.trans (N := 0) (S := 0) F242 (by decide) (by decide) (by decide)
          have B244 : sf_B 0 49 (m240 5) := by rw [em241]; exact B217
          have ek245 : (m240 5).toInt = ((m 5)).toInt := by rw [em241]; exact ek218
          have B246 : sf_B 0 16 (m240 6) := by rw [em241]; exact B219
          have ek247 : (m240 6).toInt = ((m 6)).toInt := by rw [em241]; exact ek220
          have B248 : sf_B 0 99 (m240 7) := by rw [em241]; exact B221
          have ek249 : (m240 7).toInt = ((m 7)).toInt := by rw [em241]; exact ek222
          have B250 : sf_B 0 4 (m240 3) := by rw [em241]; exact B223
          have ek251 : (m240 3).toInt = ((m150 3)).toInt := by rw [em241]; exact ek224
          have B252 : sf_B 3 3 (m240 12) := by rw [em241]; exact B225
          have B253 : sf_B 0 99 (m240 8) := by rw [em241]; exact B234
          have ek254 : (m240 8).toInt = (z233).toInt := by rw [em241]; rfl
          have W255 : rf_W [3, 4, 5, 6, 7, 8, 10, 11, 12, 13] m m240 := by rw [em241]; exact W228.put (by decide)
          refine pm_R_lo pm_M42 (pc_q := 46) rfl rfl rfl ?_
          refine pm_R_get pm_M42 (pc_q := 49) (v := .ref 26) rfl rfl T238.e25 (by decide) (T238.lt (by decide)) rfl rfl ?_
          refine pm_R_lo pm_M42 (pc_q := 50) rfl rfl rfl ?_
          refine pm_R_get pm_M42 (pc_q := 53) (v := .int (m 5)) rfl rfl T238.e25 (by decide) (T238.lt (by decide)) (congrArg (fun z => some (Value.int z)) (Int32.toInt_inj.mp (cl_aux3 _ _ ek245))) rfl ?_
          refine pm_R_op pm_M42 (pc_q := 54) (st_q := [.int 4, .int (m 5), .ref 26]) rfl rfl rfl ?_
          refine sf_R_imul pm_M42 (pc_q := 55) rfl rfl (sf_eqT (cl_aux70 _ _ ek245) B244) sf_k4 (by decide) (by decide) (by decide) (fun z256 e257 B258 => ?_)
          refine pm_R_lo pm_M42 (pc_q := 56) rfl rfl rfl ?_
          refine pm_R_op pm_M42 (pc_q := 58) (st_q := [.int 7, .int 4, .int z256, .ref 26]) rfl rfl rfl ?_
          refine pm_R_br pm_M42 (pc_q := 61) (st_q := [.int z256, .ref 26]) rfl rfl ?_
          refine pm_R_lo pm_M42 (pc_q := 62) rfl rfl rfl ?_
          refine pm_R_op pm_M42 (pc_q := 63) (st_q := [.int 4, .int 4, .int z256, .ref 26]) rfl rfl rfl ?_
          refine pm_R_op pm_M42 (pc_q := 64) (st_q := [.int 0, .int z256, .ref 26]) rfl rfl rfl ?_
          refine pm_R_br pm_M42 (pc_q := 71) rfl rfl ?_
          have e259 := (F242.cell G (by decide) (by decide) (F215.cell G (by decide) (by decide) (F177.cell G (by decide) (by decide) (F153.cell G (by decide) (by decide) (F146.cell G (by decide) (by decide) (F123.cell G (by decide) (by decide) (F99.cell G (by decide) (by decide) (F92.cell G (by decide) (by decide) (F69.cell G (by decide) (by decide) (F59.cell G (by decide) (by decide) (F53.cell G (by decide) (by decide) (F47.cell G (by decide) (by decide) (F41.cell G (by decide) (by decide) (F20.cell G (by decide) (by decide) e5))))))))))))))
          refine cl_R_ist G pm_M42 T238 (pc_q := 72) rfl e259 (by decide) ⟨_, rfl⟩ (sf_in B258 (by decide) (by decide)) rfl (fun h260 T261 F262 e263 => ?_)
          have F264 := F262.cl (ck := ck) T238.1
          have F265 := F243.trans (N := 0) (S := 0) F264 (by decide) (by decide) (by decide)
          refine pm_R_lo pm_M42 (pc_q := 73) rfl rfl rfl ?_
          refine pm_R_lo pm_M42 (pc_q := 74) rfl rfl rfl ?_
          refine pm_R_lo pm_M42 (pc_q := 75) rfl rfl rfl ?_
          refine pm_R_get pm_M42 (pc_q := 78) (v := .ref 26) rfl rfl T261.e25 (by decide) (T261.lt (by decide)) rfl rfl ?_
          refine pm_R_lo pm_M42 (pc_q := 79) rfl rfl rfl ?_
          refine pm_R_get pm_M42 (pc_q := 82) (v := .int (m 5)) rfl rfl T261.e25 (by decide) (T261.lt (by decide)) (congrArg (fun z => some (Value.int z)) (Int32.toInt_inj.mp (cl_aux3 _ _ ek245))) rfl ?_
          refine pm_R_op pm_M42 (pc_q := 83) (st_q := [.int 1, .int (m 5), .ref 26, .ref 25, .ref 25]) rfl rfl rfl ?_
          refine pm_R_cv pm_M42 (pc_q := 86) (a := 25) (ra := [.int 1, .int (m 5), .ref 26]) (rest := [.ref 25]) (ls_q := [.ref 25, .ref 26, .int (m 5), .int 1]) rfl rfl (Or.inl rfl) pm_M41 T261.e25 rfl (by decide) (T261.lt (by decide)) rfl rfl (Nat.le_of_ble_eq_true rfl) rfl rfl ?_
          refine pm_R_lo pm_M41 (pc_q := 1) rfl rfl rfl ?_
          refine pm_R_get pm_M41 (pc_q := 4) (v := .ref 29) rfl rfl T261.e25 (by decide) (T261.lt (by decide)) rfl rfl ?_
          refine pm_R_op pm_M41 (pc_q := 5) (st_q := [.int 0, .ref 29]) rfl rfl rfl ?_
          refine pm_R_lo pm_M41 (pc_q := 6) rfl rfl rfl ?_
          refine pm_R_lo pm_M41 (pc_q := 7) rfl rfl rfl ?_
          refine pm_R_op pm_M41 (pc_q := 8) (st_q := [.int 4, .int (m 5), .ref 26, .int 0, .ref 29]) rfl rfl rfl ?_
          refine sf_R_imulV pm_M41 (pc_q := 9) rfl rfl (sf_eqT (cl_aux70 _ _ ek245) B244) sf_k4 (by decide) (by decide) (by decide) e257 ?_
          refine pm_R_lo pm_M41 (pc_q := 10) rfl rfl rfl ?_
          refine sf_R_iadd pm_M41 (pc_q := 11) rfl rfl B258 sf_k1 (by decide) (by decide) (fun z266 e267 B268 => ?_)
          refine pm_R_op pm_M41 (pc_q := 12) (st_q := [.int 4, .int z266, .ref 26, .int 0, .ref 29]) rfl rfl rfl ?_
          refine pm_R_lo pm_M41 (pc_q := 13) rfl rfl rfl ?_
          refine pm_R_op pm_M41 (pc_q := 14) (st_q := [.int 3, .int z266, .ref 26, .int 0, .ref 29]) rfl rfl rfl ?_
          have e269 := (F264.cell G (by decide) (by decide) (F242.cell G (by decide) (by decide) e232))
          refine cl_R_acp G pm_M41 T261 (N := 3) (pc_q := 17) rfl rfl rfl e269 e263 (Or.inl rfl) ⟨_, rfl⟩ rfl (by decide) (by decide) B268 (by decide) (by decide) (Nat.le_of_ble_eq_true rfl) rfl (fun h270 T271 F272 e273 => ?_)
          have F274 := F272.cl (ck := ck) T261.1
          have F275 := F265.trans (N := 0) (S := 0) F274 (by decide) (by decide) (by decide)
          refine pm_R_lo pm_M41 (pc_q := 18) rfl rfl rfl ?_
          refine pm_R_op pm_M41 (pc_q := 19) (st_q := [.int 1, .int (m 5)]) rfl rfl rfl ?_
          refine sf_R_iadd pm_M41 (pc_q := 20) rfl rfl (sf_eqT (cl_aux70 _ _ ek245) B244) sf_k1 (by decide) (by decide) (fun z276 e277 B278 => ?_)
          refine pm_R_ret pm_M41 (r := some (.int z276)) rfl (pm_ret_i _) ?_
          show pm_R _ 42 86 [.ref 25, .int 4] [.int z276, .ref 25] _ _
          refine cl_R_put25 G pm_M42 T271 (k := 5) (pc_q := 89) rfl rfl rfl (by decide) rfl rfl (sf_weak B278 (by decide) (by decide)) rfl rfl rfl rfl rfl (fun h279 m282 em283 T280 F281 => ?_)
          have F284 := F281.cl (ck := ck) T271.1
          have F285 := F275.trans (N := 0) (S := 0) F284 (by decide) (by decide) (by decide)
          have B286 : sf_B 0 16 (m282 6) := by rw [em283]; exact B246
          have ek287 : (m282 6).toInt = ((m 6)).toInt := by rw [em283]; exact ek247
          have B288 : sf_B 0 99 (m282 7) := by rw [em283]; exact B248
          have ek289 : (m282 7).toInt = ((m 7)).toInt := by rw [em283]; exact ek249
          have B290 : sf_B 0 4 (m282 3) := by rw [em283]; exact B250
          have ek291 : (m282 3).toInt = ((m150 3)).toInt := by rw [em283]; exact ek251
          have B292 : sf_B 3 3 (m282 12) := by rw [em283]; exact B252
          have B293 : sf_B 0 99 (m282 8) := by rw [em283]; exact B253
          have ek294 : (m282 8).toInt = (z233).toInt := by rw [em283]; exact ek254
          have B295 : sf_B 1 50 (m282 5) := by rw [em283]; exact B278
          have ek296 : (m282 5).toInt = (z276).toInt := by rw [em283]; rfl
          have W297 : rf_W [3, 4, 5, 6, 7, 8, 10, 11, 12, 13] m m282 := by rw [em283]; exact W255.put (by decide)
          refine pm_R_ret pm_M42 (r := none) rfl rfl ?_
          show pm_R _ 40 123 [.ref 25, .int 4] [] _ _
          refine pm_R_ret pm_M40 (r := none) rfl rfl ?_
          show pm_R _ 37 139 [.ref 25, .int 4, .int 2] [] _ _
          refine pm_R_op pm_M37 (pc_q := 140) (st_q := [.int 1]) (pm_q37_1 (Nat.le_of_ble_eq_true rfl)) rfl rfl ?_
          have e298 := (F284.cell G (by decide) (by decide) e273)
          have e299 := (F284.cell G (by decide) (by decide) (F274.cell G (by decide) (by decide) (F264.cell G (by decide) (by decide) (F242.cell G (by decide) (by decide) (F215.cell G (by decide) (by decide) (F177.cell G (by decide) (by decide) (F153.cell G (by decide) (by decide) (F146.cell G (by decide) (by decide) (F123.cell G (by decide) (by decide) (F99.cell G (by decide) (by decide) (F92.cell G (by decide) (by decide) (F69.cell G (by decide) (by decide) (F59.cell G (by decide) (by decide) (F53.cell G (by decide) (by decide) (F47.cell G (by decide) (by decide) (F41.cell G (by decide) (by decide) (F20.cell G (by decide) (by decide) e2)))))))))))))))))
          have e300 := (F284.cell G (by decide) (by decide) (F274.cell G (by decide) (by decide) (F264.cell G (by decide) (by decide) (F242.cell G (by decide) (by decide) (F215.cell G (by decide) (by decide) (F177.cell G (by decide) (by decide) (F153.cell G (by decide) (by decide) (F146.cell G (by decide) (by decide) (F123.cell G (by decide) (by decide) (F99.cell G (by decide) (by decide) (F92.cell G (by decide) (by decide) (F69.cell G (by decide) (by decide) (F59.cell G (by decide) (by decide) (F53.cell G (by decide) (by decide) (F47.cell G (by decide) (by decide) (F41.cell G (by decide) (by decide) (F20.cell G (by decide) (by decide) e8)))))))))))))))))
          exact pm_R_ret pm_M37 (r := some (.int 1)) (pm_q37_1 (Nat.le_of_ble_eq_true rfl)) rfl (K 1 m282 h279 T280 F285 W297 (fun z => ⟨_, _, e298, e300, (R.at (cl_aux67 _ (X22 (cl_aux68 _ _ ek81 (q114 (cl_aux68 _ _ ek135 (q168 (cl_aux68 _ _ ek291 z)).1)).1)).1) e5 e8).deed ((cl_tnI (Int.le_trans (by decide) B258.1)).trans (cl_aux75 _ _ e257)) ((cl_tnI (Int.le_trans (by decide) B268.1)).trans (cl_aux7 _ _ _ e257 e267)) (sf_weak sf_k0 (by decide) (by decide)) (Int.le_trans (by decide) (sf_eqL (Eq.trans (sf_upd_nec (k := Int32.toNatClampNeg 1) (j := Int32.toNatClampNeg 0) (by decide)) sf_upd_eq) B199).1) (Int.le_trans (Int.le_of_eq (congrArg Int32.toInt (Eq.trans (sf_upd_nec (k := Int32.toNatClampNeg 1) (j := Int32.toNatClampNeg 0) (by decide)) sf_upd_eq))) (cl_aux76 _ _ _ _ _ _ ek294 (Int32.le_iff_toInt_le.mp q208) (Int32.le_iff_toInt_le.mp q209) (Int32.le_iff_toInt_le.mp q235) (Int32.le_iff_toInt_le.mp q236) B234.1 B234.2 B293.1 B293.2 B199.1 B199.2 B14.1 B14.2 B207.1 B207.2 B198.1 B198.2)) (sf_eqL sf_upd_eq (sf_weak B198 (by decide) (by decide))) (fun q => absurd q (by decide)) (cl_aux25 _ _ _ e277 ek296) (cl_aux3 _ _ ek289) (cl_aux77 _ _ _ _ _ _ ek294 (Int32.le_iff_toInt_le.mp q208) (Int32.le_iff_toInt_le.mp q209) (Int32.le_iff_toInt_le.mp q235) (Int32.le_iff_toInt_le.mp q236) B234.1 B234.2 B293.1 B293.2 B199.1 B199.2 B14.1 B14.2 B207.1 B207.2 B198.1 B198.2)⟩) ⟨_, e299, b3⟩ (sf_weak sf_k1 (by decide) (by decide)))
        · have B301 : sf_B 1 4 (m150 3) := sf_neL0 c194 sf_k0 B167
          refine pm_R_ret pm_M40 (r := none) rfl rfl ?_
          show pm_R _ 37 139 [.ref 25, .int 4, .int 2] [] _ _
          refine pm_R_op pm_M37 (pc_q := 140) (st_q := [.int 1]) (pm_q37_1 (Nat.le_of_ble_eq_true rfl)) rfl rfl ?_
          have e302 := (F177.cell G (by decide) (by decide) (F153.cell G (by decide) (by decide) (F146.cell G (by decide) (by decide) (F123.cell G (by decide) (by decide) (F99.cell G (by decide) (by decide) (F92.cell G (by decide) (by decide) (F69.cell G (by decide) (by decide) (F59.cell G (by decide) (by decide) (F53.cell G (by decide) (by decide) (F47.cell G (by decide) (by decide) (F41.cell G (by decide) (by decide) (F20.cell G (by decide) (by decide) e2))))))))))))
          have e303 := (F177.cell G (by decide) (by decide) (F153.cell G (by decide) (by decide) (F146.cell G (by decide) (by decide) (F123.cell G (by decide) (by decide) (F99.cell G (by decide) (by decide) (F92.cell G (by decide) (by decide) (F69.cell G (by decide) (by decide) (F59.cell G (by decide) (by decide) (F53.cell G (by decide) (by decide) (F47.cell G (by decide) (by decide) (F41.cell G (by decide) (by decide) (F20.cell G (by decide) (by decide) e5))))))))))))
          have e304 := (F177.cell G (by decide) (by decide) (F153.cell G (by decide) (by decide) (F146.cell G (by decide) (by decide) (F123.cell G (by decide) (by decide) (F99.cell G (by decide) (by decide) (F92.cell G (by decide) (by decide) (F69.cell G (by decide) (by decide) (F59.cell G (by decide) (by decide) (F53.cell G (by decide) (by decide) (F47.cell G (by decide) (by decide) (F41.cell G (by decide) (by decide) (F20.cell G (by decide) (by decide) e8))))))))))))
          exact pm_R_ret pm_M37 (r := some (.int 1)) (pm_q37_1 (Nat.le_of_ble_eq_true rfl)) rfl (K 1 m174 h175 T176 F179 W190 (fun z => ⟨_, _, e303, e304, (R.at (cl_aux67 _ (X22 (cl_aux68 _ _ ek81 (q114 (cl_aux68 _ _ ek135 (q168 (cl_aux68 _ _ ek189 z)).1)).1)).1) e5 e8).keep (cl_aux3 _ _ ek181) (cl_aux3 _ _ ek183) (cl_aux3 _ _ ek185) (cl_aux3 _ _ ek187)⟩) ⟨_, e302, b3⟩ (sf_weak sf_k1 (by decide) (by decide)))
      · skip
        refine pm_R_op pm_M37 (pc_q := 133) (st_q := [.int 0]) (pm_q37_1 (Nat.le_of_ble_eq_true rfl)) rfl rfl ?_
        have e305 := (F177.cell G (by decide) (by decide) (F153.cell G (by decide) (by decide) (F146.cell G (by decide) (by decide) (F123.cell G (by decide) (by decide) (F99.cell G (by decide) (by decide) (F92.cell G (by decide) (by decide) (F69.cell G (by decide) (by decide) (F59.cell G (by decide) (by decide) (F53.cell G (by decide) (by decide) (F47.cell G (by decide) (by decide) (F41.cell G (by decide) (by decide) (F20.cell G (by decide) (by decide) e2))))))))))))
        have e306 := (F177.cell G (by decide) (by decide) (F153.cell G (by decide) (by decide) (F146.cell G (by decide) (by decide) (F123.cell G (by decide) (by decide) (F99.cell G (by decide) (by decide) (F92.cell G (by decide) (by decide) (F69.cell G (by decide) (by decide) (F59.cell G (by decide) (by decide) (F53.cell G (by decide) (by decide) (F47.cell G (by decide) (by decide) (F41.cell G (by decide) (by decide) (F20.cell G (by decide) (by decide) e5))))))))))))
        have e307 := (F177.cell G (by decide) (by decide) (F153.cell G (by decide) (by decide) (F146.cell G (by decide) (by decide) (F123.cell G (by decide) (by decide) (F99.cell G (by decide) (by decide) (F92.cell G (by decide) (by decide) (F69.cell G (by decide) (by decide) (F59.cell G (by decide) (by decide) (F53.cell G (by decide) (by decide) (F47.cell G (by decide) (by decide) (F41.cell G (by decide) (by decide) (F20.cell G (by decide) (by decide) e8))))))))))))
        exact pm_R_ret pm_M37 (r := some (.int 0)) (pm_q37_1 (Nat.le_of_ble_eq_true rfl)) rfl (K 0 m174 h175 T176 F179 W190 (fun z => ⟨_, _, e306, e307, (R.at (cl_aux67 _ (X22 (cl_aux68 _ _ ek81 (q114 (cl_aux68 _ _ ek135 (q168 (cl_aux68 _ _ ek189 z)).1)).1)).1) e5 e8).keep (cl_aux3 _ _ ek181) (cl_aux3 _ _ ek183) (cl_aux3 _ _ ek185) (cl_aux3 _ _ ek187)⟩) ⟨_, e305, b3⟩ (sf_weak sf_k0 (by decide) (by decide)))
    · skip
      refine pm_R_op pm_M37 (pc_q := 50) (st_q := [.int 0]) rfl rfl rfl ?_
      have e308 := (F123.cell G (by decide) (by decide) (F99.cell G (by decide) (by decide) (F92.cell G (by decide) (by decide) (F69.cell G (by decide) (by decide) (F59.cell G (by decide) (by decide) (F53.cell G (by decide) (by decide) (F47.cell G (by decide) (by decide) (F41.cell G (by decide) (by decide) (F20.cell G (by decide) (by decide) e2)))))))))
      have e309 := (F123.cell G (by decide) (by decide) (F99.cell G (by decide) (by decide) (F92.cell G (by decide) (by decide) (F69.cell G (by decide) (by decide) (F59.cell G (by decide) (by decide) (F53.cell G (by decide) (by decide) (F47.cell G (by decide) (by decide) (F41.cell G (by decide) (by decide) (F20.cell G (by decide) (by decide) e5)))))))))
      have e310 := (F123.cell G (by decide) (by decide) (F99.cell G (by decide) (by decide) (F92.cell G (by decide) (by decide) (F69.cell G (by decide) (by decide) (F59.cell G (by decide) (by decide) (F53.cell G (by decide) (by decide) (F47.cell G (by decide) (by decide) (F41.cell G (by decide) (by decide) (F20.cell G (by decide) (by decide) e8)))))))))
      exact pm_R_ret pm_M37 (r := some (.int 0)) rfl rfl (K 0 m120 h121 T122 F125 W136 (fun z => ⟨_, _, e309, e310, (R.at (cl_aux67 _ (X22 (cl_aux68 _ _ ek81 (q114 (cl_aux68 _ _ ek135 z)).1)).1) e5 e8).keep (cl_aux3 _ _ ek127) (cl_aux3 _ _ ek129) (cl_aux3 _ _ ek131) (cl_aux3 _ _ ek133)⟩) ⟨_, e308, b3⟩ (sf_weak sf_k0 (by decide) (by decide)))
  · skip
    refine pm_R_op pm_M37 (pc_q := 50) (st_q := [.int 0]) rfl rfl rfl ?_
    have e311 := (F69.cell G (by decide) (by decide) (F59.cell G (by decide) (by decide) (F53.cell G (by decide) (by decide) (F47.cell G (by decide) (by decide) (F41.cell G (by decide) (by decide) (F20.cell G (by decide) (by decide) e2))))))
    have e312 := (F69.cell G (by decide) (by decide) (F59.cell G (by decide) (by decide) (F53.cell G (by decide) (by decide) (F47.cell G (by decide) (by decide) (F41.cell G (by decide) (by decide) (F20.cell G (by decide) (by decide) e5))))))
    have e313 := (F69.cell G (by decide) (by decide) (F59.cell G (by decide) (by decide) (F53.cell G (by decide) (by decide) (F47.cell G (by decide) (by decide) (F41.cell G (by decide) (by decide) (F20.cell G (by decide) (by decide) e8))))))
    exact pm_R_ret pm_M37 (r := some (.int 0)) rfl rfl (K 0 m66 h67 T68 F71 W82 (fun z => ⟨_, _, e312, e313, (R.at (cl_aux67 _ (X22 (cl_aux68 _ _ ek81 z)).1) e5 e8).keep (cl_aux3 _ _ ek73) (cl_aux3 _ _ ek75) (cl_aux3 _ _ ek77) (cl_aux3 _ _ ek79)⟩) ⟨_, e311, b3⟩ (sf_weak sf_k0 (by decide) (by decide)))

theorem cl_aux78 (v0 v1 v2 v3 : Int) (q0 : v0 = v1) (q1 : v2 ≤ v1) (q2 : v3 ≤ v1) (q3 : 0 ≤ v1) (q4 : v1 ≤ 99) (q5 : 0 ≤ v0) (q6 : v0 ≤ 99) (q7 : 0 ≤ v3) (q8 : v3 ≤ 5) (q9 : (-1) ≤ v2) (q10 : v2 ≤ 99) : v3 ≤ v0 := by omega
theorem cl_aux79 (v0 v1 v2 v3 : Int) (q0 : v0 = v1) (q1 : v2 ≤ v1) (q2 : v3 ≤ v1) (q3 : 0 ≤ v1) (q4 : v1 ≤ 99) (q5 : 0 ≤ v0) (q6 : v0 ≤ 99) (q7 : 0 ≤ v3) (q8 : v3 ≤ 5) (q9 : (-1) ≤ v2) (q10 : v2 ≤ 99) : v2 ≤ v0 := by omega
set_option maxRecDepth 100000 in
set_option maxHeartbeats 4000000 in
/-- SilentTable$TextReader.readLine -/
theorem cl_c37_5 {d : Nat} {ck : cl_K} {E : Nat → pm_E} {m : Nat → Int32} {o : Nat → Option Nat} {h : pm_H} {Q : Option Value → pm_H → Prop}  (G : cl_G ck E) (T : cl_T ck E m o h) (R : cl_Rd 2 m h) (Y : cl_Y h) (K : ∀ (r : Int32) (m_q : Nat → Int32) (h_q : pm_H), cl_T ck E m_q o h_q → cl_F ck [25, 26, 29, 30] 0 0 h h_q → rf_W [3, 4, 5, 6, 7, 8, 10, 11, 12, 13] m m_q → cl_Rd 2 m_q h_q → cl_Y h_q → sf_B 0 1 r → Q (some (.int r)) h_q) : pm_R (d + 7) 37 0 [.ref 25, .int 5, pm_no] [] h Q := by
  obtain ⟨f1, e2, b3⟩ := Y
  obtain ⟨f4, e5⟩ := T.C 26 (by decide) (by decide)
  obtain ⟨f7, e8⟩ := T.C 27 (by decide) (by decide)
  have B10 : sf_B 0 4 (m 3) := T.B 3
  have B11 : sf_B 0 50 (m 5) := T.B 5
  have B12 : sf_B 0 16 (m 6) := T.B 6
  have B13 : sf_B 0 99 (m 7) := T.B 7
  have B14 : sf_B (-1) 99 (m 8) := T.B 8
  refine pm_R_lo pm_M37 (pc_q := 1) rfl rfl rfl ?_
  refine pm_R_op pm_M37 (pc_q := 2) (st_q := [.int (-1), .int 5]) rfl rfl rfl ?_
  refine pm_R_br pm_M37 (pc_q := 7) (st_q := []) rfl rfl ?_
  refine pm_R_lo pm_M37 (pc_q := 8) rfl rfl rfl ?_
  refine pm_R_lo pm_M37 (pc_q := 9) rfl rfl rfl ?_
  refine pm_R_cv pm_M37 (pc_q := 12) (a := 25) (ra := [.int 5]) (rest := []) (ls_q := [.ref 25, .int 5, pm_no, pm_no]) rfl rfl (Or.inl rfl) pm_M38 T.e25 rfl (by decide) (T.lt (by decide)) rfl rfl (Nat.le_of_ble_eq_true rfl) rfl rfl ?_
  refine cl_c38_5 (d := d + 5) G T  (fun m17 h18 T19 F20 W21 X22 => ?_)
  have F23 := (cl_F.refl (ck := ck) (A := [25, 26, 29, 30]) (n := 0) (s := 0) T.1).trans (N := 0) (S := 0) F20 (by decide) (by decide) (by decide)
  have B24 : sf_B 0 50 (m17 5) := by rw [W21 5 (by decide)]; exact B11
  have ek25 : (m17 5).toInt = ((m 5)).toInt := by rw [W21 5 (by decide)]
  have B26 : sf_B 0 16 (m17 6) := by rw [W21 6 (by decide)]; exact B12
  have ek27 : (m17 6).toInt = ((m 6)).toInt := by rw [W21 6 (by decide)]
  have B28 : sf_B 0 99 (m17 7) := by rw [W21 7 (by decide)]; exact B13
  have ek29 : (m17 7).toInt = ((m 7)).toInt := by rw [W21 7 (by decide)]
  have B30 : sf_B (-1) 99 (m17 8) := by rw [W21 8 (by decide)]; exact B14
  have ek31 : (m17 8).toInt = ((m 8)).toInt := by rw [W21 8 (by decide)]
  have W32 : rf_W [3, 4, 5, 6, 7, 8, 10, 11, 12, 13] m m17 := (rf_W.refl [3, 4, 5, 6, 7, 8, 10, 11, 12, 13] m).trans W21 (by decide)
  have B33 : sf_B 0 4 (m17 3) := T19.B 3
  show pm_R _ 37 12 [.ref 25, .int 5, pm_no] [] _ _
  refine pm_R_lo pm_M37 (pc_q := 13) rfl rfl rfl ?_
  refine pm_R_get pm_M37 (pc_q := 16) (v := .ref 29) rfl rfl T19.e25 (by decide) (T19.lt (by decide)) rfl rfl ?_
  refine pm_R_op pm_M37 (pc_q := 17) (st_q := [.int (-1), .ref 29]) rfl rfl rfl ?_
  refine pm_R_cs pm_M37 (pc_q := 20) (ra := [.int (-1), .ref 29]) (rest := []) (ls_q := [.ref 29, .int (-1), pm_no, pm_no]) rfl rfl (Or.inl rfl) pm_M13 rfl rfl (Nat.le_of_ble_eq_true rfl) rfl rfl ?_
  refine pm_R_op pm_M13 (pc_q := 1) (st_q := [.int 0]) rfl rfl rfl ?_
  refine pm_R_lo pm_M13 (pc_q := 2) (ls_q := [.ref 29, .int (-1), .int 0, pm_no]) (st_q := []) rfl rfl rfl ?_
  refine pm_R_lo pm_M13 (pc_q := 3) rfl rfl rfl ?_
  obtain ⟨f34, e35⟩ := T19.C 29 (by decide) (by decide)
  refine pm_R_alen pm_M13 (pc_q := 4) (v := 4) rfl e35 (by decide) (T19.lt (by decide)) (by decide) rfl rfl ?_
  refine pm_R_lo pm_M13 (pc_q := 5) (ls_q := [.ref 29, .int (-1), .int 0, .int 4]) (st_q := []) rfl rfl rfl ?_
  refine pm_R_lo pm_M13 (pc_q := 6) rfl rfl rfl ?_
  refine pm_R_lo pm_M13 (pc_q := 7) rfl rfl rfl ?_
  refine pm_R_br pm_M13 (pc_q := 10) (st_q := []) rfl rfl ?_
  refine pm_R_lo pm_M13 (pc_q := 11) rfl rfl rfl ?_
  refine pm_R_lo pm_M13 (pc_q := 12) rfl rfl rfl ?_
  refine pm_R_lo pm_M13 (pc_q := 13) rfl rfl rfl ?_
  refine cl_R_ist G pm_M13 T19 (pc_q := 14) rfl e35 (by decide) ⟨_, rfl⟩ rfl rfl (fun h37 T38 F39 e40 => ?_)
  have F41 := F39.cl (ck := ck) T19.1
  have F42 := F23.trans (N := 0) (S := 0) F41 (by decide) (by decide) (by decide)
  refine pm_R_lo pm_M13 (pc_q := 17) (ls_q := [.ref 29, .int (-1), .int 1, .int 4]) (st_q := []) rfl rfl rfl ?_
  refine pm_R_br pm_M13 (pc_q := 5) rfl rfl ?_
  refine pm_R_lo pm_M13 (pc_q := 6) rfl rfl rfl ?_
  refine pm_R_lo pm_M13 (pc_q := 7) rfl rfl rfl ?_
  refine pm_R_br pm_M13 (pc_q := 10) (st_q := []) rfl rfl ?_
  refine pm_R_lo pm_M13 (pc_q := 11) rfl rfl rfl ?_
  refine pm_R_lo pm_M13 (pc_q := 12) rfl rfl rfl ?_
  refine pm_R_lo pm_M13 (pc_q := 13) rfl rfl rfl ?_
  refine cl_R_ist G pm_M13 T38 (pc_q := 14) rfl e40 (by decide) ⟨_, rfl⟩ rfl rfl (fun h43 T44 F45 e46 => ?_)
  have F47 := F45.cl (ck := ck) T38.1
  have F48 := F42.trans (N := 0) (S := 0) F47 (by decide) (by decide) (by decide)
  refine pm_R_lo pm_M13 (pc_q := 17) (ls_q := [.ref 29, .int (-1), .int 2, .int 4]) (st_q := []) rfl rfl rfl ?_
  refine pm_R_br pm_M13 (pc_q := 5) rfl rfl ?_
  refine pm_R_lo pm_M13 (pc_q := 6) rfl rfl rfl ?_
  refine pm_R_lo pm_M13 (pc_q := 7) rfl rfl rfl ?_
  refine pm_R_br pm_M13 (pc_q := 10) (st_q := []) rfl rfl ?_
  refine pm_R_lo pm_M13 (pc_q := 11) rfl rfl rfl ?_
  refine pm_R_lo pm_M13 (pc_q := 12) rfl rfl rfl ?_
  refine pm_R_lo pm_M13 (pc_q := 13) rfl rfl rfl ?_
  refine cl_R_ist G pm_M13 T44 (pc_q := 14) rfl e46 (by decide) ⟨_, rfl⟩ rfl rfl (fun h49 T50 F51 e52 => ?_)
  have F53 := F51.cl (ck := ck) T44.1
  have F54 := F48.trans (N := 0) (S := 0) F53 (by decide) (by decide) (by decide)
  refine pm_R_lo pm_M13 (pc_q := 17) (ls_q := [.ref 29, .int (-1), .int 3, .int 4]) (st_q := []) rfl rfl rfl ?_
  refine pm_R_br pm_M13 (pc_q := 5) rfl rfl ?_
  refine pm_R_lo pm_M13 (pc_q := 6) rfl rfl rfl ?_
  refine pm_R_lo pm_M13 (pc_q := 7) rfl rfl rfl ?_
  refine pm_R_br pm_M13 (pc_q := 10) (st_q := []) rfl rfl ?_
  refine pm_R_lo pm_M13 (pc_q := 11) rfl rfl rfl ?_
  refine pm_R_lo pm_M13 (pc_q := 12) rfl rfl rfl ?_
  refine pm_R_lo pm_M13 (pc_q := 13) rfl rfl rfl ?_
  refine cl_R_ist G pm_M13 T50 (pc_q := 14) rfl e52 (by decide) ⟨_, rfl⟩ rfl rfl (fun h55 T56 F57 e58 => ?_)
  have F59 := F57.cl (ck := ck) T50.1
  have F60 := F54.trans (N := 0) (S := 0) F59 (by decide) (by decide) (by decide)
  refine pm_R_lo pm_M13 (pc_q := 17) (ls_q := [.ref 29, .int (-1), .int 4, .int 4]) (st_q := []) rfl rfl rfl ?_
  refine pm_R_br pm_M13 (pc_q := 5) rfl rfl ?_
  refine pm_R_lo pm_M13 (pc_q := 6) rfl rfl rfl ?_
  refine pm_R_lo pm_M13 (pc_q := 7) rfl rfl rfl ?_
  refine pm_R_br pm_M13 (pc_q := 20) (st_q := []) rfl rfl ?_
  refine pm_R_ret pm_M13 (r := none) rfl rfl ?_
  show pm_R _ 37 20 [.ref 25, .int 5, pm_no] [] _ _
  refine pm_R_op pm_M37 (pc_q := 21) (st_q := [.int 0]) rfl rfl rfl ?_
  refine pm_R_lo pm_M37 (pc_q := 22) (ls_q := [.ref 25, .int 5, .int 0]) (st_q := []) rfl rfl rfl ?_
  refine pm_R_lo pm_M37 (pc_q := 23) rfl rfl rfl ?_
  refine pm_R_stat pm_M37 (pc_q := 26) rfl rfl rfl ?_
  refine pm_R_lo pm_M37 (pc_q := 27) rfl rfl rfl ?_
  refine pm_R_iald pm_M37 (pc_q := 28) (v := 1) rfl ((T56.old (by decide)).trans G.tb2) (T56.lt (by decide)) rfl rfl rfl ?_
  refine pm_R_br pm_M37 (pc_q := 31) (st_q := []) rfl rfl ?_
  refine pm_R_lo pm_M37 (pc_q := 32) rfl rfl rfl ?_
  refine pm_R_get pm_M37 (pc_q := 35) (v := .ref 30) rfl rfl T56.e25 (by decide) (T56.lt (by decide)) rfl rfl ?_
  refine pm_R_cv pm_M37 (pc_q := 38) (a := 30) (ra := []) (rest := []) (ls_q := [.ref 30]) rfl rfl (Or.inl rfl) pm_M16 T56.e30 rfl (by decide) (T56.lt (by decide)) rfl rfl (Nat.le_of_ble_eq_true rfl) rfl rfl ?_
  refine cl_c16 (d := d + 4) G T56  (fun m66 h67 T68 F69 W70 => ?_)
  have F71 := F60.trans (N := 0) (S := 0) F69 (by decide) (by decide) (by decide)
  have B72 : sf_B 0 50 (m66 5) := by rw [W70 5 (by decide)]; exact B24
  have ek73 : (m66 5).toInt = ((m 5)).toInt := by rw [W70 5 (by decide)]; exact ek25
  have B74 : sf_B 0 16 (m66 6) := by rw [W70 6 (by decide)]; exact B26
  have ek75 : (m66 6).toInt = ((m 6)).toInt := by rw [W70 6 (by decide)]; exact ek27
  have B76 : sf_B 0 99 (m66 7) := by rw [W70 7 (by decide)]; exact B28
  have ek77 : (m66 7).toInt = ((m 7)).toInt := by rw [W70 7 (by decide)]; exact ek29
  have B78 : sf_B (-1) 99 (m66 8) := by rw [W70 8 (by decide)]; exact B30
  have ek79 : (m66 8).toInt = ((m 8)).toInt := by rw [W70 8 (by decide)]; exact ek31
  have B80 : sf_B 0 4 (m66 3) := by rw [W70 3 (by decide)]; exact B33
  have ek81 : (m66 3).toInt = ((m17 3)).toInt := by rw [W70 3 (by decide)]
  have W82 : rf_W [3, 4, 5, 6, 7, 8, 10, 11, 12, 13] m m66 := W32.trans W70 (by decide)
  show pm_R _ 37 38 [.ref 25, .int 5, .int 0] [] _ _
  refine pm_R_lo pm_M37 (pc_q := 39) rfl rfl rfl ?_
  refine pm_R_get pm_M37 (pc_q := 42) (v := .ref 30) rfl rfl T68.e25 (by decide) (T68.lt (by decide)) rfl rfl ?_
  have B83 : sf_B 0 4 (m66 12) := T68.B 12
  refine pm_R_get pm_M37 (pc_q := 45) (v := .int (m66 12)) rfl rfl T68.e30 (by decide) (T68.lt (by decide)) rfl rfl ?_
  refine pm_R_op pm_M37 (pc_q := 46) (st_q := [.int 2, .int (m66 12)]) rfl rfl rfl ?_
  refine pm_R_icmp pm_M37 (t := 51) (pc_q := 49) rfl rfl rfl (fun c84 => ?_) (fun c84 => ?_)
  · have B85 : sf_B 2 2 (m66 12) := sf_eqL c84 sf_k2
    refine pm_R_lo pm_M37 (pc_q := 52) rfl rfl rfl ?_
    refine pm_R_get pm_M37 (pc_q := 55) (v := .ref 29) rfl rfl T68.e25 (by decide) (T68.lt (by decide)) rfl rfl ?_
    refine pm_R_lo pm_M37 (pc_q := 56) rfl rfl rfl ?_
    refine pm_R_lo pm_M37 (pc_q := 57) rfl rfl rfl ?_
    refine pm_R_get pm_M37 (pc_q := 60) (v := .ref 30) rfl rfl T68.e25 (by decide) (T68.lt (by decide)) rfl rfl ?_
    have B86 : sf_B 0 99 (m66 13) := T68.B 13
    refine pm_R_get pm_M37 (pc_q := 63) (v := .int (m66 13)) rfl rfl T68.e30 (by decide) (T68.lt (by decide)) rfl rfl ?_
    have e87 := (F69.cell G (by decide) (by decide) e58)
    refine cl_R_ist G pm_M37 T68 (pc_q := 64) rfl e87 (by decide) ⟨_, rfl⟩ rfl rfl (fun h88 T89 F90 e91 => ?_)
    have F92 := F90.cl (ck := ck) T68.1
    have F93 := F71.trans (N := 0) (S := 0) F92 (by decide) (by decide) (by decide)
    refine pm_R_lo pm_M37 (pc_q := 65) rfl rfl rfl ?_
    refine pm_R_lo pm_M37 (pc_q := 66) rfl rfl rfl ?_
    refine pm_R_lo pm_M37 (pc_q := 67) rfl rfl rfl ?_
    refine pm_R_cv pm_M37 (pc_q := 70) (a := 25) (ra := [.int 0, .int 5]) (rest := []) (ls_q := [.ref 25, .int 5, .int 0, pm_no, pm_no, pm_no]) rfl rfl (Or.inl rfl) pm_M39 T89.e25 rfl (by decide) (T89.lt (by decide)) rfl rfl (Nat.le_of_ble_eq_true rfl) rfl rfl ?_
    refine cl_c39_5_0 (d := d + 5) G T89  (fun m96 h97 T98 F99 W100 X101 => ?_)
    have F102 := F93.trans (N := 0) (S := 0) F99 (by decide) (by decide) (by decide)
    have B103 : sf_B 0 50 (m96 5) := by rw [W100 5 (by decide)]; exact B72
    have ek104 : (m96 5).toInt = ((m 5)).toInt := by rw [W100 5 (by decide)]; exact ek73
    have B105 : sf_B 0 16 (m96 6) := by rw [W100 6 (by decide)]; exact B74
    have ek106 : (m96 6).toInt = ((m 6)).toInt := by rw [W100 6 (by decide)]; exact ek75
    have B107 : sf_B 0 99 (m96 7) := by rw [W100 7 (by decide)]; exact B76
    have ek108 : (m96 7).toInt = ((m 7)).toInt := by rw [W100 7 (by decide)]; exact ek77
    have B109 : sf_B (-1) 99 (m96 8) := by rw [W100 8 (by decide)]; exact B78
    have ek110 : (m96 8).toInt = ((m 8)).toInt := by rw [W100 8 (by decide)]; exact ek79
    have B111 : sf_B 2 2 (m96 12) := by rw [W100 12 (by decide)]; exact B85
    have W112 : rf_W [3, 4, 5, 6, 7, 8, 10, 11, 12, 13] m m96 := W82.trans W100 (by decide)
    have B113 : sf_B 0 4 (m96 3) := T98.B 3
    show pm_R _ 37 70 [.ref 25, .int 5, .int 0] [] _ _
    have q114 := X101 _ e91
    refine pm_R_lo pm_M37 (pc_q := 73) (ls_q := [.ref 25, .int 5, .int 1]) (st_q := []) rfl rfl rfl ?_
    refine pm_R_br pm_M37 (pc_q := 22) rfl rfl ?_
    refine pm_R_lo pm_M37 (pc_q := 23) rfl rfl rfl ?_
    refine pm_R_stat pm_M37 (pc_q := 26) rfl rfl rfl ?_
    refine pm_R_lo pm_M37 (pc_q := 27) rfl rfl rfl ?_
    refine pm_R_iald pm_M37 (pc_q := 28) (v := 1) rfl ((T98.old (by decide)).trans G.tb2) (T98.lt (by decide)) rfl rfl rfl ?_
    refine pm_R_br pm_M37 (pc_q := 76) (st_q := []) rfl rfl ?_
    refine pm_R_lo pm_M37 (pc_q := 77) rfl rfl rfl ?_
    refine pm_R_br pm_M37 (pc_q := 114) (st_q := []) rfl rfl ?_
    refine pm_R_lo pm_M37 (pc_q := 115) (pm_q37_1 (Nat.le_of_ble_eq_true rfl)) rfl rfl ?_
    refine pm_R_get pm_M37 (pc_q := 118) (v := .ref 30) (pm_q37_1 (Nat.le_of_ble_eq_true rfl)) rfl T98.e25 (by decide) (T98.lt (by decide)) rfl rfl ?_
    refine pm_R_cv pm_M37 (pc_q := 121) (a := 30) (ra := []) (rest := []) (ls_q := [.ref 30]) (pm_q37_1 (Nat.le_of_ble_eq_true rfl)) rfl (Or.inl rfl) pm_M16 T98.e30 rfl (by decide) (T98.lt (by decide)) rfl rfl (Nat.le_of_ble_eq_true rfl) rfl rfl ?_
    refine cl_c16 (d := d + 4) G T98  (fun m120 h121 T122 F123 W124 => ?_)
    have F125 := F102.trans (N := 0) (S := 0) F123 (by decide) (by decide) (by decide)
    have B126 : sf_B 0 50 (m120 5) := by rw [W124 5 (by decide)]; exact B103
    have ek127 : (m120 5).toInt = ((m 5)).toInt := by rw [W124 5 (by decide)]; exact ek104
    have B128 : sf_B 0 16 (m120 6) := by rw [W124 6 (by decide)]; exact B105
    have ek129 : (m120 6).toInt = ((m 6)).toInt := by rw [W124 6 (by decide)]; exact ek106
    have B130 : sf_B 0 99 (m120 7) := by rw [W124 7 (by decide)]; exact B107
    have ek131 : (m120 7).toInt = ((m 7)).toInt := by rw [W124 7 (by decide)]; exact ek108
    have B132 : sf_B (-1) 99 (m120 8) := by rw [W124 8 (by decide)]; exact B109
    have ek133 : (m120 8).toInt = ((m 8)).toInt := by rw [W124 8 (by decide)]; exact ek110
    have B134 : sf_B 0 4 (m120 3) := by rw [W124 3 (by decide)]; exact B113
    have ek135 : (m120 3).toInt = ((m96 3)).toInt := by rw [W124 3 (by decide)]
    have W136 : rf_W [3, 4, 5, 6, 7, 8, 10, 11, 12, 13] m m120 := W112.trans W124 (by decide)
    show pm_R _ 37 121 [.ref 25, .int 5, .int 1] [] _ _
    refine pm_R_lo pm_M37 (pc_q := 122) (pm_q37_1 (Nat.le_of_ble_eq_true rfl)) rfl rfl ?_
    refine pm_R_get pm_M37 (pc_q := 125) (v := .ref 30) (pm_q37_1 (Nat.le_of_ble_eq_true rfl)) rfl T122.e25 (by decide) (T122.lt (by decide)) rfl rfl ?_
    have B137 : sf_B 0 4 (m120 12) := T122.B 12
    refine pm_R_get pm_M37 (pc_q := 128) (v := .int (m120 12)) (pm_q37_1 (Nat.le_of_ble_eq_true rfl)) rfl T122.e30 (by decide) (T122.lt (by decide)) rfl rfl ?_
    refine pm_R_op pm_M37 (pc_q := 129) (st_q := [.int 3, .int (m120 12)]) (pm_q37_1 (Nat.le_of_ble_eq_true rfl)) rfl rfl ?_
    refine pm_R_icmp pm_M37 (t := 134) (pc_q := 132) (pm_q37_1 (Nat.le_of_ble_eq_true rfl)) rfl rfl (fun c138 => ?_) (fun c138 => ?_)
    · have B139 : sf_B 3 3 (m120 12) := sf_eqL c138 sf_k3
      refine pm_R_lo pm_M37 (pc_q := 135) (pm_q37_1 (Nat.le_of_ble_eq_true rfl)) rfl rfl ?_
      refine pm_R_lo pm_M37 (pc_q := 136) (pm_q37_1 (Nat.le_of_ble_eq_true rfl)) rfl rfl ?_
      refine pm_R_cv pm_M37 (pc_q := 139) (a := 25) (ra := [.int 5]) (rest := []) (ls_q := [.ref 25, .int 5]) (pm_q37_1 (Nat.le_of_ble_eq_true rfl)) rfl (Or.inl rfl) pm_M40 T122.e25 rfl (by decide) (T122.lt (by decide)) rfl rfl (Nat.le_of_ble_eq_true rfl) rfl rfl ?_
      refine pm_R_lo pm_M40 (pc_q := 1) rfl rfl rfl ?_
      refine pm_R_get pm_M40 (pc_q := 4) (v := .int (m96 3)) rfl rfl T122.e25 (by decide) (T122.lt (by decide)) (congrArg (fun z => some (Value.int z)) (Int32.toInt_inj.mp (cl_aux3 _ _ ek135))) rfl ?_
      refine pm_R_ifc pm_M40 (t := 8) (pc_q := 7) rfl rfl rfl (fun c140 => ?_) (fun c140 => ?_)
      · have y141 := q114 (cl_aux67 _ (congrArg Int32.toInt c140))
        have y142 := X22 (cl_aux68 _ _ ek81 y141.1)
        have B143 : sf_B 0 5 (m66 13) := ⟨B86.1, cl_upE (P := fun x => x.toInt ≤ 5) y141.2.2⟩
        have B144 : sf_B 0 49 (m120 5) := ⟨B126.1, (cl_aux74 _ _ ek127 y142.2)⟩
        have B145 : sf_B 0 0 (m96 3) := sf_eqL c140 sf_k0
        refine pm_R_lo pm_M40 (pc_q := 9) rfl rfl rfl ?_
        refine pm_R_br pm_M40 (pc_q := 118) (st_q := []) rfl rfl ?_
        refine pm_R_lo pm_M40 (pc_q := 119) rfl rfl rfl ?_
        refine pm_R_lo pm_M40 (pc_q := 120) rfl rfl rfl ?_
        refine pm_R_cv pm_M40 (pc_q := 123) (a := 25) (ra := [.int 5]) (rest := []) (ls_q := [.ref 25, .int 5]) rfl rfl (Or.inl rfl) pm_M42 T122.e25 rfl (by decide) (T122.lt (by decide)) rfl rfl (Nat.le_of_ble_eq_true rfl) rfl rfl ?_
        refine pm_R_lo pm_M42 (pc_q := 1) rfl rfl rfl ?_
        refine pm_R_op pm_M42 (pc_q := 3) (st_q := [.int 7, .int 5]) rfl rfl rfl ?_
        refine pm_R_br pm_M42 (pc_q := 6) (st_q := []) rfl rfl ?_
        refine pm_R_lo pm_M42 (pc_q := 7) rfl rfl rfl ?_
        refine pm_R_lo pm_M42 (pc_q := 8) rfl rfl rfl ?_
        refine pm_R_get pm_M42 (pc_q := 11) (v := .int (m 8)) rfl rfl T122.e25 (by decide) (T122.lt (by decide)) (congrArg (fun z => some (Value.int z)) (Int32.toInt_inj.mp (cl_aux3 _ _ ek133))) rfl ?_
        refine pm_R_lo pm_M42 (pc_q := 12) rfl rfl rfl ?_
        refine pm_R_get pm_M42 (pc_q := 15) (v := .ref 29) rfl rfl T122.e25 (by decide) (T122.lt (by decide)) rfl rfl ?_
        refine pm_R_op pm_M42 (pc_q := 16) (st_q := [.int 0, .ref 29, .int (m 8), .ref 25]) rfl rfl rfl ?_
        have e149 := (F123.cell G (by decide) (by decide) (F99.cell G (by decide) (by decide) e91))
        refine pm_R_iald pm_M42 (pc_q := 17) (v := (m66 13)) rfl e149 (T122.lt (by decide)) rfl sf_upd_eq rfl ?_
        refine cl_R_maxR pm_M42 (pc_q := 20) rfl rfl rfl (Nat.le_of_ble_eq_true rfl) rfl B14 B143 (fun z150 B151 q152 q153 => ?_)
        refine cl_R_put25 G pm_M42 T122 (k := 8) (pc_q := 23) rfl rfl rfl (by decide) rfl rfl (sf_weak B151 (by decide) (by decide)) rfl rfl rfl rfl rfl (fun h154 m157 em158 T155 F156 => ?_)
        have F159 := F156.cl (ck := ck) T122.1
        have F160 := F125.trans (N := 0) (S := 0) F159 (by decide) (by decide) (by decide)
        have B161 : sf_B 0 49 (m157 5) := by rw [em158]; exact B144
        have ek162 : (m157 5).toInt = ((m 5)).toInt := by rw [em158]; exact ek127
        have B163 : sf_B 0 16 (m157 6) := by rw [em158]; exact B128
        have ek164 : (m157 6).toInt = ((m 6)).toInt := by rw [em158]; exact ek129
        have B165 : sf_B 0 99 (m157 7) := by rw [em158]; exact B130
        have ek166 : (m157 7).toInt = ((m 7)).toInt := by rw [em158]; exact ek131
        have B167 : sf_B 0 4 (m157 3) := by rw [em158]; exact B134
        have ek168 : (m157 3).toInt = ((m96 3)).toInt := by rw [em158]; exact ek135
        have B169 : sf_B 3 3 (m157 12) := by rw [em158]; exact B139
        have B170 : sf_B 0 99 (m157 8) := by rw [em158]; exact B151
        have ek171 : (m157 8).toInt = (z150).toInt := by rw [em158]; rfl
        have W172 : rf_W [3, 4, 5, 6, 7, 8, 10, 11, 12, 13] m m157 := by rw [em158]; exact W136.put (by decide)
        refine pm_R_lo pm_M42 (pc_q := 24) rfl rfl rfl ?_
        refine pm_R_op pm_M42 (pc_q := 25) (st_q := [.int 4, .int 5]) rfl rfl rfl ?_
        refine pm_R_br pm_M42 (pc_q := 45) (st_q := []) rfl rfl ?_
        refine pm_R_lo pm_M42 (pc_q := 46) rfl rfl rfl ?_
        refine pm_R_get pm_M42 (pc_q := 49) (v := .ref 26) rfl rfl T155.e25 (by decide) (T155.lt (by decide)) rfl rfl ?_
        refine pm_R_lo pm_M42 (pc_q := 50) rfl rfl rfl ?_
        refine pm_R_get pm_M42 (pc_q := 53) (v := .int (m 5)) rfl rfl T155.e25 (by decide) (T155.lt (by decide)) (congrArg (fun z => some (Value.int z)) (Int32.toInt_inj.mp (cl_aux3 _ _ ek162))) rfl ?_
        refine pm_R_op pm_M42 (pc_q := 54) (st_q := [.int 4, .int (m 5), .ref 26]) rfl rfl rfl ?_
        refine sf_R_imul pm_M42 (pc_q := 55) rfl rfl (sf_eqT (cl_aux70 _ _ ek162) B161) sf_k4 (by decide) (by decide) (by decide) (fun z173 e174 B175 => ?_)
        refine pm_R_lo pm_M42 (pc_q := 56) rfl rfl rfl ?_
        refine pm_R_op pm_M42 (pc_q := 58) (st_q := [.int 7, .int 5, .int z173, .ref 26]) rfl rfl rfl ?_
        refine pm_R_br pm_M42 (pc_q := 61) (st_q := [.int z173, .ref 26]) rfl rfl ?_
        refine pm_R_lo pm_M42 (pc_q := 62) rfl rfl rfl ?_
        refine pm_R_op pm_M42 (pc_q := 63) (st_q := [.int 4, .int 5, .int z173, .ref 26]) rfl rfl rfl ?_
        refine pm_R_op pm_M42 (pc_q := 64) (st_q := [.int 1, .int z173, .ref 26]) rfl rfl rfl ?_
        refine pm_R_br pm_M42 (pc_q := 71) rfl rfl ?_
        have e176 := (F159.cell G (by decide) (by decide) (F123.cell G (by decide) (by decide) (F99.cell G (by decide) (by decide) (F92.cell G (by decide) (by decide) (F69.cell G (by decide) (by decide) (F59.cell G (by decide) (by decide) (F53.cell G (by decide) (by decide) (F47.cell G (by decide) (by decide) (F41.cell G (by decide) (by decide) (F20.cell G (by decide) (by decide) e5))))))))))
        refine cl_R_ist G pm_M42 T155 (pc_q := 72) rfl e176 (by decide) ⟨_, rfl⟩ (sf_in B175 (by decide) (by decide)) rfl (fun h177 T178 F179 e180 => ?_)
        have F181 := F179.cl (ck := ck) T155.1
        have F182 := F160.trans (N := 0) (S := 0) F181 (by decide) (by decide) (by decide)
        refine pm_R_lo pm_M42 (pc_q := 73) rfl rfl rfl ?_
        refine pm_R_lo pm_M42 (pc_q := 74) rfl rfl rfl ?_
        refine pm_R_lo pm_M42 (pc_q := 75) rfl rfl rfl ?_
        refine pm_R_get pm_M42 (pc_q := 78) (v := .ref 26) rfl rfl T178.e25 (by decide) (T178.lt (by decide)) rfl rfl ?_
        refine pm_R_lo pm_M42 (pc_q := 79) rfl rfl rfl ?_
        refine pm_R_get pm_M42 (pc_q := 82) (v := .int (m 5)) rfl rfl T178.e25 (by decide) (T178.lt (by decide)) (congrArg (fun z => some (Value.int z)) (Int32.toInt_inj.mp (cl_aux3 _ _ ek162))) rfl ?_
        refine pm_R_op pm_M42 (pc_q := 83) (st_q := [.int 1, .int (m 5), .ref 26, .ref 25, .ref 25]) rfl rfl rfl ?_
        refine pm_R_cv pm_M42 (pc_q := 86) (a := 25) (ra := [.int 1, .int (m 5), .ref 26]) (rest := [.ref 25]) (ls_q := [.ref 25, .ref 26, .int (m 5), .int 1]) rfl rfl (Or.inl rfl) pm_M41 T178.e25 rfl (by decide) (T178.lt (by decide)) rfl rfl (Nat.le_of_ble_eq_true rfl) rfl rfl ?_
        refine pm_R_lo pm_M41 (pc_q := 1) rfl rfl rfl ?_
        refine pm_R_get pm_M41 (pc_q := 4) (v := .ref 29) rfl rfl T178.e25 (by decide) (T178.lt (by decide)) rfl rfl ?_
        refine pm_R_op pm_M41 (pc_q := 5) (st_q := [.int 0, .ref 29]) rfl rfl rfl ?_
        refine pm_R_lo pm_M41 (pc_q := 6) rfl rfl rfl ?_
        refine pm_R_lo pm_M41 (pc_q := 7) rfl rfl rfl ?_
        refine pm_R_op pm_M41 (pc_q := 8) (st_q := [.int 4, .int (m 5), .ref 26, .int 0, .ref 29]) rfl rfl rfl ?_
        refine sf_R_imulV pm_M41 (pc_q := 9) rfl rfl (sf_eqT (cl_aux70 _ _ ek162) B161) sf_k4 (by decide) (by decide) (by decide) e174 ?_
        refine pm_R_lo pm_M41 (pc_q := 10) rfl rfl rfl ?_
        refine sf_R_iadd pm_M41 (pc_q := 11) rfl rfl B175 sf_k1 (by decide) (by decide) (fun z183 e184 B185 => ?_)
        refine pm_R_op pm_M41 (pc_q := 12) (st_q := [.int 4, .int z183, .ref 26, .int 0, .ref 29]) rfl rfl rfl ?_
        refine pm_R_lo pm_M41 (pc_q := 13) rfl rfl rfl ?_
        refine pm_R_op pm_M41 (pc_q := 14) (st_q := [.int 3, .int z183, .ref 26, .int 0, .ref 29]) rfl rfl rfl ?_
        have e186 := (F181.cell G (by decide) (by decide) (F159.cell G (by decide) (by decide) e149))
        refine cl_R_acp G pm_M41 T178 (N := 3) (pc_q := 17) rfl rfl rfl e186 e180 (Or.inl rfl) ⟨_, rfl⟩ rfl (by decide) (by decide) B185 (by decide) (by decide) (Nat.le_of_ble_eq_true rfl) rfl (fun h187 T188 F189 e190 => ?_)
        have F191 := F189.cl (ck := ck) T178.1
        have F192 := F182.trans (N := 0) (S := 0) F191 (by decide) (by decide) (by decide)
        refine pm_R_lo pm_M41 (pc_q := 18) rfl rfl rfl ?_
        refine pm_R_op pm_M41 (pc_q := 19) (st_q := [.int 1, .int (m 5)]) rfl rfl rfl ?_
        refine sf_R_iadd pm_M41 (pc_q := 20) rfl rfl (sf_eqT (cl_aux70 _ _ ek162) B161) sf_k1 (by decide) (by decide) (fun z193 e194 B195 => ?_)
        refine pm_R_ret pm_M41 (r := some (.int z193)) rfl (pm_ret_i _) ?_
        show pm_R _ 42 86 [.ref 25, .int 5] [.int z193, .ref 25] _ _
        refine cl_R_put25 G pm_M42 T188 (k := 5) (pc_q := 89) rfl rfl rfl (by decide) rfl rfl (sf_weak B195 (by decide) (by decide)) rfl rfl rfl rfl rfl (fun h196 m199 em200 T197 F198 => ?_)
        have F201 := F198.cl (ck := ck) T188.1
        have F202 := F192.trans (N := 0) (S := 0) F201 (by decide) (by decide) (by decide)
        have B203 : sf_B 0 16 (m199 6) := by rw [em200]; exact B163
        have ek204 : (m199 6).toInt = ((m 6)).toInt := by rw [em200]; exact ek164
        have B205 : sf_B 0 99 (m199 7) := by rw [em200]; exact B165
        have ek206 : (m199 7).toInt = ((m 7)).toInt := by rw [em200]; exact ek166
        have B207 : sf_B 0 4 (m199 3) := by rw [em200]; exact B167
        have ek208 : (m199 3).toInt = ((m96 3)).toInt := by rw [em200]; exact ek168
        have B209 : sf_B 3 3 (m199 12) := by rw [em200]; exact B169
        have B210 : sf_B 0 99 (m199 8) := by rw [em200]; exact B170
        have ek211 : (m199 8).toInt = (z150).toInt := by rw [em200]; exact ek171
        have B212 : sf_B 1 50 (m199 5) := by rw [em200]; exact B195
        have ek213 : (m199 5).toInt = (z193).toInt := by rw [em200]; rfl
        have W214 : rf_W [3, 4, 5, 6, 7, 8, 10, 11, 12, 13] m m199 := by rw [em200]; exact W172.put (by decide)
        refine pm_R_ret pm_M42 (r := none) rfl rfl ?_
        show pm_R _ 40 123 [.ref 25, .int 5] [] _ _
        refine pm_R_ret pm_M40 (r := none) rfl rfl ?_
        show pm_R _ 37 139 [.ref 25, .int 5, .int 1] [] _ _
        refine pm_R_op pm_M37 (pc_q := 140) (st_q := [.int 1]) (pm_q37_1 (Nat.le_of_ble_eq_true rfl)) rfl rfl ?_
        have e215 := (F201.cell G (by decide) (by decide) e190)
        have e216 := (F201.cell G (by decide) (by decide) (F191.cell G (by decide) (by decide) (F181.cell G (by decide) (by decide) (F159.cell G (by decide) (by decide) (F123.cell G (by decide) (by decide) (F99.cell G (by decide) (by decide) (F92.cell G (by decide) (by decide) (F69.cell G (by decide) (by decide) (F59.cell G (by decide) (by decide) (F53.cell G (by decide) (by decide) (F47.cell G (by decide) (by decide) (F41.cell G (by decide) (by decide) (F20.cell G (by decide) (by decide) e2)))))))))))))
        have e217 := (F201.cell G (by decide) (by decide) (F191.cell G (by decide) (by decide) (F181.cell G (by decide) (by decide) (F159.cell G (by decide) (by decide) (F123.cell G (by decide) (by decide) (F99.cell G (by decide) (by decide) (F92.cell G (by decide) (by decide) (F69.cell G (by decide) (by decide) (F59.cell G (by decide) (by decide) (F53.cell G (by decide) (by decide) (F47.cell G (by decide) (by decide) (F41.cell G (by decide) (by decide) (F20.cell G (by decide) (by decide) e8)))))))))))))
        exact pm_R_ret pm_M37 (r := some (.int 1)) (pm_q37_1 (Nat.le_of_ble_eq_true rfl)) rfl (K 1 m199 h196 T197 F202 W214 (fun z => ⟨_, _, e215, e217, (R.at (cl_aux67 _ (X22 (cl_aux68 _ _ ek81 (q114 (cl_aux68 _ _ ek208 z)).1)).1) e5 e8).deed ((cl_tnI (Int.le_trans (by decide) B175.1)).trans (cl_aux75 _ _ e174)) ((cl_tnI (Int.le_trans (by decide) B185.1)).trans (cl_aux7 _ _ _ e174 e184)) (sf_weak sf_k1 (by decide) (by decide)) (Int.le_trans (by decide) (sf_eqL sf_upd_eq B143).1) (Int.le_trans (Int.le_of_eq (congrArg Int32.toInt sf_upd_eq)) (cl_aux78 _ _ _ _ ek211 (Int32.le_iff_toInt_le.mp q152) (Int32.le_iff_toInt_le.mp q153) B151.1 B151.2 B210.1 B210.2 B143.1 B143.2 B14.1 B14.2)) (sf_eqL (Eq.trans (sf_upd_nec (k := Int32.toNatClampNeg 0) (j := Int32.toNatClampNeg 1) (by decide)) (Eq.trans (sf_upd_nec (k := Int32.toNatClampNeg 3) (j := Int32.toNatClampNeg 1) (by decide)) (Eq.trans (sf_upd_nec (k := Int32.toNatClampNeg 2) (j := Int32.toNatClampNeg 1) (by decide)) sf_upd_eq))) (sf_weak sf_kn1 (by decide) (by decide))) (fun q => absurd q (by decide)) (cl_aux25 _ _ _ e194 ek213) (cl_aux3 _ _ ek206) (cl_aux79 _ _ _ _ ek211 (Int32.le_iff_toInt_le.mp q152) (Int32.le_iff_toInt_le.mp q153) B151.1 B151.2 B210.1 B210.2 B143.1 B143.2 B14.1 B14.2)⟩) ⟨_, e216, b3⟩ (sf_weak sf_k1 (by decide) (by decide)))
      · have B218 : sf_B 1 4 (m96 3) := sf_neL0 c140 sf_k0 B113
        refine pm_R_ret pm_M40 (r := none) rfl rfl ?_
        show pm_R _ 37 139 [.ref 25, .int 5, .int 1] [] _ _
        refine pm_R_op pm_M37 (pc_q := 140) (st_q := [.int 1]) (pm_q37_1 (Nat.le_of_ble_eq_true rfl)) rfl rfl ?_
        have e219 := (F123.cell G (by decide) (by decide) (F99.cell G (by decide) (by decide) (F92.cell G (by decide) (by decide) (F69.cell G (by decide) (by decide) (F59.cell G (by decide) (by decide) (F53.cell G (by decide) (by decide) (F47.cell G (by decide) (by decide) (F41.cell G (by decide) (by decide) (F20.cell G (by decide) (by decide) e2)))))))))
        have e220 := (F123.cell G (by decide) (by decide) (F99.cell G (by decide) (by decide) (F92.cell G (by decide) (by decide) (F69.cell G (by decide) (by decide) (F59.cell G (by decide) (by decide) (F53.cell G (by decide) (by decide) (F47.cell G (by decide) (by decide) (F41.cell G (by decide) (by decide) (F20.cell G (by decide) (by decide) e5)))))))))
        have e221 := (F123.cell G (by decide) (by decide) (F99.cell G (by decide) (by decide) (F92.cell G (by decide) (by decide) (F69.cell G (by decide) (by decide) (F59.cell G (by decide) (by decide) (F53.cell G (by decide) (by decide) (F47.cell G (by decide) (by decide) (F41.cell G (by decide) (by decide) (F20.cell G (by decide) (by decide) e8)))))))))
        exact pm_R_ret pm_M37 (r := some (.int 1)) (pm_q37_1 (Nat.le_of_ble_eq_true rfl)) rfl (K 1 m120 h121 T122 F125 W136 (fun z => ⟨_, _, e220, e221, (R.at (cl_aux67 _ (X22 (cl_aux68 _ _ ek81 (q114 (cl_aux68 _ _ ek135 z)).1)).1) e5 e8).keep (cl_aux3 _ _ ek127) (cl_aux3 _ _ ek129) (cl_aux3 _ _ ek131) (cl_aux3 _ _ ek133)⟩) ⟨_, e219, b3⟩ (sf_weak sf_k1 (by decide) (by decide)))
    · skip
      refine pm_R_op pm_M37 (pc_q := 133) (st_q := [.int 0]) (pm_q37_1 (Nat.le_of_ble_eq_true rfl)) rfl rfl ?_
      have e222 := (F123.cell G (by decide) (by decide) (F99.cell G (by decide) (by decide) (F92.cell G (by decide) (by decide) (F69.cell G (by decide) (by decide) (F59.cell G (by decide) (by decide) (F53.cell G (by decide) (by decide) (F47.cell G (by decide) (by decide) (F41.cell G (by decide) (by decide) (F20.cell G (by decide) (by decide) e2)))))))))
      have e223 := (F123.cell G (by decide) (by decide) (F99.cell G (by decide) (by decide) (F92.cell G (by decide) (by decide) (F69.cell G (by decide) (by decide) (F59.cell G (by decide) (by decide) (F53.cell G (by decide) (by decide) (F47.cell G (by decide) (by decide) (F41.cell G (by decide) (by decide) (F20.cell G (by decide) (by decide) e5)))))))))
      have e224 := (F123.cell G (by decide) (by decide) (F99.cell G (by decide) (by decide) (F92.cell G (by decide) (by decide) (F69.cell G (by decide) (by decide) (F59.cell G (by decide) (by decide) (F53.cell G (by decide) (by decide) (F47.cell G (by decide) (by decide) (F41.cell G (by decide) (by decide) (F20.cell G (by decide) (by decide) e8)))))))))
      exact pm_R_ret pm_M37 (r := some (.int 0)) (pm_q37_1 (Nat.le_of_ble_eq_true rfl)) rfl (K 0 m120 h121 T122 F125 W136 (fun z => ⟨_, _, e223, e224, (R.at (cl_aux67 _ (X22 (cl_aux68 _ _ ek81 (q114 (cl_aux68 _ _ ek135 z)).1)).1) e5 e8).keep (cl_aux3 _ _ ek127) (cl_aux3 _ _ ek129) (cl_aux3 _ _ ek131) (cl_aux3 _ _ ek133)⟩) ⟨_, e222, b3⟩ (sf_weak sf_k0 (by decide) (by decide)))
  · skip
    refine pm_R_op pm_M37 (pc_q := 50) (st_q := [.int 0]) rfl rfl rfl ?_
    have e225 := (F69.cell G (by decide) (by decide) (F59.cell G (by decide) (by decide) (F53.cell G (by decide) (by decide) (F47.cell G (by decide) (by decide) (F41.cell G (by decide) (by decide) (F20.cell G (by decide) (by decide) e2))))))
    have e226 := (F69.cell G (by decide) (by decide) (F59.cell G (by decide) (by decide) (F53.cell G (by decide) (by decide) (F47.cell G (by decide) (by decide) (F41.cell G (by decide) (by decide) (F20.cell G (by decide) (by decide) e5))))))
    have e227 := (F69.cell G (by decide) (by decide) (F59.cell G (by decide) (by decide) (F53.cell G (by decide) (by decide) (F47.cell G (by decide) (by decide) (F41.cell G (by decide) (by decide) (F20.cell G (by decide) (by decide) e8))))))
    exact pm_R_ret pm_M37 (r := some (.int 0)) rfl rfl (K 0 m66 h67 T68 F71 W82 (fun z => ⟨_, _, e226, e227, (R.at (cl_aux67 _ (X22 (cl_aux68 _ _ ek81 z)).1) e5 e8).keep (cl_aux3 _ _ ek73) (cl_aux3 _ _ ek75) (cl_aux3 _ _ ek77) (cl_aux3 _ _ ek79)⟩) ⟨_, e225, b3⟩ (sf_weak sf_k0 (by decide) (by decide)))

set_option maxRecDepth 100000 in
set_option maxHeartbeats 4000000 in
/-- SilentTable$TextReader.readLine -/
theorem cl_c37_6 {d : Nat} {ck : cl_K} {E : Nat → pm_E} {m : Nat → Int32} {o : Nat → Option Nat} {h : pm_H} {Q : Option Value → pm_H → Prop}  (G : cl_G ck E) (T : cl_T ck E m o h) (R : cl_Rd 2 m h) (Y : cl_Y h) (K : ∀ (r : Int32) (m_q : Nat → Int32) (h_q : pm_H), cl_T ck E m_q o h_q → cl_F ck [25, 26, 29, 30] 0 0 h h_q → rf_W [3, 4, 5, 6, 7, 8, 10, 11, 12, 13] m m_q → cl_Rd 2 m_q h_q → cl_Y h_q → sf_B 0 1 r → Q (some (.int r)) h_q) : pm_R (d + 7) 37 0 [.ref 25, .int 6, pm_no] [] h Q := by
  obtain ⟨f1, e2, b3⟩ := Y
  obtain ⟨f4, e5⟩ := T.C 26 (by decide) (by decide)
  obtain ⟨f7, e8⟩ := T.C 27 (by decide) (by decide)
  have B10 : sf_B 0 4 (m 3) := T.B 3
  have B11 : sf_B 0 50 (m 5) := T.B 5
  have B12 : sf_B 0 16 (m 6) := T.B 6
  have B13 : sf_B 0 99 (m 7) := T.B 7
  have B14 : sf_B (-1) 99 (m 8) := T.B 8
  refine pm_R_lo pm_M37 (pc_q := 1) rfl rfl rfl ?_
  refine pm_R_op pm_M37 (pc_q := 2) (st_q := [.int (-1), .int 6]) rfl rfl rfl ?_
  refine pm_R_br pm_M37 (pc_q := 7) (st_q := []) rfl rfl ?_
  refine pm_R_lo pm_M37 (pc_q := 8) rfl rfl rfl ?_
  refine pm_R_lo pm_M37 (pc_q := 9) rfl rfl rfl ?_
  refine pm_R_cv pm_M37 (pc_q := 12) (a := 25) (ra := [.int 6]) (rest := []) (ls_q := [.ref 25, .int 6, pm_no, pm_no]) rfl rfl (Or.inl rfl) pm_M38 T.e25 rfl (by decide) (T.lt (by decide)) rfl rfl (Nat.le_of_ble_eq_true rfl) rfl rfl ?_
  refine cl_c38_6 (d := d + 5) G T  (fun m17 h18 T19 F20 W21 X22 => ?_)
  have F23 := (cl_F.refl (ck := ck) (A := [25, 26, 29, 30]) (n := 0) (s := 0) T.1).trans (N := 0) (S := 0) F20 (by decide) (by decide) (by decide)
  have B24 : sf_B 0 50 (m17 5) := by rw [W21 5 (by decide)]; exact B11
  have ek25 : (m17 5).toInt = ((m 5)).toInt := by rw [W21 5 (by decide)]
  have B26 : sf_B 0 16 (m17 6) := by rw [W21 6 (by decide)]; exact B12
  have ek27 : (m17 6).toInt = ((m 6)).toInt := by rw [W21 6 (by decide)]
  have B28 : sf_B 0 99 (m17 7) := by rw [W21 7 (by decide)]; exact B13
  have ek29 : (m17 7).toInt = ((m 7)).toInt := by rw [W21 7 (by decide)]
  have B30 : sf_B (-1) 99 (m17 8) := by rw [W21 8 (by decide)]; exact B14
  have ek31 : (m17 8).toInt = ((m 8)).toInt := by rw [W21 8 (by decide)]
  have W32 : rf_W [3, 4, 5, 6, 7, 8, 10, 11, 12, 13] m m17 := (rf_W.refl [3, 4, 5, 6, 7, 8, 10, 11, 12, 13] m).trans W21 (by decide)
  have B33 : sf_B 0 4 (m17 3) := T19.B 3
  show pm_R _ 37 12 [.ref 25, .int 6, pm_no] [] _ _
  refine pm_R_lo pm_M37 (pc_q := 13) rfl rfl rfl ?_
  refine pm_R_get pm_M37 (pc_q := 16) (v := .ref 29) rfl rfl T19.e25 (by decide) (T19.lt (by decide)) rfl rfl ?_
  refine pm_R_op pm_M37 (pc_q := 17) (st_q := [.int (-1), .ref 29]) rfl rfl rfl ?_
  refine pm_R_cs pm_M37 (pc_q := 20) (ra := [.int (-1), .ref 29]) (rest := []) (ls_q := [.ref 29, .int (-1), pm_no, pm_no]) rfl rfl (Or.inl rfl) pm_M13 rfl rfl (Nat.le_of_ble_eq_true rfl) rfl rfl ?_
  refine pm_R_op pm_M13 (pc_q := 1) (st_q := [.int 0]) rfl rfl rfl ?_
  refine pm_R_lo pm_M13 (pc_q := 2) (ls_q := [.ref 29, .int (-1), .int 0, pm_no]) (st_q := []) rfl rfl rfl ?_
  refine pm_R_lo pm_M13 (pc_q := 3) rfl rfl rfl ?_
  obtain ⟨f34, e35⟩ := T19.C 29 (by decide) (by decide)
  refine pm_R_alen pm_M13 (pc_q := 4) (v := 4) rfl e35 (by decide) (T19.lt (by decide)) (by decide) rfl rfl ?_
  refine pm_R_lo pm_M13 (pc_q := 5) (ls_q := [.ref 29, .int (-1), .int 0, .int 4]) (st_q := []) rfl rfl rfl ?_
  refine pm_R_lo pm_M13 (pc_q := 6) rfl rfl rfl ?_
  refine pm_R_lo pm_M13 (pc_q := 7) rfl rfl rfl ?_
  refine pm_R_br pm_M13 (pc_q := 10) (st_q := []) rfl rfl ?_
  refine pm_R_lo pm_M13 (pc_q := 11) rfl rfl rfl ?_
  refine pm_R_lo pm_M13 (pc_q := 12) rfl rfl rfl ?_
  refine pm_R_lo pm_M13 (pc_q := 13) rfl rfl rfl ?_
  refine cl_R_ist G pm_M13 T19 (pc_q := 14) rfl e35 (by decide) ⟨_, rfl⟩ rfl rfl (fun h37 T38 F39 e40 => ?_)
  have F41 := F39.cl (ck := ck) T19.1
  have F42 := F23.trans (N := 0) (S := 0) F41 (by decide) (by decide) (by decide)
  refine pm_R_lo pm_M13 (pc_q := 17) (ls_q := [.ref 29, .int (-1), .int 1, .int 4]) (st_q := []) rfl rfl rfl ?_
  refine pm_R_br pm_M13 (pc_q := 5) rfl rfl ?_
  refine pm_R_lo pm_M13 (pc_q := 6) rfl rfl rfl ?_
  refine pm_R_lo pm_M13 (pc_q := 7) rfl rfl rfl ?_
  refine pm_R_br pm_M13 (pc_q := 10) (st_q := []) rfl rfl ?_
  refine pm_R_lo pm_M13 (pc_q := 11) rfl rfl rfl ?_
  refine pm_R_lo pm_M13 (pc_q := 12) rfl rfl rfl ?_
  refine pm_R_lo pm_M13 (pc_q := 13) rfl rfl rfl ?_
  refine cl_R_ist G pm_M13 T38 (pc_q := 14) rfl e40 (by decide) ⟨_, rfl⟩ rfl rfl (fun h43 T44 F45 e46 => ?_)
  have F47 := F45.cl (ck := ck) T38.1
  have F48 := F42.trans (N := 0) (S := 0) F47 (by decide) (by decide) (by decide)
  refine pm_R_lo pm_M13 (pc_q := 17) (ls_q := [.ref 29, .int (-1), .int 2, .int 4]) (st_q := []) rfl rfl rfl ?_
  refine pm_R_br pm_M13 (pc_q := 5) rfl rfl ?_
  refine pm_R_lo pm_M13 (pc_q := 6) rfl rfl rfl ?_
  refine pm_R_lo pm_M13 (pc_q := 7) rfl rfl rfl ?_
  refine pm_R_br pm_M13 (pc_q := 10) (st_q := []) rfl rfl ?_
  refine pm_R_lo pm_M13 (pc_q := 11) rfl rfl rfl ?_
  refine pm_R_lo pm_M13 (pc_q := 12) rfl rfl rfl ?_
  refine pm_R_lo pm_M13 (pc_q := 13) rfl rfl rfl ?_
  refine cl_R_ist G pm_M13 T44 (pc_q := 14) rfl e46 (by decide) ⟨_, rfl⟩ rfl rfl (fun h49 T50 F51 e52 => ?_)
  have F53 := F51.cl (ck := ck) T44.1
  have F54 := F48.trans (N := 0) (S := 0) F53 (by decide) (by decide) (by decide)
  refine pm_R_lo pm_M13 (pc_q := 17) (ls_q := [.ref 29, .int (-1), .int 3, .int 4]) (st_q := []) rfl rfl rfl ?_
  refine pm_R_br pm_M13 (pc_q := 5) rfl rfl ?_
  refine pm_R_lo pm_M13 (pc_q := 6) rfl rfl rfl ?_
  refine pm_R_lo pm_M13 (pc_q := 7) rfl rfl rfl ?_
  refine pm_R_br pm_M13 (pc_q := 10) (st_q := []) rfl rfl ?_
  refine pm_R_lo pm_M13 (pc_q := 11) rfl rfl rfl ?_
  refine pm_R_lo pm_M13 (pc_q := 12) rfl rfl rfl ?_
  refine pm_R_lo pm_M13 (pc_q := 13) rfl rfl rfl ?_
  refine cl_R_ist G pm_M13 T50 (pc_q := 14) rfl e52 (by decide) ⟨_, rfl⟩ rfl rfl (fun h55 T56 F57 e58 => ?_)
  have F59 := F57.cl (ck := ck) T50.1
  have F60 := F54.trans (N := 0) (S := 0) F59 (by decide) (by decide) (by decide)
  refine pm_R_lo pm_M13 (pc_q := 17) (ls_q := [.ref 29, .int (-1), .int 4, .int 4]) (st_q := []) rfl rfl rfl ?_
  refine pm_R_br pm_M13 (pc_q := 5) rfl rfl ?_
  refine pm_R_lo pm_M13 (pc_q := 6) rfl rfl rfl ?_
  refine pm_R_lo pm_M13 (pc_q := 7) rfl rfl rfl ?_
  refine pm_R_br pm_M13 (pc_q := 20) (st_q := []) rfl rfl ?_
  refine pm_R_ret pm_M13 (r := none) rfl rfl ?_
  show pm_R _ 37 20 [.ref 25, .int 6, pm_no] [] _ _
  refine pm_R_op pm_M37 (pc_q := 21) (st_q := [.int 0]) rfl rfl rfl ?_
  refine pm_R_lo pm_M37 (pc_q := 22) (ls_q := [.ref 25, .int 6, .int 0]) (st_q := []) rfl rfl rfl ?_
  refine pm_R_lo pm_M37 (pc_q := 23) rfl rfl rfl ?_
  refine pm_R_stat pm_M37 (pc_q := 26) rfl rfl rfl ?_
  refine pm_R_lo pm_M37 (pc_q := 27) rfl rfl rfl ?_
  refine pm_R_iald pm_M37 (pc_q := 28) (v := 2) rfl ((T56.old (by decide)).trans G.tb2) (T56.lt (by decide)) rfl rfl rfl ?_
  refine pm_R_br pm_M37 (pc_q := 31) (st_q := []) rfl rfl ?_
  refine pm_R_lo pm_M37 (pc_q := 32) rfl rfl rfl ?_
  refine pm_R_get pm_M37 (pc_q := 35) (v := .ref 30) rfl rfl T56.e25 (by decide) (T56.lt (by decide)) rfl rfl ?_
  refine pm_R_cv pm_M37 (pc_q := 38) (a := 30) (ra := []) (rest := []) (ls_q := [.ref 30]) rfl rfl (Or.inl rfl) pm_M16 T56.e30 rfl (by decide) (T56.lt (by decide)) rfl rfl (Nat.le_of_ble_eq_true rfl) rfl rfl ?_
  refine cl_c16 (d := d + 4) G T56  (fun m66 h67 T68 F69 W70 => ?_)
  have F71 := F60.trans (N := 0) (S := 0) F69 (by decide) (by decide) (by decide)
  have B72 : sf_B 0 50 (m66 5) := by rw [W70 5 (by decide)]; exact B24
  have ek73 : (m66 5).toInt = ((m 5)).toInt := by rw [W70 5 (by decide)]; exact ek25
  have B74 : sf_B 0 16 (m66 6) := by rw [W70 6 (by decide)]; exact B26
  have ek75 : (m66 6).toInt = ((m 6)).toInt := by rw [W70 6 (by decide)]; exact ek27
  have B76 : sf_B 0 99 (m66 7) := by rw [W70 7 (by decide)]; exact B28
  have ek77 : (m66 7).toInt = ((m 7)).toInt := by rw [W70 7 (by decide)]; exact ek29
  have B78 : sf_B (-1) 99 (m66 8) := by rw [W70 8 (by decide)]; exact B30
  have ek79 : (m66 8).toInt = ((m 8)).toInt := by rw [W70 8 (by decide)]; exact ek31
  have B80 : sf_B 0 4 (m66 3) := by rw [W70 3 (by decide)]; exact B33
  have ek81 : (m66 3).toInt = ((m17 3)).toInt := by rw [W70 3 (by decide)]
  have W82 : rf_W [3, 4, 5, 6, 7, 8, 10, 11, 12, 13] m m66 := W32.trans W70 (by decide)
  show pm_R _ 37 38 [.ref 25, .int 6, .int 0] [] _ _
  refine pm_R_lo pm_M37 (pc_q := 39) rfl rfl rfl ?_
  refine pm_R_get pm_M37 (pc_q := 42) (v := .ref 30) rfl rfl T68.e25 (by decide) (T68.lt (by decide)) rfl rfl ?_
  have B83 : sf_B 0 4 (m66 12) := T68.B 12
  refine pm_R_get pm_M37 (pc_q := 45) (v := .int (m66 12)) rfl rfl T68.e30 (by decide) (T68.lt (by decide)) rfl rfl ?_
  refine pm_R_op pm_M37 (pc_q := 46) (st_q := [.int 2, .int (m66 12)]) rfl rfl rfl ?_
  refine pm_R_icmp pm_M37 (t := 51) (pc_q := 49) rfl rfl rfl (fun c84 => ?_) (fun c84 => ?_)
  · have B85 : sf_B 2 2 (m66 12) := sf_eqL c84 sf_k2
    refine pm_R_lo pm_M37 (pc_q := 52) rfl rfl rfl ?_
    refine pm_R_get pm_M37 (pc_q := 55) (v := .ref 29) rfl rfl T68.e25 (by decide) (T68.lt (by decide)) rfl rfl ?_
    refine pm_R_lo pm_M37 (pc_q := 56) rfl rfl rfl ?_
    refine pm_R_lo pm_M37 (pc_q := 57) rfl rfl rfl ?_
    refine pm_R_get pm_M37 (pc_q := 60) (v := .ref 30) rfl rfl T68.e25 (by decide) (T68.lt (by decide)) rfl rfl ?_
    have B86 : sf_B 0 99 (m66 13) := T68.B 13
    refine pm_R_get pm_M37 (pc_q := 63) (v := .int (m66 13)) rfl rfl T68.e30 (by decide) (T68.lt (by decide)) rfl rfl ?_
    have e87 := (F69.cell G (by decide) (by decide) e58)
    refine cl_R_ist G pm_M37 T68 (pc_q := 64) rfl e87 (by decide) ⟨_, rfl⟩ rfl rfl (fun h88 T89 F90 e91 => ?_)
    have F92 := F90.cl (ck := ck) T68.1
    have F93 := F71.trans (N := 0) (S := 0) F92 (by decide) (by decide) (by decide)
    refine pm_R_lo pm_M37 (pc_q := 65) rfl rfl rfl ?_
    refine pm_R_lo pm_M37 (pc_q := 66) rfl rfl rfl ?_
    refine pm_R_lo pm_M37 (pc_q := 67) rfl rfl rfl ?_
    refine pm_R_cv pm_M37 (pc_q := 70) (a := 25) (ra := [.int 0, .int 6]) (rest := []) (ls_q := [.ref 25, .int 6, .int 0, pm_no, pm_no, pm_no]) rfl rfl (Or.inl rfl) pm_M39 T89.e25 rfl (by decide) (T89.lt (by decide)) rfl rfl (Nat.le_of_ble_eq_true rfl) rfl rfl ?_
    refine cl_c39_6_0 (d := d + 5) G T89  (fun m96 h97 T98 F99 W100 X101 => ?_)
    have F102 := F93.trans (N := 0) (S := 0) F99 (by decide) (by decide) (by decide)
    have B103 : sf_B 0 50 (m96 5) := by rw [W100 5 (by decide)]; exact B72
    have ek104 : (m96 5).toInt = ((m 5)).toInt := by rw [W100 5 (by decide)]; exact ek73
    have B105 : sf_B 0 16 (m96 6) := by rw [W100 6 (by decide)]; exact B74
    have ek106 : (m96 6).toInt = ((m 6)).toInt := by rw [W100 6 (by decide)]; exact ek75
    have B107 : sf_B 0 99 (m96 7) := by rw [W100 7 (by decide)]; exact B76
    have ek108 : (m96 7).toInt = ((m 7)).toInt := by rw [W100 7 (by decide)]; exact ek77
    have B109 : sf_B (-1) 99 (m96 8) := by rw [W100 8 (by decide)]; exact B78
    have ek110 : (m96 8).toInt = ((m 8)).toInt := by rw [W100 8 (by decide)]; exact ek79
    have B111 : sf_B 2 2 (m96 12) := by rw [W100 12 (by decide)]; exact B85
    have W112 : rf_W [3, 4, 5, 6, 7, 8, 10, 11, 12, 13] m m96 := W82.trans W100 (by decide)
    have B113 : sf_B 0 4 (m96 3) := T98.B 3
    show pm_R _ 37 70 [.ref 25, .int 6, .int 0] [] _ _
    have q114 := X101 _ e91
    refine pm_R_lo pm_M37 (pc_q := 73) (ls_q := [.ref 25, .int 6, .int 1]) (st_q := []) rfl rfl rfl ?_
    refine pm_R_br pm_M37 (pc_q := 22) rfl rfl ?_
    refine pm_R_lo pm_M37 (pc_q := 23) rfl rfl rfl ?_
    refine pm_R_stat pm_M37 (pc_q := 26) rfl rfl rfl ?_
    refine pm_R_lo pm_M37 (pc_q := 27) rfl rfl rfl ?_
    refine pm_R_iald pm_M37 (pc_q := 28) (v := 2) rfl ((T98.old (by decide)).trans G.tb2) (T98.lt (by decide)) rfl rfl rfl ?_
    refine pm_R_br pm_M37 (pc_q := 31) (st_q := []) rfl rfl ?_
    refine pm_R_lo pm_M37 (pc_q := 32) rfl rfl rfl ?_
    refine pm_R_get pm_M37 (pc_q := 35) (v := .ref 30) rfl rfl T98.e25 (by decide) (T98.lt (by decide)) rfl rfl ?_
    refine pm_R_cv pm_M37 (pc_q := 38) (a := 30) (ra := []) (rest := []) (ls_q := [.ref 30]) rfl rfl (Or.inl rfl) pm_M16 T98.e30 rfl (by decide) (T98.lt (by decide)) rfl rfl (Nat.le_of_ble_eq_true rfl) rfl rfl ?_
    refine cl_c16 (d := d + 4) G T98  (fun m120 h121 T122 F123 W124 => ?_)
    have F125 := F102.trans (N := 0) (S := 0) F123 (by decide) (by decide) (by decide)
    have B126 : sf_B 0 50 (m120 5) := by rw [W124 5 (by decide)]; exact B103
    have ek127 : (m120 5).toInt = ((m 5)).toInt := by rw [W124 5 (by decide)]; exact ek104
    have B128 : sf_B 0 16 (m120 6) := by rw [W124 6 (by decide)]; exact B105
    have ek129 : (m120 6).toInt = ((m 6)).toInt := by rw [W124 6 (by decide)]; exact ek106
    have B130 : sf_B 0 99 (m120 7) := by rw [W124 7 (by decide)]; exact B107
    have ek131 : (m120 7).toInt = ((m 7)).toInt := by rw [W124 7 (by decide)]; exact ek108
    have B132 : sf_B (-1) 99 (m120 8) := by rw [W124 8 (by decide)]; exact B109
    have ek133 : (m120 8).toInt = ((m 8)).toInt := by rw [W124 8 (by decide)]; exact ek110
    have B134 : sf_B 0 4 (m120 3) := by rw [W124 3 (by decide)]; exact B113
    have ek135 : (m120 3).toInt = ((m96 3)).toInt := by rw [W124 3 (by decide)]
    have W136 : rf_W [3, 4, 5, 6, 7, 8, 10, 11, 12, 13] m m120 := W112.trans W124 (by decide)
    show pm_R _ 37 38 [.ref 25, .int 6, .int 1] [] _ _
    refine pm_R_lo pm_M37 (pc_q := 39) rfl rfl rfl ?_
    refine pm_R_get pm_M37 (pc_q := 42) (v := .ref 30) rfl rfl T122.e25 (by decide) (T122.lt (by decide)) rfl rfl ?_
    have B137 : sf_B 0 4 (m120 12) := T122.B 12
    refine pm_R_get pm_M37 (pc_q := 45) (v := .int (m120 12)) rfl rfl T122.e30 (by decide) (T122.lt (by decide)) rfl rfl ?_
    refine pm_R_op pm_M37 (pc_q := 46) (st_q := [.int 2, .int (m120 12)]) rfl rfl rfl ?_
    refine pm_R_icmp pm_M37 (t := 51) (pc_q := 49) rfl rfl rfl (fun c138 => ?_) (fun c138 => ?_)
    · have B139 : sf_B 2 2 (m120 12) := sf_eqL c138 sf_k2
      refine pm_R_lo pm_M37 (pc_q := 52) rfl rfl rfl ?_
      refine pm_R_get pm_M37 (pc_q := 55) (v := .ref 29) rfl rfl T122.e25 (by decide) (T122.lt (by decide)) rfl rfl ?_
      refine pm_R_lo pm_M37 (pc_q := 56) rfl rfl rfl ?_
      refine pm_R_lo pm_M37 (pc_q := 57) rfl rfl rfl ?_
      refine pm_R_get pm_M37 (pc_q := 60) (v := .ref 30) rfl rfl T122.e25 (by decide) (T122.lt (by decide)) rfl rfl ?_
      have B140 : sf_B 0 99 (m120 13) := T122.B 13
      refine pm_R_get pm_M37 (pc_q := 63) (v := .int (m120 13)) rfl rfl T122.e30 (by decide) (T122.lt (by decide)) rfl rfl ?_
      have e141 := (F123.cell G (by decide) (by decide) (F99.cell G (by decide) (by decide) e91))
      refine cl_R_ist G pm_M37 T122 (pc_q := 64) rfl e141 (by decide) ⟨_, rfl⟩ rfl rfl (fun h142 T143 F144 e145 => ?_)
      have F146 := F144.cl (ck := ck) T122.1
      have F147 := F125.trans (N := 0) (S := 0) F146 (by decide) (by decide) (by decide)
      refine pm_R_lo pm_M37 (pc_q := 65) rfl rfl rfl ?_
      refine pm_R_lo pm_M37 (pc_q := 66) rfl rfl rfl ?_
      refine pm_R_lo pm_M37 (pc_q := 67) rfl rfl rfl ?_
      refine pm_R_cv pm_M37 (pc_q := 70) (a := 25) (ra := [.int 1, .int 6]) (rest := []) (ls_q := [.ref 25, .int 6, .int 1, pm_no, pm_no, pm_no]) rfl rfl (Or.inl rfl) pm_M39 T143.e25 rfl (by decide) (T143.lt (by decide)) rfl rfl (Nat.le_of_ble_eq_true rfl) rfl rfl ?_
      refine cl_c39_6_1 (d := d + 5) G T143  (fun m150 h151 T152 F153 W154 X155 => ?_)
      have F156 := F147.trans (N := 0) (S := 0) F153 (by decide) (by decide) (by decide)
      have B157 : sf_B 0 50 (m150 5) := by rw [W154 5 (by decide)]; exact B126
      have ek158 : (m150 5).toInt = ((m 5)).toInt := by rw [W154 5 (by decide)]; exact ek127
      have B159 : sf_B 0 16 (m150 6) := by rw [W154 6 (by decide)]; exact B128
      have ek160 : (m150 6).toInt = ((m 6)).toInt := by rw [W154 6 (by decide)]; exact ek129
      have B161 : sf_B 0 99 (m150 7) := by rw [W154 7 (by decide)]; exact B130
      have ek162 : (m150 7).toInt = ((m 7)).toInt := by rw [W154 7 (by decide)]; exact ek131
      have B163 : sf_B (-1) 99 (m150 8) := by rw [W154 8 (by decide)]; exact B132
      have ek164 : (m150 8).toInt = ((m 8)).toInt := by rw [W154 8 (by decide)]; exact ek133
      have B165 : sf_B 2 2 (m150 12) := by rw [W154 12 (by decide)]; exact B139
      have W166 : rf_W [3, 4, 5, 6, 7, 8, 10, 11, 12, 13] m m150 := W136.trans W154 (by decide)
      have B167 : sf_B 0 4 (m150 3) := T152.B 3
      show pm_R _ 37 70 [.ref 25, .int 6, .int 1] [] _ _
      have q168 := X155 _ e145
      refine pm_R_lo pm_M37 (pc_q := 73) (ls_q := [.ref 25, .int 6, .int 2]) (st_q := []) rfl rfl rfl ?_
      refine pm_R_br pm_M37 (pc_q := 22) rfl rfl ?_
      refine pm_R_lo pm_M37 (pc_q := 23) rfl rfl rfl ?_
      refine pm_R_stat pm_M37 (pc_q := 26) rfl rfl rfl ?_
      refine pm_R_lo pm_M37 (pc_q := 27) rfl rfl rfl ?_
      refine pm_R_iald pm_M37 (pc_q := 28) (v := 2) rfl ((T152.old (by decide)).trans G.tb2) (T152.lt (by decide)) rfl rfl rfl ?_
      refine pm_R_br pm_M37 (pc_q := 76) (st_q := []) rfl rfl ?_
      refine pm_R_lo pm_M37 (pc_q := 77) rfl rfl rfl ?_
      refine pm_R_br pm_M37 (pc_q := 114) (st_q := []) rfl rfl ?_
      refine pm_R_lo pm_M37 (pc_q := 115) (pm_q37_1 (Nat.le_of_ble_eq_true rfl)) rfl rfl ?_
      refine pm_R_get pm_M37 (pc_q := 118) (v := .ref 30) (pm_q37_1 (Nat.le_of_ble_eq_true rfl)) rfl T152.e25 (by decide) (T152.lt (by decide)) rfl rfl ?_
      refine pm_R_cv pm_M37 (pc_q := 121) (a := 30) (ra := []) (rest := []) (ls_q := [.ref 30]) (pm_q37_1 (Nat.le_of_ble_eq_true rfl)) rfl (Or.inl rfl) pm_M16 T152.e30 rfl (by decide) (T152.lt (by decide)) rfl rfl (Nat.le_of_ble_eq_true rfl) rfl rfl ?_
      refine cl_c16 (d := d + 4) G T152  (fun m174 h175 T176 F177 W178 => ?_)
      have F179 := F156.trans (N := 0) (S := 0) F177 (by decide) (by decide) (by decide)
      have B180 : sf_B 0 50 (m174 5) := by rw [W178 5 (by decide)]; exact B157
      have ek181 : (m174 5).toInt = ((m 5)).toInt := by rw [W178 5 (by decide)]; exact ek158
      have B182 : sf_B 0 16 (m174 6) := by rw [W178 6 (by decide)]; exact B159
      have ek183 : (m174 6).toInt = ((m 6)).toInt := by rw [W178 6 (by decide)]; exact ek160
      have B184 : sf_B 0 99 (m174 7) := by rw [W178 7 (by decide)]; exact B161
      have ek185 : (m174 7).toInt = ((m 7)).toInt := by rw [W178 7 (by decide)]; exact ek162
      have B186 : sf_B (-1) 99 (m174 8) := by rw [W178 8 (by decide)]; exact B163
      have ek187 : (m174 8).toInt = ((m 8)).toInt := by rw [W178 8 (by decide)]; exact ek164
      have B188 : sf_B 0 4 (m174 3) := by rw [W178 3 (by decide)]; exact B167
      have ek189 : (m174 3).toInt = ((m150 3)).toInt := by rw [W178 3 (by decide)]
      have W190 : rf_W [3, 4, 5, 6, 7, 8, 10, 11, 12, 13] m m174 := W166.trans W178 (by decide)
      show pm_R _ 37 121 [.ref 25, .int 6, .int 2] [] _ _
      refine pm_R_lo pm_M37 (pc_q := 122) (pm_q37_1 (Nat.le_of_ble_eq_true rfl)) rfl rfl ?_
      refine pm_R_get pm_M37 (pc_q := 125) (v := .ref 30) (pm_q37_1 (Nat.le_of_ble_eq_true rfl)) rfl T176.e25 (by decide) (T176.lt (by decide)) rfl rfl ?_
      have B191 : sf_B 0 4 (m174 12) := T176.B 12
      refine pm_R_get pm_M37 (pc_q := 128) (v := .int (m174 12)) (pm_q37_1 (Nat.le_of_ble_eq_true rfl)) rfl T176.e30 (by decide) (T176.lt (by decide)) rfl rfl ?_
      refine pm_R_op pm_M37 (pc_q := 129) (st_q := [.int 3, .int (m174 12)]) (pm_q37_1 (Nat.le_of_ble_eq_true rfl)) rfl rfl ?_
      refine pm_R_icmp pm_M37 (t := 134) (pc_q := 132) (pm_q37_1 (Nat.le_of_ble_eq_true rfl)) rfl rfl (fun c192 => ?_) (fun c192 => ?_)
      · have B193 : sf_B 3 3 (m174 12) := sf_eqL c192 sf_k3
        refine pm_R_lo pm_M37 (pc_q := 135) (pm_q37_1 (Nat.le_of_ble_eq_true rfl)) rfl rfl ?_
        refine pm_R_lo pm_M37 (pc_q := 136) (pm_q37_1 (Nat.le_of_ble_eq_true rfl)) rfl rfl ?_
        refine pm_R_cv pm_M37 (pc_q := 139) (a := 25) (ra := [.int 6]) (rest := []) (ls_q := [.ref 25, .int 6]) (pm_q37_1 (Nat.le_of_ble_eq_true rfl)) rfl (Or.inl rfl) pm_M40 T176.e25 rfl (by decide) (T176.lt (by decide)) rfl rfl (Nat.le_of_ble_eq_true rfl) rfl rfl ?_
        refine pm_R_lo pm_M40 (pc_q := 1) rfl rfl rfl ?_
        refine pm_R_get pm_M40 (pc_q := 4) (v := .int (m150 3)) rfl rfl T176.e25 (by decide) (T176.lt (by decide)) (congrArg (fun z => some (Value.int z)) (Int32.toInt_inj.mp (cl_aux3 _ _ ek189))) rfl ?_
        refine pm_R_ifc pm_M40 (t := 8) (pc_q := 7) rfl rfl rfl (fun c194 => ?_) (fun c194 => ?_)
        · have y195 := q168 (cl_aux67 _ (congrArg Int32.toInt c194))
          have y196 := q114 (cl_aux68 _ _ ek135 y195.1)
          have y197 := X22 (cl_aux68 _ _ ek81 y196.1)
          have B198 : sf_B 0 9 (m120 13) := ⟨B140.1, cl_upE (P := fun x => x.toInt ≤ 9) y195.2.2⟩
          have B199 : sf_B 0 5 (m66 13) := ⟨B86.1, cl_upE (P := fun x => x.toInt ≤ 5) y196.2.2⟩
          have B200 : sf_B 0 49 (m174 5) := ⟨B180.1, (cl_aux74 _ _ ek181 y197.2)⟩
          have B201 : sf_B 0 0 (m150 3) := sf_eqL c194 sf_k0
          refine pm_R_lo pm_M40 (pc_q := 9) rfl rfl rfl ?_
          refine pm_R_br pm_M40 (pc_q := 118) (st_q := []) rfl rfl ?_
          refine pm_R_lo pm_M40 (pc_q := 119) rfl rfl rfl ?_
          refine pm_R_lo pm_M40 (pc_q := 120) rfl rfl rfl ?_
          refine pm_R_cv pm_M40 (pc_q := 123) (a := 25) (ra := [.int 6]) (rest := []) (ls_q := [.ref 25, .int 6]) rfl rfl (Or.inl rfl) pm_M42 T176.e25 rfl (by decide) (T176.lt (by decide)) rfl rfl (Nat.le_of_ble_eq_true rfl) rfl rfl ?_
          refine pm_R_lo pm_M42 (pc_q := 1) rfl rfl rfl ?_
          refine pm_R_op pm_M42 (pc_q := 3) (st_q := [.int 7, .int 6]) rfl rfl rfl ?_
          refine pm_R_br pm_M42 (pc_q := 6) (st_q := []) rfl rfl ?_
          refine pm_R_lo pm_M42 (pc_q := 7) rfl rfl rfl ?_
          refine pm_R_lo pm_M42 (pc_q := 8) rfl rfl rfl ?_
          refine pm_R_get pm_M42 (pc_q := 11) (v := .int (m 8)) rfl rfl T176.e25 (by decide) (T176.lt (by decide)) (congrArg (fun z => some (Value.int z)) (Int32.toInt_inj.mp (cl_aux3 _ _ ek187))) rfl ?_
          refine pm_R_lo pm_M42 (pc_q := 12) rfl rfl rfl ?_
          refine pm_R_get pm_M42 (pc_q := 15) (v := .ref 29) rfl rfl T176.e25 (by decide) (T176.lt (by decide)) rfl rfl ?_
          refine pm_R_op pm_M42 (pc_q := 16) (st_q := [.int 0, .ref 29, .int (m 8), .ref 25]) rfl rfl rfl ?_
          have e205 := (F177.cell G (by decide) (by decide) (F153.cell G (by decide) (by decide) e145))
          refine pm_R_iald pm_M42 (pc_q := 17) (v := (m66 13)) rfl e205 (T176.lt (by decide)) rfl (Eq.trans (sf_upd_nec (k := Int32.toNatClampNeg 1) (j := Int32.toNatClampNeg 0) (by decide)) sf_upd_eq) rfl ?_
          refine cl_R_maxR pm_M42 (pc_q := 20) rfl rfl rfl (Nat.le_of_ble_eq_true rfl) rfl B14 B199 (fun z206 B207 q208 q209 => ?_)
          refine cl_R_put25 G pm_M42 T176 (k := 8) (pc_q := 23) rfl rfl rfl (by decide) rfl rfl (sf_weak B207 (by decide) (by decide)) rfl rfl rfl rfl rfl (fun h210 m213 em214 T211 F212 => ?_)
          have F215 := F212.cl (ck := ck) T176.1
          have F216 := F179.trans (N := 0) (S := 0) F215 (by decide) (by decide) (by decide)
          have B217 : sf_B 0 49 (m213 5) := by rw [em214]; exact B200
          have ek218 : (m213 5).toInt = ((m 5)).toInt := by rw [em214]; exact ek181
          have B219 : sf_B 0 16 (m213 6) := by rw [em214]; exact B182
          have ek220 : (m213 6).toInt = ((m 6)).toInt := by rw [em214]; exact ek183
          have B221 : sf_B 0 99 (m213 7) := by rw [em214]; exact B184
          have ek222 : (m213 7).toInt = ((m 7)).toInt := by rw [em214]; exact ek185
          have B223 : sf_B 0 4 (m213 3) := by rw [em214]; exact B188
          have ek224 : (m213 3).toInt = ((m150 3)).toInt := by rw [em214]; exact ek189
          have B225 : sf_B 3 3 (m213 12) := by rw [em214]; exact B193
          have B226 : sf_B 0 99 (m213 8) := by rw [em214]; exact B207
          have ek227 : (m213 8).toInt = (z206).toInt := by rw [em214]; rfl
          have W228 : rf_W [3, 4, 5, 6, 7, 8, 10, 11, 12, 13] m m213 := by rw [em214]; exact W190.put (by decide)
          refine pm_R_lo pm_M42 (pc_q := 24) rfl rfl rfl ?_
          refine pm_R_op pm_M42 (pc_q := 25) (st_q := [.int 4, .int 6]) rfl rfl rfl ?_
          refine pm_R_br pm_M42 (pc_q := 45) (st_q := []) rfl rfl ?_
          refine pm_R_lo pm_M42 (pc_q := 46) rfl rfl rfl ?_
          refine pm_R_get pm_M42 (pc_q := 49) (v := .ref 26) rfl rfl T211.e25 (by decide) (T211.lt (by decide)) rfl rfl ?_
          refine pm_R_lo pm_M42 (pc_q := 50) rfl rfl rfl ?_
          refine pm_R_get pm_M42 (pc_q := 53) (v := .int (m 5)) rfl rfl T211.e25 (by decide) (T211.lt (by decide)) (congrArg (fun z => some (Value.int z)) (Int32.toInt_inj.mp (cl_aux3 _ _ ek218))) rfl ?_
          refine pm_R_op pm_M42 (pc_q := 54) (st_q := [.int 4, .int (m 5), .ref 26]) rfl rfl rfl ?_
          refine sf_R_imul pm_M42 (pc_q := 55) rfl rfl (sf_eqT (cl_aux70 _ _ ek218) B217) sf_k4 (by decide) (by decide) (by decide) (fun z229 e230 B231 => ?_)
          refine pm_R_lo pm_M42 (pc_q := 56) rfl rfl rfl ?_
          refine pm_R_op pm_M42 (pc_q := 58) (st_q := [.int 7, .int 6, .int z229, .ref 26]) rfl rfl rfl ?_
          refine pm_R_br pm_M42 (pc_q := 61) (st_q := [.int z229, .ref 26]) rfl rfl ?_
          refine pm_R_lo pm_M42 (pc_q := 62) rfl rfl rfl ?_
          refine pm_R_op pm_M42 (pc_q := 63) (st_q := [.int 4, .int 6, .int z229, .ref 26]) rfl rfl rfl ?_
          refine pm_R_op pm_M42 (pc_q := 64) (st_q := [.int 2, .int z229, .ref 26]) rfl rfl rfl ?_
          refine pm_R_br pm_M42 (pc_q := 71) rfl rfl ?_
          have e232 := (F215.cell G (by decide) (by decide) (F177.cell G (by decide) (by decide) (F153.cell G (by decide) (by decide) (F146.cell G (by decide) (by decide) (F123.cell G (by decide) (by decide) (F99.cell G (by decide) (by decide) (F92.cell G (by decide) (by decide) (F69.cell G (by decide) (by decide) (F59.cell G (by decide) (by decide) (F53.cell G (by decide) (by decide) (F47.cell G (by decide) (by decide) (F41.cell G (by decide) (by decide) (F20.cell G (by decide) (by decide) e5)))))))))))))
          refine cl_R_ist G pm_M42 T211 (pc_q := 72) rfl e232 (by decide) ⟨_, rfl⟩ (sf_in B231 (by decide) (by decide)) rfl (fun h233 T234 F235 e236 => ?_)
          have F237 := F235.cl (ck := ck) T211.1
          have F238 := F216.trans (N := 0) (S := 0) F237 (by decide) (by decide) (by decide)
          refine pm_R_lo pm_M42 (pc_q := 73) rfl rfl rfl ?_
          refine pm_R_lo pm_M42 (pc_q := 74) rfl rfl rfl ?_
          refine pm_R_lo pm_M42 (pc_q := 75) rfl rfl rfl ?_
          refine pm_R_get pm_M42 (pc_q := 78) (v := .ref 26) rfl rfl T234.e25 (by decide) (T234.lt (by decide)) rfl rfl ?_
          refine pm_R_lo pm_M42 (pc_q := 79) rfl rfl rfl ?_
          refine pm_R_get pm_M42 (pc_q := 82) (v := .int (m 5)) rfl rfl T234.e25 (by decide) (T234.lt (by decide)) (congrArg (fun z => some (Value.int z)) (Int32.toInt_inj.mp (cl_aux3 _ _ ek218))) rfl ?_
          refine pm_R_op pm_M42 (pc_q := 83) (st_q := [.int 1, .int (m 5), .ref 26, .ref 25, .ref 25]) rfl rfl rfl ?_
          refine pm_R_cv pm_M42 (pc_q := 86) (a := 25) (ra := [.int 1, .int (m 5), .ref 26]) (rest := [.ref 25]) (ls_q := [.ref 25, .ref 26, .int (m 5), .int 1]) rfl rfl (Or.inl rfl) pm_M41 T234.e25 rfl (by decide) (T234.lt (by decide)) rfl rfl (Nat.le_of_ble_eq_true rfl) rfl rfl ?_
          refine pm_R_lo pm_M41 (pc_q := 1) rfl rfl rfl ?_
          refine pm_R_get pm_M41 (pc_q := 4) (v := .ref 29) rfl rfl T234.e25 (by decide) (T234.lt (by decide)) rfl rfl ?_
          refine pm_R_op pm_M41 (pc_q := 5) (st_q := [.int 0, .ref 29]) rfl rfl rfl ?_
          refine pm_R_lo pm_M41 (pc_q := 6) rfl rfl rfl ?_
          refine pm_R_lo pm_M41 (pc_q := 7) rfl rfl rfl ?_
          refine pm_R_op pm_M41 (pc_q := 8) (st_q := [.int 4, .int (m 5), .ref 26, .int 0, .ref 29]) rfl rfl rfl ?_
          refine sf_R_imulV pm_M41 (pc_q := 9) rfl rfl (sf_eqT (cl_aux70 _ _ ek218) B217) sf_k4 (by decide) (by decide) (by decide) e230 ?_
          refine pm_R_lo pm_M41 (pc_q := 10) rfl rfl rfl ?_
          refine sf_R_iadd pm_M41 (pc_q := 11) rfl rfl B231 sf_k1 (by decide) (by decide) (fun z239 e240 B241 => ?_)
          refine pm_R_op pm_M41 (pc_q := 12) (st_q := [.int 4, .int z239, .ref 26, .int 0, .ref 29]) rfl rfl rfl ?_
          refine pm_R_lo pm_M41 (pc_q := 13) rfl rfl rfl ?_
          refine pm_R_op pm_M41 (pc_q := 14) (st_q := [.int 3, .int z239, .ref 26, .int 0, .ref 29]) rfl rfl rfl ?_
          have e242 := (F237.cell G (by decide) (by decide) (F215.cell G (by decide) (by decide) e205))
          refine cl_R_acp G pm_M41 T234 (N := 3) (pc_q := 17) rfl rfl rfl e242 e236 (Or.inl rfl) ⟨_, rfl⟩ rfl (by decide) (by decide) B241 (by decide) (by decide) (Nat.le_of_ble_eq_true rfl) rfl (fun h243 T244 F245 e246 => ?_)
          have F247 := F245.cl (ck := ck) T234.1
          have F248 := F238.trans (N := 0) (S := 0) F247 (by decide) (by decide) (by decide)
          refine pm_R_lo pm_M41 (pc_q := 18) rfl rfl rfl ?_
          refine pm_R_op pm_M41 (pc_q := 19) (st_q := [.int 1, .int (m 5)]) rfl rfl rfl ?_
          refine sf_R_iadd pm_M41 (pc_q := 20) rfl rfl (sf_eqT (cl_aux70 _ _ ek218) B217) sf_k1 (by decide) (by decide) (fun z249 e250 B251 => ?_)
          refine pm_R_ret pm_M41 (r := some (.int z249)) rfl (pm_ret_i _) ?_
          show pm_R _ 42 86 [.ref 25, .int 6] [.int z249, .ref 25] _ _
          refine cl_R_put25 G pm_M42 T244 (k := 5) (pc_q := 89) rfl rfl rfl (by decide) rfl rfl (sf_weak B251 (by decide) (by decide)) rfl rfl rfl rfl rfl (fun h252 m255 em256 T253 F254 => ?_)
          have F257 := F254.cl (ck := ck) T244.1
          have F258 := F248.trans (N := 0) (S := 0) F257 (by decide) (by decide) (by decide)
          have B259 : sf_B 0 16 (m255 6) := by rw [em256]; exact B219
          have ek260 : (m255 6).toInt = ((m 6)).toInt := by rw [em256]; exact ek220
          have B261 : sf_B 0 99 (m255 7) := by rw [em256]; exact B221
          have ek262 : (m255 7).toInt = ((m 7)).toInt := by rw [em256]; exact ek222
          have B263 : sf_B 0 4 (m255 3) := by rw [em256]; exact B223
          have ek264 : (m255 3).toInt = ((m150 3)).toInt := by rw [em256]; exact ek224
          have B265 : sf_B 3 3 (m255 12) := by rw [em256]; exact B225
          have B266 : sf_B 0 99 (m255 8) := by rw [em256]; exact B226
          have ek267 : (m255 8).toInt = (z206).toInt := by rw [em256]; exact ek227
          have B268 : sf_B 1 50 (m255 5) := by rw [em256]; exact B251
          have ek269 : (m255 5).toInt = (z249).toInt := by rw [em256]; rfl
          have W270 : rf_W [3, 4, 5, 6, 7, 8, 10, 11, 12, 13] m m255 := by rw [em256]; exact W228.put (by decide)
          refine pm_R_ret pm_M42 (r := none) rfl rfl ?_
          show pm_R _ 40 123 [.ref 25, .int 6] [] _ _
          refine pm_R_ret pm_M40 (r := none) rfl rfl ?_
          show pm_R _ 37 139 [.ref 25, .int 6, .int 2] [] _ _
          refine pm_R_op pm_M37 (pc_q := 140) (st_q := [.int 1]) (pm_q37_1 (Nat.le_of_ble_eq_true rfl)) rfl rfl ?_
          have e271 := (F257.cell G (by decide) (by decide) e246)
          have e272 := (F257.cell G (by decide) (by decide) (F247.cell G (by decide) (by decide) (F237.cell G (by decide) (by decide) (F215.cell G (by decide) (by decide) (F177.cell G (by decide) (by decide) (F153.cell G (by decide) (by decide) (F146.cell G (by decide) (by decide) (F123.cell G (by decide) (by decide) (F99.cell G (by decide) (by decide) (F92.cell G (by decide) (by decide) (F69.cell G (by decide) (by decide) (F59.cell G (by decide) (by decide) (F53.cell G (by decide) (by decide) (F47.cell G (by decide) (by decide) (F41.cell G (by decide) (by decide) (F20.cell G (by decide) (by decide) e2))))))))))))))))
          have e273 := (F257.cell G (by decide) (by decide) (F247.cell G (by decide) (by decide) (F237.cell G (by decide) (by decide) (F215.cell G (by decide) (by decide) (F177.cell G (by decide) (by decide) (F153.cell G (by decide) (by decide) (F146.cell G (by decide) (by decide) (F123.cell G (by decide) (by decide) (F99.cell G (by decide) (by decide) (F92.cell G (by decide) (by decide) (F69.cell G (by decide) (by decide) (F59.cell G (by decide) (by decide) (F53.cell G (by decide) (by decide) (F47.cell G (by decide) (by decide) (F41.cell G (by decide) (by decide) (F20.cell G (by decide) (by decide) e8))))))))))))))))
          exact pm_R_ret pm_M37 (r := some (.int 1)) (pm_q37_1 (Nat.le_of_ble_eq_true rfl)) rfl (K 1 m255 h252 T253 F258 W270 (fun z => ⟨_, _, e271, e273, (R.at (cl_aux67 _ (X22 (cl_aux68 _ _ ek81 (q114 (cl_aux68 _ _ ek135 (q168 (cl_aux68 _ _ ek264 z)).1)).1)).1) e5 e8).deed ((cl_tnI (Int.le_trans (by decide) B231.1)).trans (cl_aux75 _ _ e230)) ((cl_tnI (Int.le_trans (by decide) B241.1)).trans (cl_aux7 _ _ _ e230 e240)) (sf_weak sf_k2 (by decide) (by decide)) (Int.le_trans (by decide) (sf_eqL (Eq.trans (sf_upd_nec (k := Int32.toNatClampNeg 1) (j := Int32.toNatClampNeg 0) (by decide)) sf_upd_eq) B199).1) (Int.le_trans (Int.le_of_eq (congrArg Int32.toInt (Eq.trans (sf_upd_nec (k := Int32.toNatClampNeg 1) (j := Int32.toNatClampNeg 0) (by decide)) sf_upd_eq))) (cl_aux78 _ _ _ _ ek267 (Int32.le_iff_toInt_le.mp q208) (Int32.le_iff_toInt_le.mp q209) B207.1 B207.2 B266.1 B266.2 B199.1 B199.2 B14.1 B14.2)) (sf_eqL sf_upd_eq (sf_weak B198 (by decide) (by decide))) (fun _ => (Int.le_trans (by decide) (sf_eqL sf_upd_eq B198).1)) (cl_aux25 _ _ _ e250 ek269) (cl_aux3 _ _ ek262) (cl_aux79 _ _ _ _ ek267 (Int32.le_iff_toInt_le.mp q208) (Int32.le_iff_toInt_le.mp q209) B207.1 B207.2 B266.1 B266.2 B199.1 B199.2 B14.1 B14.2)⟩) ⟨_, e272, b3⟩ (sf_weak sf_k1 (by decide) (by decide)))
        · have B274 : sf_B 1 4 (m150 3) := sf_neL0 c194 sf_k0 B167
          refine pm_R_ret pm_M40 (r := none) rfl rfl ?_
          show pm_R _ 37 139 [.ref 25, .int 6, .int 2] [] _ _
          refine pm_R_op pm_M37 (pc_q := 140) (st_q := [.int 1]) (pm_q37_1 (Nat.le_of_ble_eq_true rfl)) rfl rfl ?_
          have e275 := (F177.cell G (by decide) (by decide) (F153.cell G (by decide) (by decide) (F146.cell G (by decide) (by decide) (F123.cell G (by decide) (by decide) (F99.cell G (by decide) (by decide) (F92.cell G (by decide) (by decide) (F69.cell G (by decide) (by decide) (F59.cell G (by decide) (by decide) (F53.cell G (by decide) (by decide) (F47.cell G (by decide) (by decide) (F41.cell G (by decide) (by decide) (F20.cell G (by decide) (by decide) e2))))))))))))
          have e276 := (F177.cell G (by decide) (by decide) (F153.cell G (by decide) (by decide) (F146.cell G (by decide) (by decide) (F123.cell G (by decide) (by decide) (F99.cell G (by decide) (by decide) (F92.cell G (by decide) (by decide) (F69.cell G (by decide) (by decide) (F59.cell G (by decide) (by decide) (F53.cell G (by decide) (by decide) (F47.cell G (by decide) (by decide) (F41.cell G (by decide) (by decide) (F20.cell G (by decide) (by decide) e5))))))))))))
          have e277 := (F177.cell G (by decide) (by decide) (F153.cell G (by decide) (by decide) (F146.cell G (by decide) (by decide) (F123.cell G (by decide) (by decide) (F99.cell G (by decide) (by decide) (F92.cell G (by decide) (by decide) (F69.cell G (by decide) (by decide) (F59.cell G (by decide) (by decide) (F53.cell G (by decide) (by decide) (F47.cell G (by decide) (by decide) (F41.cell G (by decide) (by decide) (F20.cell G (by decide) (by decide) e8))))))))))))
          exact pm_R_ret pm_M37 (r := some (.int 1)) (pm_q37_1 (Nat.le_of_ble_eq_true rfl)) rfl (K 1 m174 h175 T176 F179 W190 (fun z => ⟨_, _, e276, e277, (R.at (cl_aux67 _ (X22 (cl_aux68 _ _ ek81 (q114 (cl_aux68 _ _ ek135 (q168 (cl_aux68 _ _ ek189 z)).1)).1)).1) e5 e8).keep (cl_aux3 _ _ ek181) (cl_aux3 _ _ ek183) (cl_aux3 _ _ ek185) (cl_aux3 _ _ ek187)⟩) ⟨_, e275, b3⟩ (sf_weak sf_k1 (by decide) (by decide)))
      · skip
        refine pm_R_op pm_M37 (pc_q := 133) (st_q := [.int 0]) (pm_q37_1 (Nat.le_of_ble_eq_true rfl)) rfl rfl ?_
        have e278 := (F177.cell G (by decide) (by decide) (F153.cell G (by decide) (by decide) (F146.cell G (by decide) (by decide) (F123.cell G (by decide) (by decide) (F99.cell G (by decide) (by decide) (F92.cell G (by decide) (by decide) (F69.cell G (by decide) (by decide) (F59.cell G (by decide) (by decide) (F53.cell G (by decide) (by decide) (F47.cell G (by decide) (by decide) (F41.cell G (by decide) (by decide) (F20.cell G (by decide) (by decide) e2))))))))))))
        have e279 := (F177.cell G (by decide) (by decide) (F153.cell G (by decide) (by decide) (F146.cell G (by decide) (by decide) (F123.cell G (by decide) (by decide) (F99.cell G (by decide) (by decide) (F92.cell G (by decide) (by decide) (F69.cell G (by decide) (by decide) (F59.cell G (by decide) (by decide) (F53.cell G (by decide) (by decide) (F47.cell G (by decide) (by decide) (F41.cell G (by decide) (by decide) (F20.cell G (by decide) (by decide) e5))))))))))))
        have e280 := (F177.cell G (by decide) (by decide) (F153.cell G (by decide) (by decide) (F146.cell G (by decide) (by decide) (F123.cell G (by decide) (by decide) (F99.cell G (by decide) (by decide) (F92.cell G (by decide) (by decide) (F69.cell G (by decide) (by decide) (F59.cell G (by decide) (by decide) (F53.cell G (by decide) (by decide) (F47.cell G (by decide) (by decide) (F41.cell G (by decide) (by decide) (F20.cell G (by decide) (by decide) e8))))))))))))
        exact pm_R_ret pm_M37 (r := some (.int 0)) (pm_q37_1 (Nat.le_of_ble_eq_true rfl)) rfl (K 0 m174 h175 T176 F179 W190 (fun z => ⟨_, _, e279, e280, (R.at (cl_aux67 _ (X22 (cl_aux68 _ _ ek81 (q114 (cl_aux68 _ _ ek135 (q168 (cl_aux68 _ _ ek189 z)).1)).1)).1) e5 e8).keep (cl_aux3 _ _ ek181) (cl_aux3 _ _ ek183) (cl_aux3 _ _ ek185) (cl_aux3 _ _ ek187)⟩) ⟨_, e278, b3⟩ (sf_weak sf_k0 (by decide) (by decide)))
    · skip
      refine pm_R_op pm_M37 (pc_q := 50) (st_q := [.int 0]) rfl rfl rfl ?_
      have e281 := (F123.cell G (by decide) (by decide) (F99.cell G (by decide) (by decide) (F92.cell G (by decide) (by decide) (F69.cell G (by decide) (by decide) (F59.cell G (by decide) (by decide) (F53.cell G (by decide) (by decide) (F47.cell G (by decide) (by decide) (F41.cell G (by decide) (by decide) (F20.cell G (by decide) (by decide) e2)))))))))
      have e282 := (F123.cell G (by decide) (by decide) (F99.cell G (by decide) (by decide) (F92.cell G (by decide) (by decide) (F69.cell G (by decide) (by decide) (F59.cell G (by decide) (by decide) (F53.cell G (by decide) (by decide) (F47.cell G (by decide) (by decide) (F41.cell G (by decide) (by decide) (F20.cell G (by decide) (by decide) e5)))))))))
      have e283 := (F123.cell G (by decide) (by decide) (F99.cell G (by decide) (by decide) (F92.cell G (by decide) (by decide) (F69.cell G (by decide) (by decide) (F59.cell G (by decide) (by decide) (F53.cell G (by decide) (by decide) (F47.cell G (by decide) (by decide) (F41.cell G (by decide) (by decide) (F20.cell G (by decide) (by decide) e8)))))))))
      exact pm_R_ret pm_M37 (r := some (.int 0)) rfl rfl (K 0 m120 h121 T122 F125 W136 (fun z => ⟨_, _, e282, e283, (R.at (cl_aux67 _ (X22 (cl_aux68 _ _ ek81 (q114 (cl_aux68 _ _ ek135 z)).1)).1) e5 e8).keep (cl_aux3 _ _ ek127) (cl_aux3 _ _ ek129) (cl_aux3 _ _ ek131) (cl_aux3 _ _ ek133)⟩) ⟨_, e281, b3⟩ (sf_weak sf_k0 (by decide) (by decide)))
  · skip
    refine pm_R_op pm_M37 (pc_q := 50) (st_q := [.int 0]) rfl rfl rfl ?_
    have e284 := (F69.cell G (by decide) (by decide) (F59.cell G (by decide) (by decide) (F53.cell G (by decide) (by decide) (F47.cell G (by decide) (by decide) (F41.cell G (by decide) (by decide) (F20.cell G (by decide) (by decide) e2))))))
    have e285 := (F69.cell G (by decide) (by decide) (F59.cell G (by decide) (by decide) (F53.cell G (by decide) (by decide) (F47.cell G (by decide) (by decide) (F41.cell G (by decide) (by decide) (F20.cell G (by decide) (by decide) e5))))))
    have e286 := (F69.cell G (by decide) (by decide) (F59.cell G (by decide) (by decide) (F53.cell G (by decide) (by decide) (F47.cell G (by decide) (by decide) (F41.cell G (by decide) (by decide) (F20.cell G (by decide) (by decide) e8))))))
    exact pm_R_ret pm_M37 (r := some (.int 0)) rfl rfl (K 0 m66 h67 T68 F71 W82 (fun z => ⟨_, _, e285, e286, (R.at (cl_aux67 _ (X22 (cl_aux68 _ _ ek81 z)).1) e5 e8).keep (cl_aux3 _ _ ek73) (cl_aux3 _ _ ek75) (cl_aux3 _ _ ek77) (cl_aux3 _ _ ek79)⟩) ⟨_, e284, b3⟩ (sf_weak sf_k0 (by decide) (by decide)))

theorem cl_aux80 (v0 v1 : Int) (q0 : v0 = v1) (q1 : v1 < 8) : v0 ≤ 7 := by omega
theorem cl_aux81 (v0 v1 v2 : Int) (q0 : v0 = v1 + 1) (q1 : v2 = v0) (q2 : 0 ≤ v1) (q3 : v1 ≤ 7) (q4 : 1 ≤ v2) (q5 : v2 ≤ 8) : v1 < 8 := by omega
set_option maxRecDepth 100000 in
set_option maxHeartbeats 4000000 in
/-- SilentTable$TextReader.readLine -/
theorem cl_c37_7 {d : Nat} {ck : cl_K} {E : Nat → pm_E} {m : Nat → Int32} {o : Nat → Option Nat} {h : pm_H} {Q : Option Value → pm_H → Prop}  (G : cl_G ck E) (T : cl_T ck E m o h) (R : cl_Rd 3 m h) (Y : cl_Y h) (K : ∀ (r : Int32) (m_q : Nat → Int32) (h_q : pm_H), cl_T ck E m_q o h_q → cl_F ck [25, 26, 29, 30] 0 0 h h_q → rf_W [3, 4, 5, 6, 7, 8, 10, 11, 12, 13] m m_q → cl_Rd 3 m_q h_q → cl_Y h_q → sf_B 0 1 r → Q (some (.int r)) h_q) : pm_R (d + 7) 37 0 [.ref 25, .int 7, pm_no] [] h Q := by
  obtain ⟨f1, e2, b3⟩ := Y
  obtain ⟨f4, e5⟩ := T.C 26 (by decide) (by decide)
  obtain ⟨f7, e8⟩ := T.C 27 (by decide) (by decide)
  have B10 : sf_B 0 4 (m 3) := T.B 3
  have B11 : sf_B 0 50 (m 5) := T.B 5
  have B12 : sf_B 0 16 (m 6) := T.B 6
  have B13 : sf_B 0 99 (m 7) := T.B 7
  have B14 : sf_B (-1) 99 (m 8) := T.B 8
  refine pm_R_lo pm_M37 (pc_q := 1) rfl rfl rfl ?_
  refine pm_R_op pm_M37 (pc_q := 2) (st_q := [.int (-1), .int 7]) rfl rfl rfl ?_
  refine pm_R_br pm_M37 (pc_q := 7) (st_q := []) rfl rfl ?_
  refine pm_R_lo pm_M37 (pc_q := 8) rfl rfl rfl ?_
  refine pm_R_lo pm_M37 (pc_q := 9) rfl rfl rfl ?_
  refine pm_R_cv pm_M37 (pc_q := 12) (a := 25) (ra := [.int 7]) (rest := []) (ls_q := [.ref 25, .int 7, pm_no, pm_no]) rfl rfl (Or.inl rfl) pm_M38 T.e25 rfl (by decide) (T.lt (by decide)) rfl rfl (Nat.le_of_ble_eq_true rfl) rfl rfl ?_
  refine cl_c38_7 (d := d + 5) G T  (fun m17 h18 T19 F20 W21 X22 => ?_)
  have F23 := (cl_F.refl (ck := ck) (A := [25, 26, 29, 30]) (n := 0) (s := 0) T.1).trans (N := 0) (S := 0) F20 (by decide) (by decide) (by decide)
  have B24 : sf_B 0 50 (m17 5) := by rw [W21 5 (by decide)]; exact B11
  have ek25 : (m17 5).toInt = ((m 5)).toInt := by rw [W21 5 (by decide)]
  have B26 : sf_B 0 16 (m17 6) := by rw [W21 6 (by decide)]; exact B12
  have ek27 : (m17 6).toInt = ((m 6)).toInt := by rw [W21 6 (by decide)]
  have B28 : sf_B 0 99 (m17 7) := by rw [W21 7 (by decide)]; exact B13
  have ek29 : (m17 7).toInt = ((m 7)).toInt := by rw [W21 7 (by decide)]
  have B30 : sf_B (-1) 99 (m17 8) := by rw [W21 8 (by decide)]; exact B14
  have ek31 : (m17 8).toInt = ((m 8)).toInt := by rw [W21 8 (by decide)]
  have W32 : rf_W [3, 4, 5, 6, 7, 8, 10, 11, 12, 13] m m17 := (rf_W.refl [3, 4, 5, 6, 7, 8, 10, 11, 12, 13] m).trans W21 (by decide)
  have B33 : sf_B 0 4 (m17 3) := T19.B 3
  show pm_R _ 37 12 [.ref 25, .int 7, pm_no] [] _ _
  refine pm_R_lo pm_M37 (pc_q := 13) rfl rfl rfl ?_
  refine pm_R_get pm_M37 (pc_q := 16) (v := .ref 29) rfl rfl T19.e25 (by decide) (T19.lt (by decide)) rfl rfl ?_
  refine pm_R_op pm_M37 (pc_q := 17) (st_q := [.int (-1), .ref 29]) rfl rfl rfl ?_
  refine pm_R_cs pm_M37 (pc_q := 20) (ra := [.int (-1), .ref 29]) (rest := []) (ls_q := [.ref 29, .int (-1), pm_no, pm_no]) rfl rfl (Or.inl rfl) pm_M13 rfl rfl (Nat.le_of_ble_eq_true rfl) rfl rfl ?_
  refine pm_R_op pm_M13 (pc_q := 1) (st_q := [.int 0]) rfl rfl rfl ?_
  refine pm_R_lo pm_M13 (pc_q := 2) (ls_q := [.ref 29, .int (-1), .int 0, pm_no]) (st_q := []) rfl rfl rfl ?_
  refine pm_R_lo pm_M13 (pc_q := 3) rfl rfl rfl ?_
  obtain ⟨f34, e35⟩ := T19.C 29 (by decide) (by decide)
  refine pm_R_alen pm_M13 (pc_q := 4) (v := 4) rfl e35 (by decide) (T19.lt (by decide)) (by decide) rfl rfl ?_
  refine pm_R_lo pm_M13 (pc_q := 5) (ls_q := [.ref 29, .int (-1), .int 0, .int 4]) (st_q := []) rfl rfl rfl ?_
  refine pm_R_lo pm_M13 (pc_q := 6) rfl rfl rfl ?_
  refine pm_R_lo pm_M13 (pc_q := 7) rfl rfl rfl ?_
  refine pm_R_br pm_M13 (pc_q := 10) (st_q := []) rfl rfl ?_
  refine pm_R_lo pm_M13 (pc_q := 11) rfl rfl rfl ?_
  refine pm_R_lo pm_M13 (pc_q := 12) rfl rfl rfl ?_
  refine pm_R_lo pm_M13 (pc_q := 13) rfl rfl rfl ?_
  refine cl_R_ist G pm_M13 T19 (pc_q := 14) rfl e35 (by decide) ⟨_, rfl⟩ rfl rfl (fun h37 T38 F39 e40 => ?_)
  have F41 := F39.cl (ck := ck) T19.1
  have F42 := F23.trans (N := 0) (S := 0) F41 (by decide) (by decide) (by decide)
  refine pm_R_lo pm_M13 (pc_q := 17) (ls_q := [.ref 29, .int (-1), .int 1, .int 4]) (st_q := []) rfl rfl rfl ?_
  refine pm_R_br pm_M13 (pc_q := 5) rfl rfl ?_
  refine pm_R_lo pm_M13 (pc_q := 6) rfl rfl rfl ?_
  refine pm_R_lo pm_M13 (pc_q := 7) rfl rfl rfl ?_
  refine pm_R_br pm_M13 (pc_q := 10) (st_q := []) rfl rfl ?_
  refine pm_R_lo pm_M13 (pc_q := 11) rfl rfl rfl ?_
  refine pm_R_lo pm_M13 (pc_q := 12) rfl rfl rfl ?_
  refine pm_R_lo pm_M13 (pc_q := 13) rfl rfl rfl ?_
  refine cl_R_ist G pm_M13 T38 (pc_q := 14) rfl e40 (by decide) ⟨_, rfl⟩ rfl rfl (fun h43 T44 F45 e46 => ?_)
  have F47 := F45.cl (ck := ck) T38.1
  have F48 := F42.trans (N := 0) (S := 0) F47 (by decide) (by decide) (by decide)
  refine pm_R_lo pm_M13 (pc_q := 17) (ls_q := [.ref 29, .int (-1), .int 2, .int 4]) (st_q := []) rfl rfl rfl ?_
  refine pm_R_br pm_M13 (pc_q := 5) rfl rfl ?_
  refine pm_R_lo pm_M13 (pc_q := 6) rfl rfl rfl ?_
  refine pm_R_lo pm_M13 (pc_q := 7) rfl rfl rfl ?_
  refine pm_R_br pm_M13 (pc_q := 10) (st_q := []) rfl rfl ?_
  refine pm_R_lo pm_M13 (pc_q := 11) rfl rfl rfl ?_
  refine pm_R_lo pm_M13 (pc_q := 12) rfl rfl rfl ?_
  refine pm_R_lo pm_M13 (pc_q := 13) rfl rfl rfl ?_
  refine cl_R_ist G pm_M13 T44 (pc_q := 14) rfl e46 (by decide) ⟨_, rfl⟩ rfl rfl (fun h49 T50 F51 e52 => ?_)
  have F53 := F51.cl (ck := ck) T44.1
  have F54 := F48.trans (N := 0) (S := 0) F53 (by decide) (by decide) (by decide)
  refine pm_R_lo pm_M13 (pc_q := 17) (ls_q := [.ref 29, .int (-1), .int 3, .int 4]) (st_q := []) rfl rfl rfl ?_
  refine pm_R_br pm_M13 (pc_q := 5) rfl rfl ?_
  refine pm_R_lo pm_M13 (pc_q := 6) rfl rfl rfl ?_
  refine pm_R_lo pm_M13 (pc_q := 7) rfl rfl rfl ?_
  refine pm_R_br pm_M13 (pc_q := 10) (st_q := []) rfl rfl ?_
  refine pm_R_lo pm_M13 (pc_q := 11) rfl rfl rfl ?_
  refine pm_R_lo pm_M13 (pc_q := 12) rfl rfl rfl ?_
  refine pm_R_lo pm_M13 (pc_q := 13) rfl rfl rfl ?_
  refine cl_R_ist G pm_M13 T50 (pc_q := 14) rfl e52 (by decide) ⟨_, rfl⟩ rfl rfl (fun h55 T56 F57 e58 => ?_)
  have F59 := F57.cl (ck := ck) T50.1
  have F60 := F54.trans (N := 0) (S := 0) F59 (by decide) (by decide) (by decide)
  refine pm_R_lo pm_M13 (pc_q := 17) (ls_q := [.ref 29, .int (-1), .int 4, .int 4]) (st_q := []) rfl rfl rfl ?_
  refine pm_R_br pm_M13 (pc_q := 5) rfl rfl ?_
  refine pm_R_lo pm_M13 (pc_q := 6) rfl rfl rfl ?_
  refine pm_R_lo pm_M13 (pc_q := 7) rfl rfl rfl ?_
  refine pm_R_br pm_M13 (pc_q := 20) (st_q := []) rfl rfl ?_
  refine pm_R_ret pm_M13 (r := none) rfl rfl ?_
  show pm_R _ 37 20 [.ref 25, .int 7, pm_no] [] _ _
  refine pm_R_op pm_M37 (pc_q := 21) (st_q := [.int 0]) rfl rfl rfl ?_
  refine pm_R_lo pm_M37 (pc_q := 22) (ls_q := [.ref 25, .int 7, .int 0]) (st_q := []) rfl rfl rfl ?_
  refine pm_R_lo pm_M37 (pc_q := 23) rfl rfl rfl ?_
  refine pm_R_stat pm_M37 (pc_q := 26) rfl rfl rfl ?_
  refine pm_R_lo pm_M37 (pc_q := 27) rfl rfl rfl ?_
  refine pm_R_iald pm_M37 (pc_q := 28) (v := 1) rfl ((T56.old (by decide)).trans G.tb2) (T56.lt (by decide)) rfl rfl rfl ?_
  refine pm_R_br pm_M37 (pc_q := 31) (st_q := []) rfl rfl ?_
  refine pm_R_lo pm_M37 (pc_q := 32) rfl rfl rfl ?_
  refine pm_R_get pm_M37 (pc_q := 35) (v := .ref 30) rfl rfl T56.e25 (by decide) (T56.lt (by decide)) rfl rfl ?_
  refine pm_R_cv pm_M37 (pc_q := 38) (a := 30) (ra := []) (rest := []) (ls_q := [.ref 30]) rfl rfl (Or.inl rfl) pm_M16 T56.e30 rfl (by decide) (T56.lt (by decide)) rfl rfl (Nat.le_of_ble_eq_true rfl) rfl rfl ?_
  refine cl_c16 (d := d + 4) G T56  (fun m66 h67 T68 F69 W70 => ?_)
  have F71 := F60.trans (N := 0) (S := 0) F69 (by decide) (by decide) (by decide)
  have B72 : sf_B 0 50 (m66 5) := by rw [W70 5 (by decide)]; exact B24
  have ek73 : (m66 5).toInt = ((m 5)).toInt := by rw [W70 5 (by decide)]; exact ek25
  have B74 : sf_B 0 16 (m66 6) := by rw [W70 6 (by decide)]; exact B26
  have ek75 : (m66 6).toInt = ((m 6)).toInt := by rw [W70 6 (by decide)]; exact ek27
  have B76 : sf_B 0 99 (m66 7) := by rw [W70 7 (by decide)]; exact B28
  have ek77 : (m66 7).toInt = ((m 7)).toInt := by rw [W70 7 (by decide)]; exact ek29
  have B78 : sf_B (-1) 99 (m66 8) := by rw [W70 8 (by decide)]; exact B30
  have ek79 : (m66 8).toInt = ((m 8)).toInt := by rw [W70 8 (by decide)]; exact ek31
  have B80 : sf_B 0 4 (m66 3) := by rw [W70 3 (by decide)]; exact B33
  have ek81 : (m66 3).toInt = ((m17 3)).toInt := by rw [W70 3 (by decide)]
  have W82 : rf_W [3, 4, 5, 6, 7, 8, 10, 11, 12, 13] m m66 := W32.trans W70 (by decide)
  show pm_R _ 37 38 [.ref 25, .int 7, .int 0] [] _ _
  refine pm_R_lo pm_M37 (pc_q := 39) rfl rfl rfl ?_
  refine pm_R_get pm_M37 (pc_q := 42) (v := .ref 30) rfl rfl T68.e25 (by decide) (T68.lt (by decide)) rfl rfl ?_
  have B83 : sf_B 0 4 (m66 12) := T68.B 12
  refine pm_R_get pm_M37 (pc_q := 45) (v := .int (m66 12)) rfl rfl T68.e30 (by decide) (T68.lt (by decide)) rfl rfl ?_
  refine pm_R_op pm_M37 (pc_q := 46) (st_q := [.int 2, .int (m66 12)]) rfl rfl rfl ?_
  refine pm_R_icmp pm_M37 (t := 51) (pc_q := 49) rfl rfl rfl (fun c84 => ?_) (fun c84 => ?_)
  · have B85 : sf_B 2 2 (m66 12) := sf_eqL c84 sf_k2
    refine pm_R_lo pm_M37 (pc_q := 52) rfl rfl rfl ?_
    refine pm_R_get pm_M37 (pc_q := 55) (v := .ref 29) rfl rfl T68.e25 (by decide) (T68.lt (by decide)) rfl rfl ?_
    refine pm_R_lo pm_M37 (pc_q := 56) rfl rfl rfl ?_
    refine pm_R_lo pm_M37 (pc_q := 57) rfl rfl rfl ?_
    refine pm_R_get pm_M37 (pc_q := 60) (v := .ref 30) rfl rfl T68.e25 (by decide) (T68.lt (by decide)) rfl rfl ?_
    have B86 : sf_B 0 99 (m66 13) := T68.B 13
    refine pm_R_get pm_M37 (pc_q := 63) (v := .int (m66 13)) rfl rfl T68.e30 (by decide) (T68.lt (by decide)) rfl rfl ?_
    have e87 := (F69.cell G (by decide) (by decide) e58)
    refine cl_R_ist G pm_M37 T68 (pc_q := 64) rfl e87 (by decide) ⟨_, rfl⟩ rfl rfl (fun h88 T89 F90 e91 => ?_)
    have F92 := F90.cl (ck := ck) T68.1
    have F93 := F71.trans (N := 0) (S := 0) F92 (by decide) (by decide) (by decide)
    refine pm_R_lo pm_M37 (pc_q := 65) rfl rfl rfl ?_
    refine pm_R_lo pm_M37 (pc_q := 66) rfl rfl rfl ?_
    refine pm_R_lo pm_M37 (pc_q := 67) rfl rfl rfl ?_
    refine pm_R_cv pm_M37 (pc_q := 70) (a := 25) (ra := [.int 0, .int 7]) (rest := []) (ls_q := [.ref 25, .int 7, .int 0, pm_no, pm_no, pm_no]) rfl rfl (Or.inl rfl) pm_M39 T89.e25 rfl (by decide) (T89.lt (by decide)) rfl rfl (Nat.le_of_ble_eq_true rfl) rfl rfl ?_
    refine cl_c39_7_0 (d := d + 5) G T89  (fun m96 h97 T98 F99 W100 X101 => ?_)
    have F102 := F93.trans (N := 0) (S := 0) F99 (by decide) (by decide) (by decide)
    have B103 : sf_B 0 50 (m96 5) := by rw [W100 5 (by decide)]; exact B72
    have ek104 : (m96 5).toInt = ((m 5)).toInt := by rw [W100 5 (by decide)]; exact ek73
    have B105 : sf_B 0 16 (m96 6) := by rw [W100 6 (by decide)]; exact B74
    have ek106 : (m96 6).toInt = ((m 6)).toInt := by rw [W100 6 (by decide)]; exact ek75
    have B107 : sf_B 0 99 (m96 7) := by rw [W100 7 (by decide)]; exact B76
    have ek108 : (m96 7).toInt = ((m 7)).toInt := by rw [W100 7 (by decide)]; exact ek77
    have B109 : sf_B (-1) 99 (m96 8) := by rw [W100 8 (by decide)]; exact B78
    have ek110 : (m96 8).toInt = ((m 8)).toInt := by rw [W100 8 (by decide)]; exact ek79
    have B111 : sf_B 2 2 (m96 12) := by rw [W100 12 (by decide)]; exact B85
    have W112 : rf_W [3, 4, 5, 6, 7, 8, 10, 11, 12, 13] m m96 := W82.trans W100 (by decide)
    have B113 : sf_B 0 4 (m96 3) := T98.B 3
    show pm_R _ 37 70 [.ref 25, .int 7, .int 0] [] _ _
    have q114 := X101 _ e91
    refine pm_R_lo pm_M37 (pc_q := 73) (ls_q := [.ref 25, .int 7, .int 1]) (st_q := []) rfl rfl rfl ?_
    refine pm_R_br pm_M37 (pc_q := 22) rfl rfl ?_
    refine pm_R_lo pm_M37 (pc_q := 23) rfl rfl rfl ?_
    refine pm_R_stat pm_M37 (pc_q := 26) rfl rfl rfl ?_
    refine pm_R_lo pm_M37 (pc_q := 27) rfl rfl rfl ?_
    refine pm_R_iald pm_M37 (pc_q := 28) (v := 1) rfl ((T98.old (by decide)).trans G.tb2) (T98.lt (by decide)) rfl rfl rfl ?_
    refine pm_R_br pm_M37 (pc_q := 76) (st_q := []) rfl rfl ?_
    refine pm_R_lo pm_M37 (pc_q := 77) rfl rfl rfl ?_
    refine pm_R_br pm_M37 (pc_q := 114) (st_q := []) rfl rfl ?_
    refine pm_R_lo pm_M37 (pc_q := 115) (pm_q37_1 (Nat.le_of_ble_eq_true rfl)) rfl rfl ?_
    refine pm_R_get pm_M37 (pc_q := 118) (v := .ref 30) (pm_q37_1 (Nat.le_of_ble_eq_true rfl)) rfl T98.e25 (by decide) (T98.lt (by decide)) rfl rfl ?_
    refine pm_R_cv pm_M37 (pc_q := 121) (a := 30) (ra := []) (rest := []) (ls_q := [.ref 30]) (pm_q37_1 (Nat.le_of_ble_eq_true rfl)) rfl (Or.inl rfl) pm_M16 T98.e30 rfl (by decide) (T98.lt (by decide)) rfl rfl (Nat.le_of_ble_eq_true rfl) rfl rfl ?_
    refine cl_c16 (d := d + 4) G T98  (fun m120 h121 T122 F123 W124 => ?_)
    have F125 := F102.trans (N := 0) (S := 0) F123 (by decide) (by decide) (by decide)
    have B126 : sf_B 0 50 (m120 5) := by rw [W124 5 (by decide)]; exact B103
    have ek127 : (m120 5).toInt = ((m 5)).toInt := by rw [W124 5 (by decide)]; exact ek104
    have B128 : sf_B 0 16 (m120 6) := by rw [W124 6 (by decide)]; exact B105
    have ek129 : (m120 6).toInt = ((m 6)).toInt := by rw [W124 6 (by decide)]; exact ek106
    have B130 : sf_B 0 99 (m120 7) := by rw [W124 7 (by decide)]; exact B107
    have ek131 : (m120 7).toInt = ((m 7)).toInt := by rw [W124 7 (by decide)]; exact ek108
    have B132 : sf_B (-1) 99 (m120 8) := by rw [W124 8 (by decide)]; exact B109
    have ek133 : (m120 8).toInt = ((m 8)).toInt := by rw [W124 8 (by decide)]; exact ek110
    have B134 : sf_B 0 4 (m120 3) := by rw [W124 3 (by decide)]; exact B113
    have ek135 : (m120 3).toInt = ((m96 3)).toInt := by rw [W124 3 (by decide)]
    have W136 : rf_W [3, 4, 5, 6, 7, 8, 10, 11, 12, 13] m m120 := W112.trans W124 (by decide)
    show pm_R _ 37 121 [.ref 25, .int 7, .int 1] [] _ _
    refine pm_R_lo pm_M37 (pc_q := 122) (pm_q37_1 (Nat.le_of_ble_eq_true rfl)) rfl rfl ?_
    refine pm_R_get pm_M37 (pc_q := 125) (v := .ref 30) (pm_q37_1 (Nat.le_of_ble_eq_true rfl)) rfl T122.e25 (by decide) (T122.lt (by decide)) rfl rfl ?_
    have B137 : sf_B 0 4 (m120 12) := T122.B 12
    refine pm_R_get pm_M37 (pc_q := 128) (v := .int (m120 12)) (pm_q37_1 (Nat.le_of_ble_eq_true rfl)) rfl T122.e30 (by decide) (T122.lt (by decide)) rfl rfl ?_
    refine pm_R_op pm_M37 (pc_q := 129) (st_q := [.int 3, .int (m120 12)]) (pm_q37_1 (Nat.le_of_ble_eq_true rfl)) rfl rfl ?_
    refine pm_R_icmp pm_M37 (t := 134) (pc_q := 132) (pm_q37_1 (Nat.le_of_ble_eq_true rfl)) rfl rfl (fun c138 => ?_) (fun c138 => ?_)
    · have B139 : sf_B 3 3 (m120 12) := sf_eqL c138 sf_k3
      refine pm_R_lo pm_M37 (pc_q := 135) (pm_q37_1 (Nat.le_of_ble_eq_true rfl)) rfl rfl ?_
      refine pm_R_lo pm_M37 (pc_q := 136) (pm_q37_1 (Nat.le_of_ble_eq_true rfl)) rfl rfl ?_
      refine pm_R_cv pm_M37 (pc_q := 139) (a := 25) (ra := [.int 7]) (rest := []) (ls_q := [.ref 25, .int 7]) (pm_q37_1 (Nat.le_of_ble_eq_true rfl)) rfl (Or.inl rfl) pm_M40 T122.e25 rfl (by decide) (T122.lt (by decide)) rfl rfl (Nat.le_of_ble_eq_true rfl) rfl rfl ?_
      refine pm_R_lo pm_M40 (pc_q := 1) rfl rfl rfl ?_
      refine pm_R_get pm_M40 (pc_q := 4) (v := .int (m96 3)) rfl rfl T122.e25 (by decide) (T122.lt (by decide)) (congrArg (fun z => some (Value.int z)) (Int32.toInt_inj.mp (cl_aux3 _ _ ek135))) rfl ?_
      refine pm_R_ifc pm_M40 (t := 8) (pc_q := 7) rfl rfl rfl (fun c140 => ?_) (fun c140 => ?_)
      · have y141 := q114 (cl_aux67 _ (congrArg Int32.toInt c140))
        have y142 := X22 (cl_aux68 _ _ ek81 y141.1)
        have B143 : sf_B 0 9 (m66 13) := ⟨B86.1, cl_upE (P := fun x => x.toInt ≤ 9) y141.2.2⟩
        have B144 : sf_B 0 7 (m120 5) := ⟨B126.1, (cl_aux80 _ _ ek127 y142.2)⟩
        have B145 : sf_B 0 0 (m96 3) := sf_eqL c140 sf_k0
        refine pm_R_lo pm_M40 (pc_q := 9) rfl rfl rfl ?_
        refine pm_R_br pm_M40 (pc_q := 118) (st_q := []) rfl rfl ?_
        refine pm_R_lo pm_M40 (pc_q := 119) rfl rfl rfl ?_
        refine pm_R_lo pm_M40 (pc_q := 120) rfl rfl rfl ?_
        refine pm_R_cv pm_M40 (pc_q := 123) (a := 25) (ra := [.int 7]) (rest := []) (ls_q := [.ref 25, .int 7]) rfl rfl (Or.inl rfl) pm_M42 T122.e25 rfl (by decide) (T122.lt (by decide)) rfl rfl (Nat.le_of_ble_eq_true rfl) rfl rfl ?_
        refine pm_R_lo pm_M42 (pc_q := 1) rfl rfl rfl ?_
        refine pm_R_op pm_M42 (pc_q := 3) (st_q := [.int 7, .int 7]) rfl rfl rfl ?_
        refine pm_R_br pm_M42 (pc_q := 45) (st_q := []) rfl rfl ?_
        refine pm_R_lo pm_M42 (pc_q := 46) rfl rfl rfl ?_
        refine pm_R_get pm_M42 (pc_q := 49) (v := .ref 26) rfl rfl T122.e25 (by decide) (T122.lt (by decide)) rfl rfl ?_
        refine pm_R_lo pm_M42 (pc_q := 50) rfl rfl rfl ?_
        refine pm_R_get pm_M42 (pc_q := 53) (v := .int (m 5)) rfl rfl T122.e25 (by decide) (T122.lt (by decide)) (congrArg (fun z => some (Value.int z)) (Int32.toInt_inj.mp (cl_aux3 _ _ ek127))) rfl ?_
        refine pm_R_op pm_M42 (pc_q := 54) (st_q := [.int 4, .int (m 5), .ref 26]) rfl rfl rfl ?_
        refine sf_R_imul pm_M42 (pc_q := 55) rfl rfl (sf_eqT (cl_aux70 _ _ ek127) B144) sf_k4 (by decide) (by decide) (by decide) (fun z146 e147 B148 => ?_)
        refine pm_R_lo pm_M42 (pc_q := 56) rfl rfl rfl ?_
        refine pm_R_op pm_M42 (pc_q := 58) (st_q := [.int 7, .int 7, .int z146, .ref 26]) rfl rfl rfl ?_
        refine pm_R_br pm_M42 (pc_q := 67) (st_q := [.int z146, .ref 26]) rfl rfl ?_
        refine pm_R_lo pm_M42 (pc_q := 68) rfl rfl rfl ?_
        refine pm_R_op pm_M42 (pc_q := 70) (st_q := [.int 7, .int 7, .int z146, .ref 26]) rfl rfl rfl ?_
        refine pm_R_op pm_M42 (pc_q := 71) (st_q := [.int 0, .int z146, .ref 26]) rfl rfl rfl ?_
        have e149 := (F123.cell G (by decide) (by decide) (F99.cell G (by decide) (by decide) (F92.cell G (by decide) (by decide) (F69.cell G (by decide) (by decide) (F59.cell G (by decide) (by decide) (F53.cell G (by decide) (by decide) (F47.cell G (by decide) (by decide) (F41.cell G (by decide) (by decide) (F20.cell G (by decide) (by decide) e5)))))))))
        refine cl_R_ist G pm_M42 T122 (pc_q := 72) rfl e149 (by decide) ⟨_, rfl⟩ (sf_in B148 (by decide) (by decide)) rfl (fun h150 T151 F152 e153 => ?_)
        have F154 := F152.cl (ck := ck) T122.1
        have F155 := F125.trans (N := 0) (S := 0) F154 (by decide) (by decide) (by decide)
        refine pm_R_lo pm_M42 (pc_q := 73) rfl rfl rfl ?_
        refine pm_R_lo pm_M42 (pc_q := 74) rfl rfl rfl ?_
        refine pm_R_lo pm_M42 (pc_q := 75) rfl rfl rfl ?_
        refine pm_R_get pm_M42 (pc_q := 78) (v := .ref 26) rfl rfl T151.e25 (by decide) (T151.lt (by decide)) rfl rfl ?_
        refine pm_R_lo pm_M42 (pc_q := 79) rfl rfl rfl ?_
        refine pm_R_get pm_M42 (pc_q := 82) (v := .int (m 5)) rfl rfl T151.e25 (by decide) (T151.lt (by decide)) (congrArg (fun z => some (Value.int z)) (Int32.toInt_inj.mp (cl_aux3 _ _ ek127))) rfl ?_
        refine pm_R_op pm_M42 (pc_q := 83) (st_q := [.int 1, .int (m 5), .ref 26, .ref 25, .ref 25]) rfl rfl rfl ?_
        refine pm_R_cv pm_M42 (pc_q := 86) (a := 25) (ra := [.int 1, .int (m 5), .ref 26]) (rest := [.ref 25]) (ls_q := [.ref 25, .ref 26, .int (m 5), .int 1]) rfl rfl (Or.inl rfl) pm_M41 T151.e25 rfl (by decide) (T151.lt (by decide)) rfl rfl (Nat.le_of_ble_eq_true rfl) rfl rfl ?_
        refine pm_R_lo pm_M41 (pc_q := 1) rfl rfl rfl ?_
        refine pm_R_get pm_M41 (pc_q := 4) (v := .ref 29) rfl rfl T151.e25 (by decide) (T151.lt (by decide)) rfl rfl ?_
        refine pm_R_op pm_M41 (pc_q := 5) (st_q := [.int 0, .ref 29]) rfl rfl rfl ?_
        refine pm_R_lo pm_M41 (pc_q := 6) rfl rfl rfl ?_
        refine pm_R_lo pm_M41 (pc_q := 7) rfl rfl rfl ?_
        refine pm_R_op pm_M41 (pc_q := 8) (st_q := [.int 4, .int (m 5), .ref 26, .int 0, .ref 29]) rfl rfl rfl ?_
        refine sf_R_imulV pm_M41 (pc_q := 9) rfl rfl (sf_eqT (cl_aux70 _ _ ek127) B144) sf_k4 (by decide) (by decide) (by decide) e147 ?_
        refine pm_R_lo pm_M41 (pc_q := 10) rfl rfl rfl ?_
        refine sf_R_iadd pm_M41 (pc_q := 11) rfl rfl B148 sf_k1 (by decide) (by decide) (fun z156 e157 B158 => ?_)
        refine pm_R_op pm_M41 (pc_q := 12) (st_q := [.int 4, .int z156, .ref 26, .int 0, .ref 29]) rfl rfl rfl ?_
        refine pm_R_lo pm_M41 (pc_q := 13) rfl rfl rfl ?_
        refine pm_R_op pm_M41 (pc_q := 14) (st_q := [.int 3, .int z156, .ref 26, .int 0, .ref 29]) rfl rfl rfl ?_
        have e159 := (F154.cell G (by decide) (by decide) (F123.cell G (by decide) (by decide) (F99.cell G (by decide) (by decide) e91)))
        refine cl_R_acp G pm_M41 T151 (N := 3) (pc_q := 17) rfl rfl rfl e159 e153 (Or.inl rfl) ⟨_, rfl⟩ rfl (by decide) (by decide) B158 (by decide) (by decide) (Nat.le_of_ble_eq_true rfl) rfl (fun h160 T161 F162 e163 => ?_)
        have F164 := F162.cl (ck := ck) T151.1
        have F165 := F155.trans (N := 0) (S := 0) F164 (by decide) (by decide) (by decide)
        refine pm_R_lo pm_M41 (pc_q := 18) rfl rfl rfl ?_
        refine pm_R_op pm_M41 (pc_q := 19) (st_q := [.int 1, .int (m 5)]) rfl rfl rfl ?_
        refine sf_R_iadd pm_M41 (pc_q := 20) rfl rfl (sf_eqT (cl_aux70 _ _ ek127) B144) sf_k1 (by decide) (by decide) (fun z166 e167 B168 => ?_)
        refine pm_R_ret pm_M41 (r := some (.int z166)) rfl (pm_ret_i _) ?_
        show pm_R _ 42 86 [.ref 25, .int 7] [.int z166, .ref 25] _ _
        refine cl_R_put25 G pm_M42 T161 (k := 5) (pc_q := 89) rfl rfl rfl (by decide) rfl rfl (sf_weak B168 (by decide) (by decide)) rfl rfl rfl rfl rfl (fun h169 m172 em173 T170 F171 => ?_)
        have F174 := F171.cl (ck := ck) T161.1
        have F175 := F165.trans (N := 0) (S := 0) F174 (by decide) (by decide) (by decide)
        have B176 : sf_B 0 16 (m172 6) := by rw [em173]; exact B128
        have ek177 : (m172 6).toInt = ((m 6)).toInt := by rw [em173]; exact ek129
        have B178 : sf_B 0 99 (m172 7) := by rw [em173]; exact B130
        have ek179 : (m172 7).toInt = ((m 7)).toInt := by rw [em173]; exact ek131
        have B180 : sf_B (-1) 99 (m172 8) := by rw [em173]; exact B132
        have ek181 : (m172 8).toInt = ((m 8)).toInt := by rw [em173]; exact ek133
        have B182 : sf_B 0 4 (m172 3) := by rw [em173]; exact B134
        have ek183 : (m172 3).toInt = ((m96 3)).toInt := by rw [em173]; exact ek135
        have B184 : sf_B 3 3 (m172 12) := by rw [em173]; exact B139
        have B185 : sf_B 1 8 (m172 5) := by rw [em173]; exact B168
        have ek186 : (m172 5).toInt = (z166).toInt := by rw [em173]; rfl
        have W187 : rf_W [3, 4, 5, 6, 7, 8, 10, 11, 12, 13] m m172 := by rw [em173]; exact W136.put (by decide)
        refine pm_R_ret pm_M42 (r := none) rfl rfl ?_
        show pm_R _ 40 123 [.ref 25, .int 7] [] _ _
        refine pm_R_ret pm_M40 (r := none) rfl rfl ?_
        show pm_R _ 37 139 [.ref 25, .int 7, .int 1] [] _ _
        refine pm_R_op pm_M37 (pc_q := 140) (st_q := [.int 1]) (pm_q37_1 (Nat.le_of_ble_eq_true rfl)) rfl rfl ?_
        have e188 := (F174.cell G (by decide) (by decide) e163)
        have e189 := (F174.cell G (by decide) (by decide) (F164.cell G (by decide) (by decide) (F154.cell G (by decide) (by decide) (F123.cell G (by decide) (by decide) (F99.cell G (by decide) (by decide) (F92.cell G (by decide) (by decide) (F69.cell G (by decide) (by decide) (F59.cell G (by decide) (by decide) (F53.cell G (by decide) (by decide) (F47.cell G (by decide) (by decide) (F41.cell G (by decide) (by decide) (F20.cell G (by decide) (by decide) e2))))))))))))
        have e190 := (F174.cell G (by decide) (by decide) (F164.cell G (by decide) (by decide) (F154.cell G (by decide) (by decide) (F123.cell G (by decide) (by decide) (F99.cell G (by decide) (by decide) (F92.cell G (by decide) (by decide) (F69.cell G (by decide) (by decide) (F59.cell G (by decide) (by decide) (F53.cell G (by decide) (by decide) (F47.cell G (by decide) (by decide) (F41.cell G (by decide) (by decide) (F20.cell G (by decide) (by decide) e8))))))))))))
        exact pm_R_ret pm_M37 (r := some (.int 1)) (pm_q37_1 (Nat.le_of_ble_eq_true rfl)) rfl (K 1 m172 h169 T170 F175 W187 (fun z => ⟨_, _, e188, e190, (R.at (cl_aux67 _ (X22 (cl_aux68 _ _ ek81 (q114 (cl_aux68 _ _ ek183 z)).1)).1) e5 e8).law (cl_aux81 _ _ _ e167 ek186 (sf_eqT (cl_aux70 _ _ ek127) B144).1 (sf_eqT (cl_aux70 _ _ ek127) B144).2 B185.1 B185.2) ((cl_tnI (Int.le_trans (by decide) B148.1)).trans (cl_aux75 _ _ e147)) ((cl_tnI (Int.le_trans (by decide) B158.1)).trans (cl_aux7 _ _ _ e147 e157)) (sf_weak sf_k0 (by decide) (by decide)) (sf_eqL sf_upd_eq B143) (sf_eqL (Eq.trans (sf_upd_nec (k := Int32.toNatClampNeg 0) (j := Int32.toNatClampNeg 1) (by decide)) (Eq.trans (sf_upd_nec (k := Int32.toNatClampNeg 3) (j := Int32.toNatClampNeg 1) (by decide)) (Eq.trans (sf_upd_nec (k := Int32.toNatClampNeg 2) (j := Int32.toNatClampNeg 1) (by decide)) sf_upd_eq))) (sf_weak sf_kn1 (by decide) (by decide))) (cl_aux25 _ _ _ e167 ek186)⟩) ⟨_, e189, b3⟩ (sf_weak sf_k1 (by decide) (by decide)))
      · have B191 : sf_B 1 4 (m96 3) := sf_neL0 c140 sf_k0 B113
        refine pm_R_ret pm_M40 (r := none) rfl rfl ?_
        show pm_R _ 37 139 [.ref 25, .int 7, .int 1] [] _ _
        refine pm_R_op pm_M37 (pc_q := 140) (st_q := [.int 1]) (pm_q37_1 (Nat.le_of_ble_eq_true rfl)) rfl rfl ?_
        have e192 := (F123.cell G (by decide) (by decide) (F99.cell G (by decide) (by decide) (F92.cell G (by decide) (by decide) (F69.cell G (by decide) (by decide) (F59.cell G (by decide) (by decide) (F53.cell G (by decide) (by decide) (F47.cell G (by decide) (by decide) (F41.cell G (by decide) (by decide) (F20.cell G (by decide) (by decide) e2)))))))))
        have e193 := (F123.cell G (by decide) (by decide) (F99.cell G (by decide) (by decide) (F92.cell G (by decide) (by decide) (F69.cell G (by decide) (by decide) (F59.cell G (by decide) (by decide) (F53.cell G (by decide) (by decide) (F47.cell G (by decide) (by decide) (F41.cell G (by decide) (by decide) (F20.cell G (by decide) (by decide) e5)))))))))
        have e194 := (F123.cell G (by decide) (by decide) (F99.cell G (by decide) (by decide) (F92.cell G (by decide) (by decide) (F69.cell G (by decide) (by decide) (F59.cell G (by decide) (by decide) (F53.cell G (by decide) (by decide) (F47.cell G (by decide) (by decide) (F41.cell G (by decide) (by decide) (F20.cell G (by decide) (by decide) e8)))))))))
        exact pm_R_ret pm_M37 (r := some (.int 1)) (pm_q37_1 (Nat.le_of_ble_eq_true rfl)) rfl (K 1 m120 h121 T122 F125 W136 (fun z => ⟨_, _, e193, e194, (R.at (cl_aux67 _ (X22 (cl_aux68 _ _ ek81 (q114 (cl_aux68 _ _ ek135 z)).1)).1) e5 e8).keep (cl_aux3 _ _ ek127) (cl_aux3 _ _ ek129) (cl_aux3 _ _ ek131) (cl_aux3 _ _ ek133)⟩) ⟨_, e192, b3⟩ (sf_weak sf_k1 (by decide) (by decide)))
    · skip
      refine pm_R_op pm_M37 (pc_q := 133) (st_q := [.int 0]) (pm_q37_1 (Nat.le_of_ble_eq_true rfl)) rfl rfl ?_
      have e195 := (F123.cell G (by decide) (by decide) (F99.cell G (by decide) (by decide) (F92.cell G (by decide) (by decide) (F69.cell G (by decide) (by decide) (F59.cell G (by decide) (by decide) (F53.cell G (by decide) (by decide) (F47.cell G (by decide) (by decide) (F41.cell G (by decide) (by decide) (F20.cell G (by decide) (by decide) e2)))))))))
      have e196 := (F123.cell G (by decide) (by decide) (F99.cell G (by decide) (by decide) (F92.cell G (by decide) (by decide) (F69.cell G (by decide) (by decide) (F59.cell G (by decide) (by decide) (F53.cell G (by decide) (by decide) (F47.cell G (by decide) (by decide) (F41.cell G (by decide) (by decide) (F20.cell G (by decide) (by decide) e5)))))))))
      have e197 := (F123.cell G (by decide) (by decide) (F99.cell G (by decide) (by decide) (F92.cell G (by decide) (by decide) (F69.cell G (by decide) (by decide) (F59.cell G (by decide) (by decide) (F53.cell G (by decide) (by decide) (F47.cell G (by decide) (by decide) (F41.cell G (by decide) (by decide) (F20.cell G (by decide) (by decide) e8)))))))))
      exact pm_R_ret pm_M37 (r := some (.int 0)) (pm_q37_1 (Nat.le_of_ble_eq_true rfl)) rfl (K 0 m120 h121 T122 F125 W136 (fun z => ⟨_, _, e196, e197, (R.at (cl_aux67 _ (X22 (cl_aux68 _ _ ek81 (q114 (cl_aux68 _ _ ek135 z)).1)).1) e5 e8).keep (cl_aux3 _ _ ek127) (cl_aux3 _ _ ek129) (cl_aux3 _ _ ek131) (cl_aux3 _ _ ek133)⟩) ⟨_, e195, b3⟩ (sf_weak sf_k0 (by decide) (by decide)))
  · skip
    refine pm_R_op pm_M37 (pc_q := 50) (st_q := [.int 0]) rfl rfl rfl ?_
    have e198 := (F69.cell G (by decide) (by decide) (F59.cell G (by decide) (by decide) (F53.cell G (by decide) (by decide) (F47.cell G (by decide) (by decide) (F41.cell G (by decide) (by decide) (F20.cell G (by decide) (by decide) e2))))))
    have e199 := (F69.cell G (by decide) (by decide) (F59.cell G (by decide) (by decide) (F53.cell G (by decide) (by decide) (F47.cell G (by decide) (by decide) (F41.cell G (by decide) (by decide) (F20.cell G (by decide) (by decide) e5))))))
    have e200 := (F69.cell G (by decide) (by decide) (F59.cell G (by decide) (by decide) (F53.cell G (by decide) (by decide) (F47.cell G (by decide) (by decide) (F41.cell G (by decide) (by decide) (F20.cell G (by decide) (by decide) e8))))))
    exact pm_R_ret pm_M37 (r := some (.int 0)) rfl rfl (K 0 m66 h67 T68 F71 W82 (fun z => ⟨_, _, e199, e200, (R.at (cl_aux67 _ (X22 (cl_aux68 _ _ ek81 z)).1) e5 e8).keep (cl_aux3 _ _ ek73) (cl_aux3 _ _ ek75) (cl_aux3 _ _ ek77) (cl_aux3 _ _ ek79)⟩) ⟨_, e198, b3⟩ (sf_weak sf_k0 (by decide) (by decide)))

set_option maxRecDepth 100000 in
set_option maxHeartbeats 4000000 in
/-- SilentTable$TextReader.readLine -/
theorem cl_c37_8 {d : Nat} {ck : cl_K} {E : Nat → pm_E} {m : Nat → Int32} {o : Nat → Option Nat} {h : pm_H} {Q : Option Value → pm_H → Prop}  (G : cl_G ck E) (T : cl_T ck E m o h) (R : cl_Rd 3 m h) (Y : cl_Y h) (K : ∀ (r : Int32) (m_q : Nat → Int32) (h_q : pm_H), cl_T ck E m_q o h_q → cl_F ck [25, 26, 29, 30] 0 0 h h_q → rf_W [3, 4, 5, 6, 7, 8, 10, 11, 12, 13] m m_q → cl_Rd 3 m_q h_q → cl_Y h_q → sf_B 0 1 r → Q (some (.int r)) h_q) : pm_R (d + 7) 37 0 [.ref 25, .int 8, pm_no] [] h Q := by
  obtain ⟨f1, e2, b3⟩ := Y
  obtain ⟨f4, e5⟩ := T.C 26 (by decide) (by decide)
  obtain ⟨f7, e8⟩ := T.C 27 (by decide) (by decide)
  have B10 : sf_B 0 4 (m 3) := T.B 3
  have B11 : sf_B 0 50 (m 5) := T.B 5
  have B12 : sf_B 0 16 (m 6) := T.B 6
  have B13 : sf_B 0 99 (m 7) := T.B 7
  have B14 : sf_B (-1) 99 (m 8) := T.B 8
  refine pm_R_lo pm_M37 (pc_q := 1) rfl rfl rfl ?_
  refine pm_R_op pm_M37 (pc_q := 2) (st_q := [.int (-1), .int 8]) rfl rfl rfl ?_
  refine pm_R_br pm_M37 (pc_q := 7) (st_q := []) rfl rfl ?_
  refine pm_R_lo pm_M37 (pc_q := 8) rfl rfl rfl ?_
  refine pm_R_lo pm_M37 (pc_q := 9) rfl rfl rfl ?_
  refine pm_R_cv pm_M37 (pc_q := 12) (a := 25) (ra := [.int 8]) (rest := []) (ls_q := [.ref 25, .int 8, pm_no, pm_no]) rfl rfl (Or.inl rfl) pm_M38 T.e25 rfl (by decide) (T.lt (by decide)) rfl rfl (Nat.le_of_ble_eq_true rfl) rfl rfl ?_
  refine cl_c38_8 (d := d + 5) G T  (fun m17 h18 T19 F20 W21 X22 => ?_)
  have F23 := (cl_F.refl (ck := ck) (A := [25, 26, 29, 30]) (n := 0) (s := 0) T.1).trans (N := 0) (S := 0) F20 (by decide) (by decide) (by decide)
  have B24 : sf_B 0 50 (m17 5) := by rw [W21 5 (by decide)]; exact B11
  have ek25 : (m17 5).toInt = ((m 5)).toInt := by rw [W21 5 (by decide)]
  have B26 : sf_B 0 16 (m17 6) := by rw [W21 6 (by decide)]; exact B12
  have ek27 : (m17 6).toInt = ((m 6)).toInt := by rw [W21 6 (by decide)]
  have B28 : sf_B 0 99 (m17 7) := by rw [W21 7 (by decide)]; exact B13
  have ek29 : (m17 7).toInt = ((m 7)).toInt := by rw [W21 7 (by decide)]
  have B30 : sf_B (-1) 99 (m17 8) := by rw [W21 8 (by decide)]; exact B14
  have ek31 : (m17 8).toInt = ((m 8)).toInt := by rw [W21 8 (by decide)]
  have W32 : rf_W [3, 4, 5, 6, 7, 8, 10, 11, 12, 13] m m17 := (rf_W.refl [3, 4, 5, 6, 7, 8, 10, 11, 12, 13] m).trans W21 (by decide)
  have B33 : sf_B 0 4 (m17 3) := T19.B 3
  show pm_R _ 37 12 [.ref 25, .int 8, pm_no] [] _ _
  refine pm_R_lo pm_M37 (pc_q := 13) rfl rfl rfl ?_
  refine pm_R_get pm_M37 (pc_q := 16) (v := .ref 29) rfl rfl T19.e25 (by decide) (T19.lt (by decide)) rfl rfl ?_
  refine pm_R_op pm_M37 (pc_q := 17) (st_q := [.int (-1), .ref 29]) rfl rfl rfl ?_
  refine pm_R_cs pm_M37 (pc_q := 20) (ra := [.int (-1), .ref 29]) (rest := []) (ls_q := [.ref 29, .int (-1), pm_no, pm_no]) rfl rfl (Or.inl rfl) pm_M13 rfl rfl (Nat.le_of_ble_eq_true rfl) rfl rfl ?_
  refine pm_R_op pm_M13 (pc_q := 1) (st_q := [.int 0]) rfl rfl rfl ?_
  refine pm_R_lo pm_M13 (pc_q := 2) (ls_q := [.ref 29, .int (-1), .int 0, pm_no]) (st_q := []) rfl rfl rfl ?_
  refine pm_R_lo pm_M13 (pc_q := 3) rfl rfl rfl ?_
  obtain ⟨f34, e35⟩ := T19.C 29 (by decide) (by decide)
  refine pm_R_alen pm_M13 (pc_q := 4) (v := 4) rfl e35 (by decide) (T19.lt (by decide)) (by decide) rfl rfl ?_
  refine pm_R_lo pm_M13 (pc_q := 5) (ls_q := [.ref 29, .int (-1), .int 0, .int 4]) (st_q := []) rfl rfl rfl ?_
  refine pm_R_lo pm_M13 (pc_q := 6) rfl rfl rfl ?_
  refine pm_R_lo pm_M13 (pc_q := 7) rfl rfl rfl ?_
  refine pm_R_br pm_M13 (pc_q := 10) (st_q := []) rfl rfl ?_
  refine pm_R_lo pm_M13 (pc_q := 11) rfl rfl rfl ?_
  refine pm_R_lo pm_M13 (pc_q := 12) rfl rfl rfl ?_
  refine pm_R_lo pm_M13 (pc_q := 13) rfl rfl rfl ?_
  refine cl_R_ist G pm_M13 T19 (pc_q := 14) rfl e35 (by decide) ⟨_, rfl⟩ rfl rfl (fun h37 T38 F39 e40 => ?_)
  have F41 := F39.cl (ck := ck) T19.1
  have F42 := F23.trans (N := 0) (S := 0) F41 (by decide) (by decide) (by decide)
  refine pm_R_lo pm_M13 (pc_q := 17) (ls_q := [.ref 29, .int (-1), .int 1, .int 4]) (st_q := []) rfl rfl rfl ?_
  refine pm_R_br pm_M13 (pc_q := 5) rfl rfl ?_
  refine pm_R_lo pm_M13 (pc_q := 6) rfl rfl rfl ?_
  refine pm_R_lo pm_M13 (pc_q := 7) rfl rfl rfl ?_
  refine pm_R_br pm_M13 (pc_q := 10) (st_q := []) rfl rfl ?_
  refine pm_R_lo pm_M13 (pc_q := 11) rfl rfl rfl ?_
  refine pm_R_lo pm_M13 (pc_q := 12) rfl rfl rfl ?_
  refine pm_R_lo pm_M13 (pc_q := 13) rfl rfl rfl ?_
  refine cl_R_ist G pm_M13 T38 (pc_q := 14) rfl e40 (by decide) ⟨_, rfl⟩ rfl rfl (fun h43 T44 F45 e46 => ?_)
  have F47 := F45.cl (ck := ck) T38.1
  have F48 := F42.trans (N := 0) (S := 0) F47 (by decide) (by decide) (by decide)
  refine pm_R_lo pm_M13 (pc_q := 17) (ls_q := [.ref 29, .int (-1), .int 2, .int 4]) (st_q := []) rfl rfl rfl ?_
  refine pm_R_br pm_M13 (pc_q := 5) rfl rfl ?_
  refine pm_R_lo pm_M13 (pc_q := 6) rfl rfl rfl ?_
  refine pm_R_lo pm_M13 (pc_q := 7) rfl rfl rfl ?_
  refine pm_R_br pm_M13 (pc_q := 10) (st_q := []) rfl rfl ?_
  refine pm_R_lo pm_M13 (pc_q := 11) rfl rfl rfl ?_
  refine pm_R_lo pm_M13 (pc_q := 12) rfl rfl rfl ?_
  refine pm_R_lo pm_M13 (pc_q := 13) rfl rfl rfl ?_
  refine cl_R_ist G pm_M13 T44 (pc_q := 14) rfl e46 (by decide) ⟨_, rfl⟩ rfl rfl (fun h49 T50 F51 e52 => ?_)
  have F53 := F51.cl (ck := ck) T44.1
  have F54 := F48.trans (N := 0) (S := 0) F53 (by decide) (by decide) (by decide)
  refine pm_R_lo pm_M13 (pc_q := 17) (ls_q := [.ref 29, .int (-1), .int 3, .int 4]) (st_q := []) rfl rfl rfl ?_
  refine pm_R_br pm_M13 (pc_q := 5) rfl rfl ?_
  refine pm_R_lo pm_M13 (pc_q := 6) rfl rfl rfl ?_
  refine pm_R_lo pm_M13 (pc_q := 7) rfl rfl rfl ?_
  refine pm_R_br pm_M13 (pc_q := 10) (st_q := []) rfl rfl ?_
  refine pm_R_lo pm_M13 (pc_q := 11) rfl rfl rfl ?_
  refine pm_R_lo pm_M13 (pc_q := 12) rfl rfl rfl ?_
  refine pm_R_lo pm_M13 (pc_q := 13) rfl rfl rfl ?_
  refine cl_R_ist G pm_M13 T50 (pc_q := 14) rfl e52 (by decide) ⟨_, rfl⟩ rfl rfl (fun h55 T56 F57 e58 => ?_)
  have F59 := F57.cl (ck := ck) T50.1
  have F60 := F54.trans (N := 0) (S := 0) F59 (by decide) (by decide) (by decide)
  refine pm_R_lo pm_M13 (pc_q := 17) (ls_q := [.ref 29, .int (-1), .int 4, .int 4]) (st_q := []) rfl rfl rfl ?_
  refine pm_R_br pm_M13 (pc_q := 5) rfl rfl ?_
  refine pm_R_lo pm_M13 (pc_q := 6) rfl rfl rfl ?_
  refine pm_R_lo pm_M13 (pc_q := 7) rfl rfl rfl ?_
  refine pm_R_br pm_M13 (pc_q := 20) (st_q := []) rfl rfl ?_
  refine pm_R_ret pm_M13 (r := none) rfl rfl ?_
  show pm_R _ 37 20 [.ref 25, .int 8, pm_no] [] _ _
  refine pm_R_op pm_M37 (pc_q := 21) (st_q := [.int 0]) rfl rfl rfl ?_
  refine pm_R_lo pm_M37 (pc_q := 22) (ls_q := [.ref 25, .int 8, .int 0]) (st_q := []) rfl rfl rfl ?_
  refine pm_R_lo pm_M37 (pc_q := 23) rfl rfl rfl ?_
  refine pm_R_stat pm_M37 (pc_q := 26) rfl rfl rfl ?_
  refine pm_R_lo pm_M37 (pc_q := 27) rfl rfl rfl ?_
  refine pm_R_iald pm_M37 (pc_q := 28) (v := 2) rfl ((T56.old (by decide)).trans G.tb2) (T56.lt (by decide)) rfl rfl rfl ?_
  refine pm_R_br pm_M37 (pc_q := 31) (st_q := []) rfl rfl ?_
  refine pm_R_lo pm_M37 (pc_q := 32) rfl rfl rfl ?_
  refine pm_R_get pm_M37 (pc_q := 35) (v := .ref 30) rfl rfl T56.e25 (by decide) (T56.lt (by decide)) rfl rfl ?_
  refine pm_R_cv pm_M37 (pc_q := 38) (a := 30) (ra := []) (rest := []) (ls_q := [.ref 30]) rfl rfl (Or.inl rfl) pm_M16 T56.e30 rfl (by decide) (T56.lt (by decide)) rfl rfl (Nat.le_of_ble_eq_true rfl) rfl rfl ?_
  refine cl_c16 (d := d + 4) G T56  (fun m66 h67 T68 F69 W70 => ?_)
  have F71 := F60.trans (N := 0) (S := 0) F69 (by decide) (by decide) (by decide)
  have B72 : sf_B 0 50 (m66 5) := by rw [W70 5 (by decide)]; exact B24
  have ek73 : (m66 5).toInt = ((m 5)).toInt := by rw [W70 5 (by decide)]; exact ek25
  have B74 : sf_B 0 16 (m66 6) := by rw [W70 6 (by decide)]; exact B26
  have ek75 : (m66 6).toInt = ((m 6)).toInt := by rw [W70 6 (by decide)]; exact ek27
  have B76 : sf_B 0 99 (m66 7) := by rw [W70 7 (by decide)]; exact B28
  have ek77 : (m66 7).toInt = ((m 7)).toInt := by rw [W70 7 (by decide)]; exact ek29
  have B78 : sf_B (-1) 99 (m66 8) := by rw [W70 8 (by decide)]; exact B30
  have ek79 : (m66 8).toInt = ((m 8)).toInt := by rw [W70 8 (by decide)]; exact ek31
  have B80 : sf_B 0 4 (m66 3) := by rw [W70 3 (by decide)]; exact B33
  have ek81 : (m66 3).toInt = ((m17 3)).toInt := by rw [W70 3 (by decide)]
  have W82 : rf_W [3, 4, 5, 6, 7, 8, 10, 11, 12, 13] m m66 := W32.trans W70 (by decide)
  show pm_R _ 37 38 [.ref 25, .int 8, .int 0] [] _ _
  refine pm_R_lo pm_M37 (pc_q := 39) rfl rfl rfl ?_
  refine pm_R_get pm_M37 (pc_q := 42) (v := .ref 30) rfl rfl T68.e25 (by decide) (T68.lt (by decide)) rfl rfl ?_
  have B83 : sf_B 0 4 (m66 12) := T68.B 12
  refine pm_R_get pm_M37 (pc_q := 45) (v := .int (m66 12)) rfl rfl T68.e30 (by decide) (T68.lt (by decide)) rfl rfl ?_
  refine pm_R_op pm_M37 (pc_q := 46) (st_q := [.int 2, .int (m66 12)]) rfl rfl rfl ?_
  refine pm_R_icmp pm_M37 (t := 51) (pc_q := 49) rfl rfl rfl (fun c84 => ?_) (fun c84 => ?_)
  · have B85 : sf_B 2 2 (m66 12) := sf_eqL c84 sf_k2
    refine pm_R_lo pm_M37 (pc_q := 52) rfl rfl rfl ?_
    refine pm_R_get pm_M37 (pc_q := 55) (v := .ref 29) rfl rfl T68.e25 (by decide) (T68.lt (by decide)) rfl rfl ?_
    refine pm_R_lo pm_M37 (pc_q := 56) rfl rfl rfl ?_
    refine pm_R_lo pm_M37 (pc_q := 57) rfl rfl rfl ?_
    refine pm_R_get pm_M37 (pc_q := 60) (v := .ref 30) rfl rfl T68.e25 (by decide) (T68.lt (by decide)) rfl rfl ?_
    have B86 : sf_B 0 99 (m66 13) := T68.B 13
    refine pm_R_get pm_M37 (pc_q := 63) (v := .int (m66 13)) rfl rfl T68.e30 (by decide) (T68.lt (by decide)) rfl rfl ?_
    have e87 := (F69.cell G (by decide) (by decide) e58)
    refine cl_R_ist G pm_M37 T68 (pc_q := 64) rfl e87 (by decide) ⟨_, rfl⟩ rfl rfl (fun h88 T89 F90 e91 => ?_)
    have F92 := F90.cl (ck := ck) T68.1
    have F93 := F71.trans (N := 0) (S := 0) F92 (by decide) (by decide) (by decide)
    refine pm_R_lo pm_M37 (pc_q := 65) rfl rfl rfl ?_
    refine pm_R_lo pm_M37 (pc_q := 66) rfl rfl rfl ?_
    refine pm_R_lo pm_M37 (pc_q := 67) rfl rfl rfl ?_
    refine pm_R_cv pm_M37 (pc_q := 70) (a := 25) (ra := [.int 0, .int 8]) (rest := []) (ls_q := [.ref 25, .int 8, .int 0, pm_no, pm_no, pm_no]) rfl rfl (Or.inl rfl) pm_M39 T89.e25 rfl (by decide) (T89.lt (by decide)) rfl rfl (Nat.le_of_ble_eq_true rfl) rfl rfl ?_
    refine cl_c39_8_0 (d := d + 5) G T89  (fun m96 h97 T98 F99 W100 X101 => ?_)
    have F102 := F93.trans (N := 0) (S := 0) F99 (by decide) (by decide) (by decide)
    have B103 : sf_B 0 50 (m96 5) := by rw [W100 5 (by decide)]; exact B72
    have ek104 : (m96 5).toInt = ((m 5)).toInt := by rw [W100 5 (by decide)]; exact ek73
    have B105 : sf_B 0 16 (m96 6) := by rw [W100 6 (by decide)]; exact B74
    have ek106 : (m96 6).toInt = ((m 6)).toInt := by rw [W100 6 (by decide)]; exact ek75
    have B107 : sf_B 0 99 (m96 7) := by rw [W100 7 (by decide)]; exact B76
    have ek108 : (m96 7).toInt = ((m 7)).toInt := by rw [W100 7 (by decide)]; exact ek77
    have B109 : sf_B (-1) 99 (m96 8) := by rw [W100 8 (by decide)]; exact B78
    have ek110 : (m96 8).toInt = ((m 8)).toInt := by rw [W100 8 (by decide)]; exact ek79
    have B111 : sf_B 2 2 (m96 12) := by rw [W100 12 (by decide)]; exact B85
    have W112 : rf_W [3, 4, 5, 6, 7, 8, 10, 11, 12, 13] m m96 := W82.trans W100 (by decide)
    have B113 : sf_B 0 4 (m96 3) := T98.B 3
    show pm_R _ 37 70 [.ref 25, .int 8, .int 0] [] _ _
    have q114 := X101 _ e91
    refine pm_R_lo pm_M37 (pc_q := 73) (ls_q := [.ref 25, .int 8, .int 1]) (st_q := []) rfl rfl rfl ?_
    refine pm_R_br pm_M37 (pc_q := 22) rfl rfl ?_
    refine pm_R_lo pm_M37 (pc_q := 23) rfl rfl rfl ?_
    refine pm_R_stat pm_M37 (pc_q := 26) rfl rfl rfl ?_
    refine pm_R_lo pm_M37 (pc_q := 27) rfl rfl rfl ?_
    refine pm_R_iald pm_M37 (pc_q := 28) (v := 2) rfl ((T98.old (by decide)).trans G.tb2) (T98.lt (by decide)) rfl rfl rfl ?_
    refine pm_R_br pm_M37 (pc_q := 31) (st_q := []) rfl rfl ?_
    refine pm_R_lo pm_M37 (pc_q := 32) rfl rfl rfl ?_
    refine pm_R_get pm_M37 (pc_q := 35) (v := .ref 30) rfl rfl T98.e25 (by decide) (T98.lt (by decide)) rfl rfl ?_
    refine pm_R_cv pm_M37 (pc_q := 38) (a := 30) (ra := []) (rest := []) (ls_q := [.ref 30]) rfl rfl (Or.inl rfl) pm_M16 T98.e30 rfl (by decide) (T98.lt (by decide)) rfl rfl (Nat.le_of_ble_eq_true rfl) rfl rfl ?_
    refine cl_c16 (d := d + 4) G T98  (fun m120 h121 T122 F123 W124 => ?_)
    have F125 := F102.trans (N := 0) (S := 0) F123 (by decide) (by decide) (by decide)
    have B126 : sf_B 0 50 (m120 5) := by rw [W124 5 (by decide)]; exact B103
    have ek127 : (m120 5).toInt = ((m 5)).toInt := by rw [W124 5 (by decide)]; exact ek104
    have B128 : sf_B 0 16 (m120 6) := by rw [W124 6 (by decide)]; exact B105
    have ek129 : (m120 6).toInt = ((m 6)).toInt := by rw [W124 6 (by decide)]; exact ek106
    have B130 : sf_B 0 99 (m120 7) := by rw [W124 7 (by decide)]; exact B107
    have ek131 : (m120 7).toInt = ((m 7)).toInt := by rw [W124 7 (by decide)]; exact ek108
    have B132 : sf_B (-1) 99 (m120 8) := by rw [W124 8 (by decide)]; exact B109
    have ek133 : (m120 8).toInt = ((m 8)).toInt := by rw [W124 8 (by decide)]; exact ek110
    have B134 : sf_B 0 4 (m120 3) := by rw [W124 3 (by decide)]; exact B113
    have ek135 : (m120 3).toInt = ((m96 3)).toInt := by rw [W124 3 (by decide)]
    have W136 : rf_W [3, 4, 5, 6, 7, 8, 10, 11, 12, 13] m m120 := W112.trans W124 (by decide)
    show pm_R _ 37 38 [.ref 25, .int 8, .int 1] [] _ _
    refine pm_R_lo pm_M37 (pc_q := 39) rfl rfl rfl ?_
    refine pm_R_get pm_M37 (pc_q := 42) (v := .ref 30) rfl rfl T122.e25 (by decide) (T122.lt (by decide)) rfl rfl ?_
    have B137 : sf_B 0 4 (m120 12) := T122.B 12
    refine pm_R_get pm_M37 (pc_q := 45) (v := .int (m120 12)) rfl rfl T122.e30 (by decide) (T122.lt (by decide)) rfl rfl ?_
    refine pm_R_op pm_M37 (pc_q := 46) (st_q := [.int 2, .int (m120 12)]) rfl rfl rfl ?_
    refine pm_R_icmp pm_M37 (t := 51) (pc_q := 49) rfl rfl rfl (fun c138 => ?_) (fun c138 => ?_)
    · have B139 : sf_B 2 2 (m120 12) := sf_eqL c138 sf_k2
      refine pm_R_lo pm_M37 (pc_q := 52) rfl rfl rfl ?_
      refine pm_R_get pm_M37 (pc_q := 55) (v := .ref 29) rfl rfl T122.e25 (by decide) (T122.lt (by decide)) rfl rfl ?_
      refine pm_R_lo pm_M37 (pc_q := 56) rfl rfl rfl ?_
      refine pm_R_lo pm_M37 (pc_q := 57) rfl rfl rfl ?_
      refine pm_R_get pm_M37 (pc_q := 60) (v := .ref 30) rfl rfl T122.e25 (by decide) (T122.lt (by decide)) rfl rfl ?_
      have B140 : sf_B 0 99 (m120 13) := T122.B 13
      refine pm_R_get pm_M37 (pc_q := 63) (v := .int (m120 13)) rfl rfl T122.e30 (by decide) (T122.lt (by decide)) rfl rfl ?_
      have e141 := (F123.cell G (by decide) (by decide) (F99.cell G (by decide) (by decide) e91))
      refine cl_R_ist G pm_M37 T122 (pc_q := 64) rfl e141 (by decide) ⟨_, rfl⟩ rfl rfl (fun h142 T143 F144 e145 => ?_)
      have F146 := F144.cl (ck := ck) T122.1
      have F147 := F125.trans (N := 0) (S := 0) F146 (by decide) (by decide) (by decide)
      refine pm_R_lo pm_M37 (pc_q := 65) rfl rfl rfl ?_
      refine pm_R_lo pm_M37 (pc_q := 66) rfl rfl rfl ?_
      refine pm_R_lo pm_M37 (pc_q := 67) rfl rfl rfl ?_
      refine pm_R_cv pm_M37 (pc_q := 70) (a := 25) (ra := [.int 1, .int 8]) (rest := []) (ls_q := [.ref 25, .int 8, .int 1, pm_no, pm_no, pm_no]) rfl rfl (Or.inl rfl) pm_M39 T143.e25 rfl (by decide) (T143.lt (by decide)) rfl rfl (Nat.le_of_ble_eq_true rfl) rfl rfl ?_
      refine cl_c39_8_1 (d := d + 5) G T143  (fun m150 h151 T152 F153 W154 X155 => ?_)
      have F156 := F147.trans (N := 0) (S := 0) F153 (by decide) (by decide) (by decide)
      have B157 : sf_B 0 50 (m150 5) := by rw [W154 5 (by decide)]; exact B126
      have ek158 : (m150 5).toInt = ((m 5)).toInt := by rw [W154 5 (by decide)]; exact ek127
      have B159 : sf_B 0 16 (m150 6) := by rw [W154 6 (by decide)]; exact B128
      have ek160 : (m150 6).toInt = ((m 6)).toInt := by rw [W154 6 (by decide)]; exact ek129
      have B161 : sf_B 0 99 (m150 7) := by rw [W154 7 (by decide)]; exact B130
      have ek162 : (m150 7).toInt = ((m 7)).toInt := by rw [W154 7 (by decide)]; exact ek131
      have B163 : sf_B (-1) 99 (m150 8) := by rw [W154 8 (by decide)]; exact B132
      have ek164 : (m150 8).toInt = ((m 8)).toInt := by rw [W154 8 (by decide)]; exact ek133
      have B165 : sf_B 2 2 (m150 12) := by rw [W154 12 (by decide)]; exact B139
      have W166 : rf_W [3, 4, 5, 6, 7, 8, 10, 11, 12, 13] m m150 := W136.trans W154 (by decide)
      have B167 : sf_B 0 4 (m150 3) := T152.B 3
      show pm_R _ 37 70 [.ref 25, .int 8, .int 1] [] _ _
      have q168 := X155 _ e145
      refine pm_R_lo pm_M37 (pc_q := 73) (ls_q := [.ref 25, .int 8, .int 2]) (st_q := []) rfl rfl rfl ?_
      refine pm_R_br pm_M37 (pc_q := 22) rfl rfl ?_
      refine pm_R_lo pm_M37 (pc_q := 23) rfl rfl rfl ?_
      refine pm_R_stat pm_M37 (pc_q := 26) rfl rfl rfl ?_
      refine pm_R_lo pm_M37 (pc_q := 27) rfl rfl rfl ?_
      refine pm_R_iald pm_M37 (pc_q := 28) (v := 2) rfl ((T152.old (by decide)).trans G.tb2) (T152.lt (by decide)) rfl rfl rfl ?_
      refine pm_R_br pm_M37 (pc_q := 76) (st_q := []) rfl rfl ?_
      refine pm_R_lo pm_M37 (pc_q := 77) rfl rfl rfl ?_
      refine pm_R_br pm_M37 (pc_q := 114) (st_q := []) rfl rfl ?_
      refine pm_R_lo pm_M37 (pc_q := 115) (pm_q37_1 (Nat.le_of_ble_eq_true rfl)) rfl rfl ?_
      refine pm_R_get pm_M37 (pc_q := 118) (v := .ref 30) (pm_q37_1 (Nat.le_of_ble_eq_true rfl)) rfl T152.e25 (by decide) (T152.lt (by decide)) rfl rfl ?_
      refine pm_R_cv pm_M37 (pc_q := 121) (a := 30) (ra := []) (rest := []) (ls_q := [.ref 30]) (pm_q37_1 (Nat.le_of_ble_eq_true rfl)) rfl (Or.inl rfl) pm_M16 T152.e30 rfl (by decide) (T152.lt (by decide)) rfl rfl (Nat.le_of_ble_eq_true rfl) rfl rfl ?_
      refine cl_c16 (d := d + 4) G T152  (fun m174 h175 T176 F177 W178 => ?_)
      have F179 := F156.trans (N := 0) (S := 0) F177 (by decide) (by decide) (by decide)
      have B180 : sf_B 0 50 (m174 5) := by rw [W178 5 (by decide)]; exact B157
      have ek181 : (m174 5).toInt = ((m 5)).toInt := by rw [W178 5 (by decide)]; exact ek158
      have B182 : sf_B 0 16 (m174 6) := by rw [W178 6 (by decide)]; exact B159
      have ek183 : (m174 6).toInt = ((m 6)).toInt := by rw [W178 6 (by decide)]; exact ek160
      have B184 : sf_B 0 99 (m174 7) := by rw [W178 7 (by decide)]; exact B161
      have ek185 : (m174 7).toInt = ((m 7)).toInt := by rw [W178 7 (by decide)]; exact ek162
      have B186 : sf_B (-1) 99 (m174 8) := by rw [W178 8 (by decide)]; exact B163
      have ek187 : (m174 8).toInt = ((m 8)).toInt := by rw [W178 8 (by decide)]; exact ek164
      have B188 : sf_B 0 4 (m174 3) := by rw [W178 3 (by decide)]; exact B167
      have ek189 : (m174 3).toInt = ((m150 3)).toInt := by rw [W178 3 (by decide)]
      have W190 : rf_W [3, 4, 5, 6, 7, 8, 10, 11, 12, 13] m m174 := W166.trans W178 (by decide)
      show pm_R _ 37 121 [.ref 25, .int 8, .int 2] [] _ _
      refine pm_R_lo pm_M37 (pc_q := 122) (pm_q37_1 (Nat.le_of_ble_eq_true rfl)) rfl rfl ?_
      refine pm_R_get pm_M37 (pc_q := 125) (v := .ref 30) (pm_q37_1 (Nat.le_of_ble_eq_true rfl)) rfl T176.e25 (by decide) (T176.lt (by decide)) rfl rfl ?_
      have B191 : sf_B 0 4 (m174 12) := T176.B 12
      refine pm_R_get pm_M37 (pc_q := 128) (v := .int (m174 12)) (pm_q37_1 (Nat.le_of_ble_eq_true rfl)) rfl T176.e30 (by decide) (T176.lt (by decide)) rfl rfl ?_
      refine pm_R_op pm_M37 (pc_q := 129) (st_q := [.int 3, .int (m174 12)]) (pm_q37_1 (Nat.le_of_ble_eq_true rfl)) rfl rfl ?_
      refine pm_R_icmp pm_M37 (t := 134) (pc_q := 132) (pm_q37_1 (Nat.le_of_ble_eq_true rfl)) rfl rfl (fun c192 => ?_) (fun c192 => ?_)
      · have B193 : sf_B 3 3 (m174 12) := sf_eqL c192 sf_k3
        refine pm_R_lo pm_M37 (pc_q := 135) (pm_q37_1 (Nat.le_of_ble_eq_true rfl)) rfl rfl ?_
        refine pm_R_lo pm_M37 (pc_q := 136) (pm_q37_1 (Nat.le_of_ble_eq_true rfl)) rfl rfl ?_
        refine pm_R_cv pm_M37 (pc_q := 139) (a := 25) (ra := [.int 8]) (rest := []) (ls_q := [.ref 25, .int 8]) (pm_q37_1 (Nat.le_of_ble_eq_true rfl)) rfl (Or.inl rfl) pm_M40 T176.e25 rfl (by decide) (T176.lt (by decide)) rfl rfl (Nat.le_of_ble_eq_true rfl) rfl rfl ?_
        refine pm_R_lo pm_M40 (pc_q := 1) rfl rfl rfl ?_
        refine pm_R_get pm_M40 (pc_q := 4) (v := .int (m150 3)) rfl rfl T176.e25 (by decide) (T176.lt (by decide)) (congrArg (fun z => some (Value.int z)) (Int32.toInt_inj.mp (cl_aux3 _ _ ek189))) rfl ?_
        refine pm_R_ifc pm_M40 (t := 8) (pc_q := 7) rfl rfl rfl (fun c194 => ?_) (fun c194 => ?_)
        · have y195 := q168 (cl_aux67 _ (congrArg Int32.toInt c194))
          have y196 := q114 (cl_aux68 _ _ ek135 y195.1)
          have y197 := X22 (cl_aux68 _ _ ek81 y196.1)
          have B198 : sf_B 0 9 (m120 13) := ⟨B140.1, cl_upE (P := fun x => x.toInt ≤ 9) y195.2.2⟩
          have B199 : sf_B 0 9 (m66 13) := ⟨B86.1, cl_upE (P := fun x => x.toInt ≤ 9) y196.2.2⟩
          have B200 : sf_B 0 7 (m174 5) := ⟨B180.1, (cl_aux80 _ _ ek181 y197.2)⟩
          have B201 : sf_B 0 0 (m150 3) := sf_eqL c194 sf_k0
          refine pm_R_lo pm_M40 (pc_q := 9) rfl rfl rfl ?_
          refine pm_R_br pm_M40 (pc_q := 118) (st_q := []) rfl rfl ?_
          refine pm_R_lo pm_M40 (pc_q := 119) rfl rfl rfl ?_
          refine pm_R_lo pm_M40 (pc_q := 120) rfl rfl rfl ?_
          refine pm_R_cv pm_M40 (pc_q := 123) (a := 25) (ra := [.int 8]) (rest := []) (ls_q := [.ref 25, .int 8]) rfl rfl (Or.inl rfl) pm_M42 T176.e25 rfl (by decide) (T176.lt (by decide)) rfl rfl (Nat.le_of_ble_eq_true rfl) rfl rfl ?_
          refine pm_R_lo pm_M42 (pc_q := 1) rfl rfl rfl ?_
          refine pm_R_op pm_M42 (pc_q := 3) (st_q := [.int 7, .int 8]) rfl rfl rfl ?_
          refine pm_R_br pm_M42 (pc_q := 45) (st_q := []) rfl rfl ?_
          refine pm_R_lo pm_M42 (pc_q := 46) rfl rfl rfl ?_
          refine pm_R_get pm_M42 (pc_q := 49) (v := .ref 26) rfl rfl T176.e25 (by decide) (T176.lt (by decide)) rfl rfl ?_
          refine pm_R_lo pm_M42 (pc_q := 50) rfl rfl rfl ?_
          refine pm_R_get pm_M42 (pc_q := 53) (v := .int (m 5)) rfl rfl T176.e25 (by decide) (T176.lt (by decide)) (congrArg (fun z => some (Value.int z)) (Int32.toInt_inj.mp (cl_aux3 _ _ ek181))) rfl ?_
          refine pm_R_op pm_M42 (pc_q := 54) (st_q := [.int 4, .int (m 5), .ref 26]) rfl rfl rfl ?_
          refine sf_R_imul pm_M42 (pc_q := 55) rfl rfl (sf_eqT (cl_aux70 _ _ ek181) B200) sf_k4 (by decide) (by decide) (by decide) (fun z202 e203 B204 => ?_)
          refine pm_R_lo pm_M42 (pc_q := 56) rfl rfl rfl ?_
          refine pm_R_op pm_M42 (pc_q := 58) (st_q := [.int 7, .int 8, .int z202, .ref 26]) rfl rfl rfl ?_
          refine pm_R_br pm_M42 (pc_q := 67) (st_q := [.int z202, .ref 26]) rfl rfl ?_
          refine pm_R_lo pm_M42 (pc_q := 68) rfl rfl rfl ?_
          refine pm_R_op pm_M42 (pc_q := 70) (st_q := [.int 7, .int 8, .int z202, .ref 26]) rfl rfl rfl ?_
          refine pm_R_op pm_M42 (pc_q := 71) (st_q := [.int 1, .int z202, .ref 26]) rfl rfl rfl ?_
          have e205 := (F177.cell G (by decide) (by decide) (F153.cell G (by decide) (by decide) (F146.cell G (by decide) (by decide) (F123.cell G (by decide) (by decide) (F99.cell G (by decide) (by decide) (F92.cell G (by decide) (by decide) (F69.cell G (by decide) (by decide) (F59.cell G (by decide) (by decide) (F53.cell G (by decide) (by decide) (F47.cell G (by decide) (by decide) (F41.cell G (by decide) (by decide) (F20.cell G (by decide) (by decide) e5))))))))))))
          refine cl_R_ist G pm_M42 T176 (pc_q := 72) rfl e205 (by decide) ⟨_, rfl⟩ (sf_in B204 (by decide) (by decide)) rfl (fun h206 T207 F208 e209 => ?_)
          have F210 := F208.cl (ck := ck) T176.1
          have F211 := F179.trans (N := 0) (S := 0) F210 (by decide) (by decide) (by decide)
          refine pm_R_lo pm_M42 (pc_q := 73) rfl rfl rfl ?_
          refine pm_R_lo pm_M42 (pc_q := 74) rfl rfl rfl ?_
          refine pm_R_lo pm_M42 (pc_q := 75) rfl rfl rfl ?_
          refine pm_R_get pm_M42 (pc_q := 78) (v := .ref 26) rfl rfl T207.e25 (by decide) (T207.lt (by decide)) rfl rfl ?_
          refine pm_R_lo pm_M42 (pc_q := 79) rfl rfl rfl ?_
          refine pm_R_get pm_M42 (pc_q := 82) (v := .int (m 5)) rfl rfl T207.e25 (by decide) (T207.lt (by decide)) (congrArg (fun z => some (Value.int z)) (Int32.toInt_inj.mp (cl_aux3 _ _ ek181))) rfl ?_
          refine pm_R_op pm_M42 (pc_q := 83) (st_q := [.int 1, .int (m 5), .ref 26, .ref 25, .ref 25]) rfl rfl rfl ?_
          refine pm_R_cv pm_M42 (pc_q := 86) (a := 25) (ra := [.int 1, .int (m 5), .ref 26]) (rest := [.ref 25]) (ls_q := [.ref 25, .ref 26, .int (m 5), .int 1]) rfl rfl (Or.inl rfl) pm_M41 T207.e25 rfl (by decide) (T207.lt (by decide)) rfl rfl (Nat.le_of_ble_eq_true rfl) rfl rfl ?_
          refine pm_R_lo pm_M41 (pc_q := 1) rfl rfl rfl ?_
          refine pm_R_get pm_M41 (pc_q := 4) (v := .ref 29) rfl rfl T207.e25 (by decide) (T207.lt (by decide)) rfl rfl ?_
          refine pm_R_op pm_M41 (pc_q := 5) (st_q := [.int 0, .ref 29]) rfl rfl rfl ?_
          refine pm_R_lo pm_M41 (pc_q := 6) rfl rfl rfl ?_
          refine pm_R_lo pm_M41 (pc_q := 7) rfl rfl rfl ?_
          refine pm_R_op pm_M41 (pc_q := 8) (st_q := [.int 4, .int (m 5), .ref 26, .int 0, .ref 29]) rfl rfl rfl ?_
          refine sf_R_imulV pm_M41 (pc_q := 9) rfl rfl (sf_eqT (cl_aux70 _ _ ek181) B200) sf_k4 (by decide) (by decide) (by decide) e203 ?_
          refine pm_R_lo pm_M41 (pc_q := 10) rfl rfl rfl ?_
          refine sf_R_iadd pm_M41 (pc_q := 11) rfl rfl B204 sf_k1 (by decide) (by decide) (fun z212 e213 B214 => ?_)
          refine pm_R_op pm_M41 (pc_q := 12) (st_q := [.int 4, .int z212, .ref 26, .int 0, .ref 29]) rfl rfl rfl ?_
          refine pm_R_lo pm_M41 (pc_q := 13) rfl rfl rfl ?_
          refine pm_R_op pm_M41 (pc_q := 14) (st_q := [.int 3, .int z212, .ref 26, .int 0, .ref 29]) rfl rfl rfl ?_
          have e215 := (F210.cell G (by decide) (by decide) (F177.cell G (by decide) (by decide) (F153.cell G (by decide) (by decide) e145)))
          refine cl_R_acp G pm_M41 T207 (N := 3) (pc_q := 17) rfl rfl rfl e215 e209 (Or.inl rfl) ⟨_, rfl⟩ rfl (by decide) (by decide) B214 (by decide) (by decide) (Nat.le_of_ble_eq_true rfl) rfl (fun h216 T217 F218 e219 => ?_)
          have F220 := F218.cl (ck := ck) T207.1
          have F221 := F211.trans (N := 0) (S := 0) F220 (by decide) (by decide) (by decide)
          refine pm_R_lo pm_M41 (pc_q := 18) rfl rfl rfl ?_
          refine pm_R_op pm_M41 (pc_q := 19) (st_q := [.int 1, .int (m 5)]) rfl rfl rfl ?_
          refine sf_R_iadd pm_M41 (pc_q := 20) rfl rfl (sf_eqT (cl_aux70 _ _ ek181) B200) sf_k1 (by decide) (by decide) (fun z222 e223 B224 => ?_)
          refine pm_R_ret pm_M41 (r := some (.int z222)) rfl (pm_ret_i _) ?_
          show pm_R _ 42 86 [.ref 25, .int 8] [.int z222, .ref 25] _ _
          refine cl_R_put25 G pm_M42 T217 (k := 5) (pc_q := 89) rfl rfl rfl (by decide) rfl rfl (sf_weak B224 (by decide) (by decide)) rfl rfl rfl rfl rfl (fun h225 m228 em229 T226 F227 => ?_)
          have F230 := F227.cl (ck := ck) T217.1
          have F231 := F221.trans (N := 0) (S := 0) F230 (by decide) (by decide) (by decide)
          have B232 : sf_B 0 16 (m228 6) := by rw [em229]; exact B182
          have ek233 : (m228 6).toInt = ((m 6)).toInt := by rw [em229]; exact ek183
          have B234 : sf_B 0 99 (m228 7) := by rw [em229]; exact B184
          have ek235 : (m228 7).toInt = ((m 7)).toInt := by rw [em229]; exact ek185
          have B236 : sf_B (-1) 99 (m228 8) := by rw [em229]; exact B186
          have ek237 : (m228 8).toInt = ((m 8)).toInt := by rw [em229]; exact ek187
          have B238 : sf_B 0 4 (m228 3) := by rw [em229]; exact B188
          have ek239 : (m228 3).toInt = ((m150 3)).toInt := by rw [em229]; exact ek189
          have B240 : sf_B 3 3 (m228 12) := by rw [em229]; exact B193
          have B241 : sf_B 1 8 (m228 5) := by rw [em229]; exact B224
          have ek242 : (m228 5).toInt = (z222).toInt := by rw [em229]; rfl
          have W243 : rf_W [3, 4, 5, 6, 7, 8, 10, 11, 12, 13] m m228 := by rw [em229]; exact W190.put (by decide)
          refine pm_R_ret pm_M42 (r := none) rfl rfl ?_
          show pm_R _ 40 123 [.ref 25, .int 8] [] _ _
          refine pm_R_ret pm_M40 (r := none) rfl rfl ?_
          show pm_R _ 37 139 [.ref 25, .int 8, .int 2] [] _ _
          refine pm_R_op pm_M37 (pc_q := 140) (st_q := [.int 1]) (pm_q37_1 (Nat.le_of_ble_eq_true rfl)) rfl rfl ?_
          have e244 := (F230.cell G (by decide) (by decide) e219)
          have e245 := (F230.cell G (by decide) (by decide) (F220.cell G (by decide) (by decide) (F210.cell G (by decide) (by decide) (F177.cell G (by decide) (by decide) (F153.cell G (by decide) (by decide) (F146.cell G (by decide) (by decide) (F123.cell G (by decide) (by decide) (F99.cell G (by decide) (by decide) (F92.cell G (by decide) (by decide) (F69.cell G (by decide) (by decide) (F59.cell G (by decide) (by decide) (F53.cell G (by decide) (by decide) (F47.cell G (by decide) (by decide) (F41.cell G (by decide) (by decide) (F20.cell G (by decide) (by decide) e2)))))))))))))))
          have e246 := (F230.cell G (by decide) (by decide) (F220.cell G (by decide) (by decide) (F210.cell G (by decide) (by decide) (F177.cell G (by decide) (by decide) (F153.cell G (by decide) (by decide) (F146.cell G (by decide) (by decide) (F123.cell G (by decide) (by decide) (F99.cell G (by decide) (by decide) (F92.cell G (by decide) (by decide) (F69.cell G (by decide) (by decide) (F59.cell G (by decide) (by decide) (F53.cell G (by decide) (by decide) (F47.cell G (by decide) (by decide) (F41.cell G (by decide) (by decide) (F20.cell G (by decide) (by decide) e8)))))))))))))))
          exact pm_R_ret pm_M37 (r := some (.int 1)) (pm_q37_1 (Nat.le_of_ble_eq_true rfl)) rfl (K 1 m228 h225 T226 F231 W243 (fun z => ⟨_, _, e244, e246, (R.at (cl_aux67 _ (X22 (cl_aux68 _ _ ek81 (q114 (cl_aux68 _ _ ek135 (q168 (cl_aux68 _ _ ek239 z)).1)).1)).1) e5 e8).law (cl_aux81 _ _ _ e223 ek242 (sf_eqT (cl_aux70 _ _ ek181) B200).1 (sf_eqT (cl_aux70 _ _ ek181) B200).2 B241.1 B241.2) ((cl_tnI (Int.le_trans (by decide) B204.1)).trans (cl_aux75 _ _ e203)) ((cl_tnI (Int.le_trans (by decide) B214.1)).trans (cl_aux7 _ _ _ e203 e213)) (sf_weak sf_k1 (by decide) (by decide)) (sf_eqL (Eq.trans (sf_upd_nec (k := Int32.toNatClampNeg 1) (j := Int32.toNatClampNeg 0) (by decide)) sf_upd_eq) B199) (sf_eqL sf_upd_eq (sf_weak B198 (by decide) (by decide))) (cl_aux25 _ _ _ e223 ek242)⟩) ⟨_, e245, b3⟩ (sf_weak sf_k1 (by decide) (by decide)))
        · have B247 : sf_B 1 4 (m150 3) := sf_neL0 c194 sf_k0 B167
          refine pm_R_ret pm_M40 (r := none) rfl rfl ?_
          show pm_R _ 37 139 [.ref 25, .int 8, .int 2] [] _ _
          refine pm_R_op pm_M37 (pc_q := 140) (st_q := [.int 1]) (pm_q37_1 (Nat.le_of_ble_eq_true rfl)) rfl rfl ?_
          have e248 := (F177.cell G (by decide) (by decide) (F153.cell G (by decide) (by decide) (F146.cell G (by decide) (by decide) (F123.cell G (by decide) (by decide) (F99.cell G (by decide) (by decide) (F92.cell G (by decide) (by decide) (F69.cell G (by decide) (by decide) (F59.cell G (by decide) (by decide) (F53.cell G (by decide) (by decide) (F47.cell G (by decide) (by decide) (F41.cell G (by decide) (by decide) (F20.cell G (by decide) (by decide) e2))))))))))))
          have e249 := (F177.cell G (by decide) (by decide) (F153.cell G (by decide) (by decide) (F146.cell G (by decide) (by decide) (F123.cell G (by decide) (by decide) (F99.cell G (by decide) (by decide) (F92.cell G (by decide) (by decide) (F69.cell G (by decide) (by decide) (F59.cell G (by decide) (by decide) (F53.cell G (by decide) (by decide) (F47.cell G (by decide) (by decide) (F41.cell G (by decide) (by decide) (F20.cell G (by decide) (by decide) e5))))))))))))
          have e250 := (F177.cell G (by decide) (by decide) (F153.cell G (by decide) (by decide) (F146.cell G (by decide) (by decide) (F123.cell G (by decide) (by decide) (F99.cell G (by decide) (by decide) (F92.cell G (by decide) (by decide) (F69.cell G (by decide) (by decide) (F59.cell G (by decide) (by decide) (F53.cell G (by decide) (by decide) (F47.cell G (by decide) (by decide) (F41.cell G (by decide) (by decide) (F20.cell G (by decide) (by decide) e8))))))))))))
          exact pm_R_ret pm_M37 (r := some (.int 1)) (pm_q37_1 (Nat.le_of_ble_eq_true rfl)) rfl (K 1 m174 h175 T176 F179 W190 (fun z => ⟨_, _, e249, e250, (R.at (cl_aux67 _ (X22 (cl_aux68 _ _ ek81 (q114 (cl_aux68 _ _ ek135 (q168 (cl_aux68 _ _ ek189 z)).1)).1)).1) e5 e8).keep (cl_aux3 _ _ ek181) (cl_aux3 _ _ ek183) (cl_aux3 _ _ ek185) (cl_aux3 _ _ ek187)⟩) ⟨_, e248, b3⟩ (sf_weak sf_k1 (by decide) (by decide)))
      · skip
        refine pm_R_op pm_M37 (pc_q := 133) (st_q := [.int 0]) (pm_q37_1 (Nat.le_of_ble_eq_true rfl)) rfl rfl ?_
        have e251 := (F177.cell G (by decide) (by decide) (F153.cell G (by decide) (by decide) (F146.cell G (by decide) (by decide) (F123.cell G (by decide) (by decide) (F99.cell G (by decide) (by decide) (F92.cell G (by decide) (by decide) (F69.cell G (by decide) (by decide) (F59.cell G (by decide) (by decide) (F53.cell G (by decide) (by decide) (F47.cell G (by decide) (by decide) (F41.cell G (by decide) (by decide) (F20.cell G (by decide) (by decide) e2))))))))))))
        have e252 := (F177.cell G (by decide) (by decide) (F153.cell G (by decide) (by decide) (F146.cell G (by decide) (by decide) (F123.cell G (by decide) (by decide) (F99.cell G (by decide) (by decide) (F92.cell G (by decide) (by decide) (F69.cell G (by decide) (by decide) (F59.cell G (by decide) (by decide) (F53.cell G (by decide) (by decide) (F47.cell G (by decide) (by decide) (F41.cell G (by decide) (by decide) (F20.cell G (by decide) (by decide) e5))))))))))))
        have e253 := (F177.cell G (by decide) (by decide) (F153.cell G (by decide) (by decide) (F146.cell G (by decide) (by decide) (F123.cell G (by decide) (by decide) (F99.cell G (by decide) (by decide) (F92.cell G (by decide) (by decide) (F69.cell G (by decide) (by decide) (F59.cell G (by decide) (by decide) (F53.cell G (by decide) (by decide) (F47.cell G (by decide) (by decide) (F41.cell G (by decide) (by decide) (F20.cell G (by decide) (by decide) e8))))))))))))
        exact pm_R_ret pm_M37 (r := some (.int 0)) (pm_q37_1 (Nat.le_of_ble_eq_true rfl)) rfl (K 0 m174 h175 T176 F179 W190 (fun z => ⟨_, _, e252, e253, (R.at (cl_aux67 _ (X22 (cl_aux68 _ _ ek81 (q114 (cl_aux68 _ _ ek135 (q168 (cl_aux68 _ _ ek189 z)).1)).1)).1) e5 e8).keep (cl_aux3 _ _ ek181) (cl_aux3 _ _ ek183) (cl_aux3 _ _ ek185) (cl_aux3 _ _ ek187)⟩) ⟨_, e251, b3⟩ (sf_weak sf_k0 (by decide) (by decide)))
    · skip
      refine pm_R_op pm_M37 (pc_q := 50) (st_q := [.int 0]) rfl rfl rfl ?_
      have e254 := (F123.cell G (by decide) (by decide) (F99.cell G (by decide) (by decide) (F92.cell G (by decide) (by decide) (F69.cell G (by decide) (by decide) (F59.cell G (by decide) (by decide) (F53.cell G (by decide) (by decide) (F47.cell G (by decide) (by decide) (F41.cell G (by decide) (by decide) (F20.cell G (by decide) (by decide) e2)))))))))
      have e255 := (F123.cell G (by decide) (by decide) (F99.cell G (by decide) (by decide) (F92.cell G (by decide) (by decide) (F69.cell G (by decide) (by decide) (F59.cell G (by decide) (by decide) (F53.cell G (by decide) (by decide) (F47.cell G (by decide) (by decide) (F41.cell G (by decide) (by decide) (F20.cell G (by decide) (by decide) e5)))))))))
      have e256 := (F123.cell G (by decide) (by decide) (F99.cell G (by decide) (by decide) (F92.cell G (by decide) (by decide) (F69.cell G (by decide) (by decide) (F59.cell G (by decide) (by decide) (F53.cell G (by decide) (by decide) (F47.cell G (by decide) (by decide) (F41.cell G (by decide) (by decide) (F20.cell G (by decide) (by decide) e8)))))))))
      exact pm_R_ret pm_M37 (r := some (.int 0)) rfl rfl (K 0 m120 h121 T122 F125 W136 (fun z => ⟨_, _, e255, e256, (R.at (cl_aux67 _ (X22 (cl_aux68 _ _ ek81 (q114 (cl_aux68 _ _ ek135 z)).1)).1) e5 e8).keep (cl_aux3 _ _ ek127) (cl_aux3 _ _ ek129) (cl_aux3 _ _ ek131) (cl_aux3 _ _ ek133)⟩) ⟨_, e254, b3⟩ (sf_weak sf_k0 (by decide) (by decide)))
  · skip
    refine pm_R_op pm_M37 (pc_q := 50) (st_q := [.int 0]) rfl rfl rfl ?_
    have e257 := (F69.cell G (by decide) (by decide) (F59.cell G (by decide) (by decide) (F53.cell G (by decide) (by decide) (F47.cell G (by decide) (by decide) (F41.cell G (by decide) (by decide) (F20.cell G (by decide) (by decide) e2))))))
    have e258 := (F69.cell G (by decide) (by decide) (F59.cell G (by decide) (by decide) (F53.cell G (by decide) (by decide) (F47.cell G (by decide) (by decide) (F41.cell G (by decide) (by decide) (F20.cell G (by decide) (by decide) e5))))))
    have e259 := (F69.cell G (by decide) (by decide) (F59.cell G (by decide) (by decide) (F53.cell G (by decide) (by decide) (F47.cell G (by decide) (by decide) (F41.cell G (by decide) (by decide) (F20.cell G (by decide) (by decide) e8))))))
    exact pm_R_ret pm_M37 (r := some (.int 0)) rfl rfl (K 0 m66 h67 T68 F71 W82 (fun z => ⟨_, _, e258, e259, (R.at (cl_aux67 _ (X22 (cl_aux68 _ _ ek81 z)).1) e5 e8).keep (cl_aux3 _ _ ek73) (cl_aux3 _ _ ek75) (cl_aux3 _ _ ek77) (cl_aux3 _ _ ek79)⟩) ⟨_, e257, b3⟩ (sf_weak sf_k0 (by decide) (by decide)))
