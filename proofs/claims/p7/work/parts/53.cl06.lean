theorem cl_aux86 (v0 v1 : Int) (q0 : v0 < v1) (q1 : v0 ≤ v1) (q2 : (-1) ≤ v0) (q3 : v0 ≤ 98) (q4 : 0 ≤ v1) (q5 : v1 ≤ 99) : v0 < v1 := by omega
set_option maxRecDepth 100000 in
set_option maxHeartbeats 4000000 in
/-- SilentTable$TextReader.readTape -/
theorem cl_c11_2 {d : Nat} {ck : cl_K} {E : Nat → pm_E} {m : Nat → Int32} {o : Nat → Option Nat} {h : pm_H} {Q : Option Value → pm_H → Prop} {a0 : Int32} (G : cl_G ck E) (T : cl_T ck E m o h) (Ba0 : sf_B 0 600 a0) (Y : cl_Y h) (K : ∀ (m_q : Nat → Int32) (h_q : pm_H), cl_T ck E m_q o h_q → cl_F ck [25, 26, 28, 29, 30] 0 0 h h_q → rf_W [3, 4, 5, 6, 7, 8, 9, 10, 11, 12, 13] m m_q → cl_Rd 2 m_q h_q → cl_Y h_q → ((m_q 3).toInt = 0 → (m_q 8).toInt < (m_q 7).toInt) → Q none h_q) : pm_R (d + 9) 11 0 [.ref 25, .int a0, .int 2, pm_no] [] h Q := by
  obtain ⟨f1, e2, b3⟩ := id Y
  refine pm_R_lo pm_M11 (pc_q := 1) rfl rfl rfl ?_
  refine pm_R_cv pm_M11 (pc_q := 4) (a := 25) (ra := []) (rest := []) (ls_q := [.ref 25]) rfl rfl (Or.inl rfl) pm_M12 T.e25 rfl (by decide) (T.lt (by decide)) rfl rfl (Nat.le_of_ble_eq_true rfl) rfl rfl ?_
  refine pm_R_lo pm_M12 (pc_q := 1) rfl rfl rfl ?_
  refine pm_R_op pm_M12 (pc_q := 2) (st_q := [.int 0, .ref 25]) rfl rfl rfl ?_
  refine cl_R_put25 G pm_M12 T (k := 3) (pc_q := 5) rfl rfl rfl (by decide) rfl rfl (sf_weak sf_k0 (by decide) (by decide)) rfl rfl rfl rfl rfl (fun h4 m7 em8 T5 F6 => ?_)
  have F9 := F6.cl (ck := ck) T.1
  have F10 := (cl_F.refl (ck := ck) (A := [25, 26, 28, 29, 30]) (n := 0) (s := 0) T.1).trans (N := 0) (S := 0) F9 (by decide) (by decide) (by decide)
  have B11 : sf_B 0 0 (m7 3) := by rw [em8]; exact sf_k0
  have W13 : rf_W [3, 4, 5, 6, 7, 8, 9, 10, 11, 12, 13] m m7 := by rw [em8]; exact (rf_W.refl [3, 4, 5, 6, 7, 8, 9, 10, 11, 12, 13] m).put (by decide)
  have B14 : sf_B 0 50 (m7 5) := T5.B 5
  have B15 : sf_B 0 16 (m7 6) := T5.B 6
  have B16 : sf_B 0 99 (m7 7) := T5.B 7
  have B17 : sf_B (-1) 99 (m7 8) := T5.B 8
  refine pm_R_lo pm_M12 (pc_q := 6) rfl rfl rfl ?_
  refine pm_R_op pm_M12 (pc_q := 7) (st_q := [.int (-1), .ref 25]) rfl rfl rfl ?_
  refine cl_R_put25 G pm_M12 T5 (k := 4) (pc_q := 10) rfl rfl rfl (by decide) rfl rfl (sf_weak sf_kn1 (by decide) (by decide)) rfl rfl rfl rfl rfl (fun h18 m21 em22 T19 F20 => ?_)
  have F23 := F20.cl (ck := ck) T5.1
  have F24 := F10.trans (N := 0) (S := 0) F23 (by decide) (by decide) (by decide)
  have B25 : sf_B 0 0 (m21 3) := by rw [em22]; exact B11
  have ek26 : (m21 3).toInt = ((m7 3)).toInt := by rw [em22]; rfl
  have B27 : sf_B 0 50 (m21 5) := by rw [em22]; exact B14
  have ek28 : (m21 5).toInt = ((m7 5)).toInt := by rw [em22]; rfl
  have B29 : sf_B 0 16 (m21 6) := by rw [em22]; exact B15
  have ek30 : (m21 6).toInt = ((m7 6)).toInt := by rw [em22]; rfl
  have B31 : sf_B 0 99 (m21 7) := by rw [em22]; exact B16
  have ek32 : (m21 7).toInt = ((m7 7)).toInt := by rw [em22]; rfl
  have B33 : sf_B (-1) 99 (m21 8) := by rw [em22]; exact B17
  have ek34 : (m21 8).toInt = ((m7 8)).toInt := by rw [em22]; rfl
  have B35 : sf_B (-1) (-1) (m21 4) := by rw [em22]; exact sf_kn1
  have W37 : rf_W [3, 4, 5, 6, 7, 8, 9, 10, 11, 12, 13] m m21 := by rw [em22]; exact W13.put (by decide)
  refine pm_R_lo pm_M12 (pc_q := 11) rfl rfl rfl ?_
  refine pm_R_op pm_M12 (pc_q := 12) (st_q := [.int 0, .ref 25]) rfl rfl rfl ?_
  refine cl_R_put25 G pm_M12 T19 (k := 5) (pc_q := 15) rfl rfl rfl (by decide) rfl rfl (sf_weak sf_k0 (by decide) (by decide)) rfl rfl rfl rfl rfl (fun h38 m41 em42 T39 F40 => ?_)
  have F43 := F40.cl (ck := ck) T19.1
  have F44 := F24.trans (N := 0) (S := 0) F43 (by decide) (by decide) (by decide)
  have B45 : sf_B 0 0 (m41 3) := by rw [em42]; exact B25
  have ek46 : (m41 3).toInt = ((m7 3)).toInt := by rw [em42]; exact ek26
  have B47 : sf_B 0 16 (m41 6) := by rw [em42]; exact B29
  have ek48 : (m41 6).toInt = ((m7 6)).toInt := by rw [em42]; exact ek30
  have B49 : sf_B 0 99 (m41 7) := by rw [em42]; exact B31
  have ek50 : (m41 7).toInt = ((m7 7)).toInt := by rw [em42]; exact ek32
  have B51 : sf_B (-1) 99 (m41 8) := by rw [em42]; exact B33
  have ek52 : (m41 8).toInt = ((m7 8)).toInt := by rw [em42]; exact ek34
  have B53 : sf_B (-1) (-1) (m41 4) := by rw [em42]; exact B35
  have B54 : sf_B 0 0 (m41 5) := by rw [em42]; exact sf_k0
  have W56 : rf_W [3, 4, 5, 6, 7, 8, 9, 10, 11, 12, 13] m m41 := by rw [em42]; exact W37.put (by decide)
  refine pm_R_lo pm_M12 (pc_q := 16) rfl rfl rfl ?_
  refine pm_R_op pm_M12 (pc_q := 17) (st_q := [.int 0, .ref 25]) rfl rfl rfl ?_
  refine cl_R_put25 G pm_M12 T39 (k := 6) (pc_q := 20) rfl rfl rfl (by decide) rfl rfl (sf_weak sf_k0 (by decide) (by decide)) rfl rfl rfl rfl rfl (fun h57 m60 em61 T58 F59 => ?_)
  have F62 := F59.cl (ck := ck) T39.1
  have F63 := F44.trans (N := 0) (S := 0) F62 (by decide) (by decide) (by decide)
  have B64 : sf_B 0 0 (m60 3) := by rw [em61]; exact B45
  have ek65 : (m60 3).toInt = ((m7 3)).toInt := by rw [em61]; exact ek46
  have B66 : sf_B 0 99 (m60 7) := by rw [em61]; exact B49
  have ek67 : (m60 7).toInt = ((m7 7)).toInt := by rw [em61]; exact ek50
  have B68 : sf_B (-1) 99 (m60 8) := by rw [em61]; exact B51
  have ek69 : (m60 8).toInt = ((m7 8)).toInt := by rw [em61]; exact ek52
  have B70 : sf_B (-1) (-1) (m60 4) := by rw [em61]; exact B53
  have B71 : sf_B 0 0 (m60 5) := by rw [em61]; exact B54
  have ek72 : (m60 5).toInt = ((m41 5)).toInt := by rw [em61]; rfl
  have B73 : sf_B 0 0 (m60 6) := by rw [em61]; exact sf_k0
  have W75 : rf_W [3, 4, 5, 6, 7, 8, 9, 10, 11, 12, 13] m m60 := by rw [em61]; exact W56.put (by decide)
  refine pm_R_lo pm_M12 (pc_q := 21) rfl rfl rfl ?_
  refine pm_R_get pm_M12 (pc_q := 24) (v := .ref 28) rfl rfl T58.e25 (by decide) (T58.lt (by decide)) rfl rfl ?_
  refine pm_R_op pm_M12 (pc_q := 25) (st_q := [.int 0, .ref 28]) rfl rfl rfl ?_
  refine pm_R_cs pm_M12 (pc_q := 28) (ra := [.int 0, .ref 28]) (rest := []) (ls_q := [.ref 28, .int 0, pm_no, pm_no]) rfl rfl (Or.inl rfl) pm_M13 rfl rfl (Nat.le_of_ble_eq_true rfl) rfl rfl ?_
  refine pm_R_op pm_M13 (pc_q := 1) (st_q := [.int 0]) rfl rfl rfl ?_
  refine pm_R_lo pm_M13 (pc_q := 2) (ls_q := [.ref 28, .int 0, .int 0, pm_no]) (st_q := []) rfl rfl rfl ?_
  refine pm_R_lo pm_M13 (pc_q := 3) rfl rfl rfl ?_
  have e76 := (F62.cell G (by decide) (by decide) (F43.cell G (by decide) (by decide) (F23.cell G (by decide) (by decide) (F9.cell G (by decide) (by decide) e2))))
  refine pm_R_alen pm_M13 (pc_q := 4) (v := 10) rfl e76 (by decide) (T58.lt (by decide)) (by decide) rfl rfl ?_
  refine pm_R_lo pm_M13 (pc_q := 5) (ls_q := [.ref 28, .int 0, .int 0, .int 10]) (st_q := []) rfl rfl rfl ?_
  refine pm_R_lo pm_M13 (pc_q := 6) rfl rfl rfl ?_
  refine pm_R_lo pm_M13 (pc_q := 7) rfl rfl rfl ?_
  refine pm_R_br pm_M13 (pc_q := 10) (st_q := []) rfl rfl ?_
  refine pm_R_lo pm_M13 (pc_q := 11) rfl rfl rfl ?_
  refine pm_R_lo pm_M13 (pc_q := 12) rfl rfl rfl ?_
  refine pm_R_lo pm_M13 (pc_q := 13) rfl rfl rfl ?_
  refine cl_R_ist G pm_M13 T58 (pc_q := 14) rfl e76 (by decide) ⟨_, rfl⟩ rfl rfl (fun h77 T78 F79 e80 => ?_)
  have F81 := F79.cl (ck := ck) T58.1
  have F82 := F63.trans (N := 0) (S := 0) F81 (by decide) (by decide) (by decide)
  refine pm_R_lo pm_M13 (pc_q := 17) (ls_q := [.ref 28, .int 0, .int 1, .int 10]) (st_q := []) rfl rfl rfl ?_
  refine pm_R_br pm_M13 (pc_q := 5) rfl rfl ?_
  refine pm_R_lo pm_M13 (pc_q := 6) rfl rfl rfl ?_
  refine pm_R_lo pm_M13 (pc_q := 7) rfl rfl rfl ?_
  refine pm_R_br pm_M13 (pc_q := 10) (st_q := []) rfl rfl ?_
  refine pm_R_lo pm_M13 (pc_q := 11) rfl rfl rfl ?_
  refine pm_R_lo pm_M13 (pc_q := 12) rfl rfl rfl ?_
  refine pm_R_lo pm_M13 (pc_q := 13) rfl rfl rfl ?_
  refine cl_R_ist G pm_M13 T78 (pc_q := 14) rfl e80 (by decide) ⟨_, rfl⟩ rfl rfl (fun h83 T84 F85 e86 => ?_)
  have F87 := F85.cl (ck := ck) T78.1
  have F88 := F82.trans (N := 0) (S := 0) F87 (by decide) (by decide) (by decide)
  refine pm_R_lo pm_M13 (pc_q := 17) (ls_q := [.ref 28, .int 0, .int 2, .int 10]) (st_q := []) rfl rfl rfl ?_
  refine pm_R_br pm_M13 (pc_q := 5) rfl rfl ?_
  refine pm_R_lo pm_M13 (pc_q := 6) rfl rfl rfl ?_
  refine pm_R_lo pm_M13 (pc_q := 7) rfl rfl rfl ?_
  refine pm_R_br pm_M13 (pc_q := 10) (st_q := []) rfl rfl ?_
  refine pm_R_lo pm_M13 (pc_q := 11) rfl rfl rfl ?_
  refine pm_R_lo pm_M13 (pc_q := 12) rfl rfl rfl ?_
  refine pm_R_lo pm_M13 (pc_q := 13) rfl rfl rfl ?_
  refine cl_R_ist G pm_M13 T84 (pc_q := 14) rfl e86 (by decide) ⟨_, rfl⟩ rfl rfl (fun h89 T90 F91 e92 => ?_)
  have F93 := F91.cl (ck := ck) T84.1
  have F94 := F88.trans (N := 0) (S := 0) F93 (by decide) (by decide) (by decide)
  refine pm_R_lo pm_M13 (pc_q := 17) (ls_q := [.ref 28, .int 0, .int 3, .int 10]) (st_q := []) rfl rfl rfl ?_
  refine pm_R_br pm_M13 (pc_q := 5) rfl rfl ?_
  refine pm_R_lo pm_M13 (pc_q := 6) rfl rfl rfl ?_
  refine pm_R_lo pm_M13 (pc_q := 7) rfl rfl rfl ?_
  refine pm_R_br pm_M13 (pc_q := 10) (st_q := []) rfl rfl ?_
  refine pm_R_lo pm_M13 (pc_q := 11) rfl rfl rfl ?_
  refine pm_R_lo pm_M13 (pc_q := 12) rfl rfl rfl ?_
  refine pm_R_lo pm_M13 (pc_q := 13) rfl rfl rfl ?_
  refine cl_R_ist G pm_M13 T90 (pc_q := 14) rfl e92 (by decide) ⟨_, rfl⟩ rfl rfl (fun h95 T96 F97 e98 => ?_)
  have F99 := F97.cl (ck := ck) T90.1
  have F100 := F94.trans (N := 0) (S := 0) F99 (by decide) (by decide) (by decide)
  refine pm_R_lo pm_M13 (pc_q := 17) (ls_q := [.ref 28, .int 0, .int 4, .int 10]) (st_q := []) rfl rfl rfl ?_
  refine pm_R_br pm_M13 (pc_q := 5) rfl rfl ?_
  refine pm_R_lo pm_M13 (pc_q := 6) rfl rfl rfl ?_
  refine pm_R_lo pm_M13 (pc_q := 7) rfl rfl rfl ?_
  refine pm_R_br pm_M13 (pc_q := 10) (st_q := []) rfl rfl ?_
  refine pm_R_lo pm_M13 (pc_q := 11) rfl rfl rfl ?_
  refine pm_R_lo pm_M13 (pc_q := 12) rfl rfl rfl ?_
  refine pm_R_lo pm_M13 (pc_q := 13) rfl rfl rfl ?_
  refine cl_R_ist G pm_M13 T96 (pc_q := 14) rfl e98 (by decide) ⟨_, rfl⟩ rfl rfl (fun h101 T102 F103 e104 => ?_)
  have F105 := F103.cl (ck := ck) T96.1
  have F106 := F100.trans (N := 0) (S := 0) F105 (by decide) (by decide) (by decide)
  refine pm_R_lo pm_M13 (pc_q := 17) (ls_q := [.ref 28, .int 0, .int 5, .int 10]) (st_q := []) rfl rfl rfl ?_
  refine pm_R_br pm_M13 (pc_q := 5) rfl rfl ?_
  refine pm_R_lo pm_M13 (pc_q := 6) rfl rfl rfl ?_
  refine pm_R_lo pm_M13 (pc_q := 7) rfl rfl rfl ?_
  refine pm_R_br pm_M13 (pc_q := 10) (st_q := []) rfl rfl ?_
  refine pm_R_lo pm_M13 (pc_q := 11) rfl rfl rfl ?_
  refine pm_R_lo pm_M13 (pc_q := 12) rfl rfl rfl ?_
  refine pm_R_lo pm_M13 (pc_q := 13) rfl rfl rfl ?_
  refine cl_R_ist G pm_M13 T102 (pc_q := 14) rfl e104 (by decide) ⟨_, rfl⟩ rfl rfl (fun h107 T108 F109 e110 => ?_)
  have F111 := F109.cl (ck := ck) T102.1
  have F112 := F106.trans (N := 0) (S := 0) F111 (by decide) (by decide) (by decide)
  refine pm_R_lo pm_M13 (pc_q := 17) (ls_q := [.ref 28, .int 0, .int 6, .int 10]) (st_q := []) rfl rfl rfl ?_
  refine pm_R_br pm_M13 (pc_q := 5) rfl rfl ?_
  refine pm_R_lo pm_M13 (pc_q := 6) rfl rfl rfl ?_
  refine pm_R_lo pm_M13 (pc_q := 7) rfl rfl rfl ?_
  refine pm_R_br pm_M13 (pc_q := 10) (st_q := []) rfl rfl ?_
  refine pm_R_lo pm_M13 (pc_q := 11) rfl rfl rfl ?_
  refine pm_R_lo pm_M13 (pc_q := 12) rfl rfl rfl ?_
  refine pm_R_lo pm_M13 (pc_q := 13) rfl rfl rfl ?_
  refine cl_R_ist G pm_M13 T108 (pc_q := 14) rfl e110 (by decide) ⟨_, rfl⟩ rfl rfl (fun h113 T114 F115 e116 => ?_)
  have F117 := F115.cl (ck := ck) T108.1
  have F118 := F112.trans (N := 0) (S := 0) F117 (by decide) (by decide) (by decide)
  refine pm_R_lo pm_M13 (pc_q := 17) (ls_q := [.ref 28, .int 0, .int 7, .int 10]) (st_q := []) rfl rfl rfl ?_
  refine pm_R_br pm_M13 (pc_q := 5) rfl rfl ?_
  refine pm_R_lo pm_M13 (pc_q := 6) rfl rfl rfl ?_
  refine pm_R_lo pm_M13 (pc_q := 7) rfl rfl rfl ?_
  refine pm_R_br pm_M13 (pc_q := 10) (st_q := []) rfl rfl ?_
  refine pm_R_lo pm_M13 (pc_q := 11) rfl rfl rfl ?_
  refine pm_R_lo pm_M13 (pc_q := 12) rfl rfl rfl ?_
  refine pm_R_lo pm_M13 (pc_q := 13) rfl rfl rfl ?_
  refine cl_R_ist G pm_M13 T114 (pc_q := 14) rfl e116 (by decide) ⟨_, rfl⟩ rfl rfl (fun h119 T120 F121 e122 => ?_)
  have F123 := F121.cl (ck := ck) T114.1
  have F124 := F118.trans (N := 0) (S := 0) F123 (by decide) (by decide) (by decide)
  refine pm_R_lo pm_M13 (pc_q := 17) (ls_q := [.ref 28, .int 0, .int 8, .int 10]) (st_q := []) rfl rfl rfl ?_
  refine pm_R_br pm_M13 (pc_q := 5) rfl rfl ?_
  refine pm_R_lo pm_M13 (pc_q := 6) rfl rfl rfl ?_
  refine pm_R_lo pm_M13 (pc_q := 7) rfl rfl rfl ?_
  refine pm_R_br pm_M13 (pc_q := 10) (st_q := []) rfl rfl ?_
  refine pm_R_lo pm_M13 (pc_q := 11) rfl rfl rfl ?_
  refine pm_R_lo pm_M13 (pc_q := 12) rfl rfl rfl ?_
  refine pm_R_lo pm_M13 (pc_q := 13) rfl rfl rfl ?_
  refine cl_R_ist G pm_M13 T120 (pc_q := 14) rfl e122 (by decide) ⟨_, rfl⟩ rfl rfl (fun h125 T126 F127 e128 => ?_)
  have F129 := F127.cl (ck := ck) T120.1
  have F130 := F124.trans (N := 0) (S := 0) F129 (by decide) (by decide) (by decide)
  refine pm_R_lo pm_M13 (pc_q := 17) (ls_q := [.ref 28, .int 0, .int 9, .int 10]) (st_q := []) rfl rfl rfl ?_
  refine pm_R_br pm_M13 (pc_q := 5) rfl rfl ?_
  refine pm_R_lo pm_M13 (pc_q := 6) rfl rfl rfl ?_
  refine pm_R_lo pm_M13 (pc_q := 7) rfl rfl rfl ?_
  refine pm_R_br pm_M13 (pc_q := 10) (st_q := []) rfl rfl ?_
  refine pm_R_lo pm_M13 (pc_q := 11) rfl rfl rfl ?_
  refine pm_R_lo pm_M13 (pc_q := 12) rfl rfl rfl ?_
  refine pm_R_lo pm_M13 (pc_q := 13) rfl rfl rfl ?_
  refine cl_R_ist G pm_M13 T126 (pc_q := 14) rfl e128 (by decide) ⟨_, rfl⟩ rfl rfl (fun h131 T132 F133 e134 => ?_)
  have F135 := F133.cl (ck := ck) T126.1
  have F136 := F130.trans (N := 0) (S := 0) F135 (by decide) (by decide) (by decide)
  refine pm_R_lo pm_M13 (pc_q := 17) (ls_q := [.ref 28, .int 0, .int 10, .int 10]) (st_q := []) rfl rfl rfl ?_
  refine pm_R_br pm_M13 (pc_q := 5) rfl rfl ?_
  refine pm_R_lo pm_M13 (pc_q := 6) rfl rfl rfl ?_
  refine pm_R_lo pm_M13 (pc_q := 7) rfl rfl rfl ?_
  refine pm_R_br pm_M13 (pc_q := 20) (st_q := []) rfl rfl ?_
  refine pm_R_ret pm_M13 (r := none) rfl rfl ?_
  show pm_R _ 12 28 [.ref 25] [] _ _
  refine pm_R_lo pm_M12 (pc_q := 29) rfl rfl rfl ?_
  refine pm_R_op pm_M12 (pc_q := 30) (st_q := [.int 4, .ref 25]) rfl rfl rfl ?_
  refine cl_R_put25 G pm_M12 T132 (k := 7) (pc_q := 33) rfl rfl rfl (by decide) rfl rfl (sf_weak sf_k4 (by decide) (by decide)) rfl rfl rfl rfl rfl (fun h137 m140 em141 T138 F139 => ?_)
  have F142 := F139.cl (ck := ck) T132.1
  have F143 := F136.trans (N := 0) (S := 0) F142 (by decide) (by decide) (by decide)
  have B144 : sf_B 0 0 (m140 3) := by rw [em141]; exact B64
  have ek145 : (m140 3).toInt = ((m7 3)).toInt := by rw [em141]; exact ek65
  have B146 : sf_B (-1) 99 (m140 8) := by rw [em141]; exact B68
  have ek147 : (m140 8).toInt = ((m7 8)).toInt := by rw [em141]; exact ek69
  have B148 : sf_B (-1) (-1) (m140 4) := by rw [em141]; exact B70
  have B149 : sf_B 0 0 (m140 5) := by rw [em141]; exact B71
  have ek150 : (m140 5).toInt = ((m41 5)).toInt := by rw [em141]; exact ek72
  have B151 : sf_B 0 0 (m140 6) := by rw [em141]; exact B73
  have ek152 : (m140 6).toInt = ((m60 6)).toInt := by rw [em141]; rfl
  have B153 : sf_B 4 4 (m140 7) := by rw [em141]; exact sf_k4
  have W155 : rf_W [3, 4, 5, 6, 7, 8, 9, 10, 11, 12, 13] m m140 := by rw [em141]; exact W75.put (by decide)
  refine pm_R_lo pm_M12 (pc_q := 34) rfl rfl rfl ?_
  refine pm_R_op pm_M12 (pc_q := 35) (st_q := [.int (-1), .ref 25]) rfl rfl rfl ?_
  refine cl_R_put25 G pm_M12 T138 (k := 8) (pc_q := 38) rfl rfl rfl (by decide) rfl rfl (sf_weak sf_kn1 (by decide) (by decide)) rfl rfl rfl rfl rfl (fun h156 m159 em160 T157 F158 => ?_)
  have F161 := F158.cl (ck := ck) T138.1
  have F162 := F143.trans (N := 0) (S := 0) F161 (by decide) (by decide) (by decide)
  have B163 : sf_B 0 0 (m159 3) := by rw [em160]; exact B144
  have ek164 : (m159 3).toInt = ((m7 3)).toInt := by rw [em160]; exact ek145
  have B165 : sf_B (-1) (-1) (m159 4) := by rw [em160]; exact B148
  have B166 : sf_B 0 0 (m159 5) := by rw [em160]; exact B149
  have ek167 : (m159 5).toInt = ((m41 5)).toInt := by rw [em160]; exact ek150
  have B168 : sf_B 0 0 (m159 6) := by rw [em160]; exact B151
  have ek169 : (m159 6).toInt = ((m60 6)).toInt := by rw [em160]; exact ek152
  have B170 : sf_B 4 4 (m159 7) := by rw [em160]; exact B153
  have ek171 : (m159 7).toInt = ((m140 7)).toInt := by rw [em160]; rfl
  have B172 : sf_B (-1) (-1) (m159 8) := by rw [em160]; exact sf_kn1
  have W174 : rf_W [3, 4, 5, 6, 7, 8, 9, 10, 11, 12, 13] m m159 := by rw [em160]; exact W155.put (by decide)
  refine pm_R_ret pm_M12 (r := none) rfl rfl ?_
  show pm_R _ 11 4 [.ref 25, .int a0, .int 2, pm_no] [] _ _
  refine pm_R_lo pm_M11 (pc_q := 5) rfl rfl rfl ?_
  refine pm_R_get pm_M11 (pc_q := 8) (v := .ref 30) rfl rfl T157.e25 (by decide) (T157.lt (by decide)) rfl rfl ?_
  refine pm_R_lo pm_M11 (pc_q := 9) rfl rfl rfl ?_
  refine pm_R_cv pm_M11 (pc_q := 12) (a := 30) (ra := [.int a0]) (rest := []) (ls_q := [.ref 30, .int a0]) rfl rfl (Or.inl rfl) pm_M14 T157.e30 rfl (by decide) (T157.lt (by decide)) rfl rfl (Nat.le_of_ble_eq_true rfl) rfl rfl ?_
  refine cl_c14 (d := d + 8) G T157 Ba0 (fun m177 h178 T179 F180 W181 => ?_)
  have F182 := F162.trans (N := 0) (S := 0) F180 (by decide) (by decide) (by decide)
  have B183 : sf_B 0 0 (m177 3) := by rw [W181 3 (by decide)]; exact B163
  have ek184 : (m177 3).toInt = ((m7 3)).toInt := by rw [W181 3 (by decide)]; exact ek164
  have B185 : sf_B (-1) (-1) (m177 4) := by rw [W181 4 (by decide)]; exact B165
  have B186 : sf_B 0 0 (m177 5) := by rw [W181 5 (by decide)]; exact B166
  have ek187 : (m177 5).toInt = ((m41 5)).toInt := by rw [W181 5 (by decide)]; exact ek167
  have B188 : sf_B 0 0 (m177 6) := by rw [W181 6 (by decide)]; exact B168
  have ek189 : (m177 6).toInt = ((m60 6)).toInt := by rw [W181 6 (by decide)]; exact ek169
  have B190 : sf_B 4 4 (m177 7) := by rw [W181 7 (by decide)]; exact B170
  have ek191 : (m177 7).toInt = ((m140 7)).toInt := by rw [W181 7 (by decide)]; exact ek171
  have B192 : sf_B (-1) (-1) (m177 8) := by rw [W181 8 (by decide)]; exact B172
  have ek193 : (m177 8).toInt = ((m159 8)).toInt := by rw [W181 8 (by decide)]
  have W194 : rf_W [3, 4, 5, 6, 7, 8, 9, 10, 11, 12, 13] m m177 := W174.trans W181 (by decide)
  show pm_R _ 11 12 [.ref 25, .int a0, .int 2, pm_no] [] _ _
  refine pm_R_lo pm_M11 (pc_q := 13) rfl rfl rfl ?_
  refine pm_R_op pm_M11 (pc_q := 14) (st_q := [.int 1, .int 2]) rfl rfl rfl ?_
  refine pm_R_br pm_M11 (pc_q := 24) (st_q := []) rfl rfl ?_
  refine pm_R_lo pm_M11 (pc_q := 25) rfl rfl rfl ?_
  refine pm_R_lo pm_M11 (pc_q := 26) rfl rfl rfl ?_
  refine pm_R_cv pm_M11 (pc_q := 29) (a := 25) (ra := [.int 2]) (rest := []) (ls_q := [.ref 25, .int 2, pm_no]) rfl rfl (Or.inl rfl) pm_M22 T179.e25 rfl (by decide) (T179.lt (by decide)) rfl rfl (Nat.le_of_ble_eq_true rfl) rfl rfl ?_
  obtain ⟨f195, e196⟩ := T179.C 26 (by decide) (by decide)
  obtain ⟨f198, e199⟩ := T179.C 27 (by decide) (by decide)
  have e201 := (F180.cell G (by decide) (by decide) (F161.cell G (by decide) (by decide) (F142.cell G (by decide) (by decide) e134)))
  refine cl_c22_2 (d := d + 0) G T179 (fun _ => ⟨_, _, e196, e199, cl_RF.start (cl_aux83 _ B186.1 B186.2) (cl_aux83 _ B188.1 B188.2) (cl_aux84 _ B190.1 B190.2)⟩) ⟨_, e201, (sf_upd (sf_upd (sf_upd (sf_upd (sf_upd (sf_upd (sf_upd (sf_upd (sf_upd (sf_upd b3 (sf_weak sf_k0 (by decide) (by decide)) _) (sf_weak sf_k0 (by decide) (by decide)) _) (sf_weak sf_k0 (by decide) (by decide)) _) (sf_weak sf_k0 (by decide) (by decide)) _) (sf_weak sf_k0 (by decide) (by decide)) _) (sf_weak sf_k0 (by decide) (by decide)) _) (sf_weak sf_k0 (by decide) (by decide)) _) (sf_weak sf_k0 (by decide) (by decide)) _) (sf_weak sf_k0 (by decide) (by decide)) _) (sf_weak sf_k0 (by decide) (by decide)) _)⟩ (fun r202 m204 h205 T206 F207 W208 X209 X210 B203 => ?_)
  have F211 := F182.trans (N := 0) (S := 0) F207 (by decide) (by decide) (by decide)
  have W212 : rf_W [3, 4, 5, 6, 7, 8, 9, 10, 11, 12, 13] m m204 := W194.trans W208 (by decide)
  have B213 : sf_B 0 4 (m204 3) := T206.B 3
  have B214 : sf_B 0 50 (m204 5) := T206.B 5
  have B215 : sf_B 0 16 (m204 6) := T206.B 6
  have B216 : sf_B 0 99 (m204 7) := T206.B 7
  have B217 : sf_B (-1) 99 (m204 8) := T206.B 8
  show pm_R _ 11 29 [.ref 25, .int a0, .int 2, pm_no] [.int r202] _ _
  obtain ⟨f218, e219, b220⟩ := id X210
  obtain ⟨f221, e222⟩ := T206.C 26 (by decide) (by decide)
  have e224 := (F207.cell G (by decide) (by decide) e199)
  refine pm_R_lo pm_M11 (pc_q := 30) (ls_q := [.ref 25, .int a0, .int 2, .int r202]) (st_q := []) rfl rfl rfl ?_
  refine pm_R_lo pm_M11 (pc_q := 31) rfl rfl rfl ?_
  refine pm_R_ifc pm_M11 (t := 53) (pc_q := 34) rfl rfl rfl (fun c225 => ?_) (fun c225 => ?_)
  · have B226 : sf_B 1 1 r202 := sf_neL0 c225 sf_k0 B203
    refine pm_R_lo pm_M11 (pc_q := 54) rfl rfl rfl ?_
    refine pm_R_op pm_M11 (pc_q := 55) (st_q := [.int 1, .int 2]) rfl rfl rfl ?_
    refine pm_R_br pm_M11 (pc_q := 65) (st_q := []) rfl rfl ?_
    refine pm_R_lo pm_M11 (pc_q := 66) rfl rfl rfl ?_
    refine pm_R_op pm_M11 (pc_q := 67) (st_q := [.int 2, .int 2]) rfl rfl rfl ?_
    refine pm_R_br pm_M11 (pc_q := 70) (st_q := []) rfl rfl ?_
    refine pm_R_lo pm_M11 (pc_q := 71) rfl rfl rfl ?_
    refine pm_R_get pm_M11 (pc_q := 74) (v := .int (m204 8)) rfl rfl T206.e25 (by decide) (T206.lt (by decide)) rfl rfl ?_
    refine pm_R_lo pm_M11 (pc_q := 75) rfl rfl rfl ?_
    refine pm_R_get pm_M11 (pc_q := 78) (v := .int (m204 7)) rfl rfl T206.e25 (by decide) (T206.lt (by decide)) rfl rfl ?_
    refine pm_R_icmp pm_M11 (t := 87) (pc_q := 81) rfl rfl rfl (fun c227 => ?_) (fun c227 => ?_)
    · have B228 : sf_B (-1) 98 (m204 8) := sf_ltL c227 B217 B216
      exact pm_R_ret pm_M11 (r := none) rfl rfl (K m204 h205 T206 F211 W212 (fun z => ⟨_, _, e222, e224, (X209.at (cl_aux67 _ z) e222 e224).keep rfl rfl rfl rfl⟩) ⟨_, e219, b220⟩ (fun _ => (cl_aux86 _ _ (Int32.lt_iff_toInt_lt.mp c227) (Int.le_of_lt (Int32.lt_iff_toInt_lt.mp c227)) B228.1 B228.2 B216.1 B216.2)))
    · have B229 : sf_B 0 99 (m204 8) := sf_leR (Int32.not_lt.mp c227) B216 B217
      refine pm_R_lo pm_M11 (pc_q := 82) rfl rfl rfl ?_
      refine pm_R_op pm_M11 (pc_q := 83) (st_q := [.int 4, .ref 25]) rfl rfl rfl ?_
      refine pm_R_lo pm_M11 (pc_q := 84) rfl rfl rfl ?_
      refine pm_R_cv pm_M11 (pc_q := 87) (a := 25) (ra := [.int a0, .int 4]) (rest := []) (ls_q := [.ref 25, .int 4, .int a0]) rfl rfl (Or.inl rfl) pm_M21 T206.e25 rfl (by decide) (T206.lt (by decide)) rfl rfl (Nat.le_of_ble_eq_true rfl) rfl rfl ?_
      refine pm_R_lo pm_M21 (pc_q := 1) rfl rfl rfl ?_
      refine pm_R_get pm_M21 (pc_q := 4) (v := .int (m204 3)) rfl rfl T206.e25 (by decide) (T206.lt (by decide)) rfl rfl ?_
      refine pm_R_ifc pm_M21 (t := 17) (pc_q := 7) rfl rfl rfl (fun c230 => ?_) (fun c230 => ?_)
      · have B231 : sf_B 1 4 (m204 3) := sf_neL0 c230 sf_k0 B213
        refine pm_R_ret pm_M21 (r := none) rfl rfl ?_
        show pm_R _ 11 87 [.ref 25, .int a0, .int 2, .int r202] [] _ _
        exact pm_R_ret pm_M11 (r := none) rfl rfl (K m204 h205 T206 F211 W212 (fun z => sf_pos B231 (by decide) z) ⟨_, e219, b220⟩ (fun z => sf_pos B231 (by decide) z))
      · have B232 : sf_B 0 0 (m204 3) := sf_eqL (Classical.not_not.mp c230) sf_k0
        refine pm_R_lo pm_M21 (pc_q := 8) rfl rfl rfl ?_
        refine pm_R_lo pm_M21 (pc_q := 9) rfl rfl rfl ?_
        refine cl_R_put25 G pm_M21 T206 (k := 3) (pc_q := 12) rfl rfl rfl (by decide) rfl rfl (sf_weak sf_k4 (by decide) (by decide)) rfl rfl rfl rfl rfl (fun h233 m236 em237 T234 F235 => ?_)
        have F238 := F235.cl (ck := ck) T206.1
        have F239 := F211.trans (N := 0) (S := 0) F238 (by decide) (by decide) (by decide)
        have B240 : sf_B 0 50 (m236 5) := by rw [em237]; exact B214
        have ek241 : (m236 5).toInt = ((m204 5)).toInt := by rw [em237]; rfl
        have B242 : sf_B 0 16 (m236 6) := by rw [em237]; exact B215
        have ek243 : (m236 6).toInt = ((m204 6)).toInt := by rw [em237]; rfl
        have B244 : sf_B 0 99 (m236 7) := by rw [em237]; exact B216
        have ek245 : (m236 7).toInt = ((m204 7)).toInt := by rw [em237]; rfl
        have B246 : sf_B 0 99 (m236 8) := by rw [em237]; exact B229
        have ek247 : (m236 8).toInt = ((m204 8)).toInt := by rw [em237]; rfl
        have B248 : sf_B 4 4 (m236 3) := by rw [em237]; exact sf_k4
        have W250 : rf_W [3, 4, 5, 6, 7, 8, 9, 10, 11, 12, 13] m m236 := by rw [em237]; exact W212.put (by decide)
        refine pm_R_lo pm_M21 (pc_q := 13) rfl rfl rfl ?_
        refine pm_R_lo pm_M21 (pc_q := 14) rfl rfl rfl ?_
        refine cl_R_put25 G pm_M21 T234 (k := 4) (pc_q := 17) rfl rfl rfl (by decide) rfl rfl (sf_weak Ba0 (by decide) (by decide)) rfl rfl rfl rfl rfl (fun h251 m254 em255 T252 F253 => ?_)
        have F256 := F253.cl (ck := ck) T234.1
        have F257 := F239.trans (N := 0) (S := 0) F256 (by decide) (by decide) (by decide)
        have B258 : sf_B 0 50 (m254 5) := by rw [em255]; exact B240
        have ek259 : (m254 5).toInt = ((m204 5)).toInt := by rw [em255]; exact ek241
        have B260 : sf_B 0 16 (m254 6) := by rw [em255]; exact B242
        have ek261 : (m254 6).toInt = ((m204 6)).toInt := by rw [em255]; exact ek243
        have B262 : sf_B 0 99 (m254 7) := by rw [em255]; exact B244
        have ek263 : (m254 7).toInt = ((m204 7)).toInt := by rw [em255]; exact ek245
        have B264 : sf_B 0 99 (m254 8) := by rw [em255]; exact B246
        have ek265 : (m254 8).toInt = ((m204 8)).toInt := by rw [em255]; exact ek247
        have B266 : sf_B 4 4 (m254 3) := by rw [em255]; exact B248
        have ek267 : (m254 3).toInt = ((m236 3)).toInt := by rw [em255]; rfl
        have B268 : sf_B 0 600 (m254 4) := by rw [em255]; exact Ba0
        have ek269 : (m254 4).toInt = (a0).toInt := by rw [em255]; rfl
        have W270 : rf_W [3, 4, 5, 6, 7, 8, 9, 10, 11, 12, 13] m m254 := by rw [em255]; exact W250.put (by decide)
        refine pm_R_ret pm_M21 (r := none) rfl rfl ?_
        show pm_R _ 11 87 [.ref 25, .int a0, .int 2, .int r202] [] _ _
        have e271 := (F256.cell G (by decide) (by decide) (F238.cell G (by decide) (by decide) e222))
        have e272 := (F256.cell G (by decide) (by decide) (F238.cell G (by decide) (by decide) e219))
        exact pm_R_ret pm_M11 (r := none) rfl rfl (K m254 h251 T252 F257 W270 (fun z => sf_pos B266 (by decide) z) ⟨_, e272, b220⟩ (fun z => sf_pos B266 (by decide) z))
  · have B273 : sf_B 0 0 r202 := sf_eqL (Classical.not_not.mp c225) sf_k0
    refine pm_R_lo pm_M11 (pc_q := 35) rfl rfl rfl ?_
    refine pm_R_op pm_M11 (pc_q := 36) (st_q := [.int 1, .ref 25]) rfl rfl rfl ?_
    refine cl_R_put25 G pm_M11 T206 (k := 3) (pc_q := 39) rfl rfl rfl (by decide) rfl rfl (sf_weak sf_k1 (by decide) (by decide)) rfl rfl rfl rfl rfl (fun h274 m277 em278 T275 F276 => ?_)
    have F279 := F276.cl (ck := ck) T206.1
    have F280 := F211.trans (N := 0) (S := 0) F279 (by decide) (by decide) (by decide)
    have B281 : sf_B 0 50 (m277 5) := by rw [em278]; exact B214
    have ek282 : (m277 5).toInt = ((m204 5)).toInt := by rw [em278]; rfl
    have B283 : sf_B 0 16 (m277 6) := by rw [em278]; exact B215
    have ek284 : (m277 6).toInt = ((m204 6)).toInt := by rw [em278]; rfl
    have B285 : sf_B 0 99 (m277 7) := by rw [em278]; exact B216
    have ek286 : (m277 7).toInt = ((m204 7)).toInt := by rw [em278]; rfl
    have B287 : sf_B (-1) 99 (m277 8) := by rw [em278]; exact B217
    have ek288 : (m277 8).toInt = ((m204 8)).toInt := by rw [em278]; rfl
    have B289 : sf_B 1 1 (m277 3) := by rw [em278]; exact sf_k1
    have W291 : rf_W [3, 4, 5, 6, 7, 8, 9, 10, 11, 12, 13] m m277 := by rw [em278]; exact W212.put (by decide)
    refine pm_R_lo pm_M11 (pc_q := 40) rfl rfl rfl ?_
    refine pm_R_lo pm_M11 (pc_q := 41) rfl rfl rfl ?_
    refine pm_R_get pm_M11 (pc_q := 44) (v := .ref 30) rfl rfl T275.e25 (by decide) (T275.lt (by decide)) rfl rfl ?_
    have B292 : sf_B 0 600 (m277 11) := T275.B 11
    refine pm_R_get pm_M11 (pc_q := 47) (v := .int (m277 11)) rfl rfl T275.e30 (by decide) (T275.lt (by decide)) rfl rfl ?_
    refine cl_R_put25 G pm_M11 T275 (k := 4) (pc_q := 50) rfl rfl rfl (by decide) rfl rfl (sf_weak B292 (by decide) (by decide)) rfl rfl rfl rfl rfl (fun h293 m296 em297 T294 F295 => ?_)
    have F298 := F295.cl (ck := ck) T275.1
    have F299 := F280.trans (N := 0) (S := 0) F298 (by decide) (by decide) (by decide)
    have B300 : sf_B 0 50 (m296 5) := by rw [em297]; exact B281
    have ek301 : (m296 5).toInt = ((m204 5)).toInt := by rw [em297]; exact ek282
    have B302 : sf_B 0 16 (m296 6) := by rw [em297]; exact B283
    have ek303 : (m296 6).toInt = ((m204 6)).toInt := by rw [em297]; exact ek284
    have B304 : sf_B 0 99 (m296 7) := by rw [em297]; exact B285
    have ek305 : (m296 7).toInt = ((m204 7)).toInt := by rw [em297]; exact ek286
    have B306 : sf_B (-1) 99 (m296 8) := by rw [em297]; exact B287
    have ek307 : (m296 8).toInt = ((m204 8)).toInt := by rw [em297]; exact ek288
    have B308 : sf_B 1 1 (m296 3) := by rw [em297]; exact B289
    have ek309 : (m296 3).toInt = ((m277 3)).toInt := by rw [em297]; rfl
    have B310 : sf_B 0 600 (m296 4) := by rw [em297]; exact B292
    have ek311 : (m296 4).toInt = ((m277 11)).toInt := by rw [em297]; rfl
    have W312 : rf_W [3, 4, 5, 6, 7, 8, 9, 10, 11, 12, 13] m m296 := by rw [em297]; exact W291.put (by decide)
    refine pm_R_br pm_M11 (pc_q := 87) rfl rfl ?_
    have e313 := (F298.cell G (by decide) (by decide) (F279.cell G (by decide) (by decide) e222))
    have e314 := (F298.cell G (by decide) (by decide) (F279.cell G (by decide) (by decide) e219))
    exact pm_R_ret pm_M11 (r := none) rfl rfl (K m296 h293 T294 F299 W312 (fun z => sf_pos B308 (by decide) z) ⟨_, e314, b220⟩ (fun z => sf_pos B308 (by decide) z))

set_option maxRecDepth 100000 in
set_option maxHeartbeats 4000000 in
/-- SilentTable$TextReader.readTape -/
theorem cl_c11_3 {d : Nat} {ck : cl_K} {E : Nat → pm_E} {m : Nat → Int32} {o : Nat → Option Nat} {h : pm_H} {Q : Option Value → pm_H → Prop} {a0 : Int32} (G : cl_G ck E) (T : cl_T ck E m o h) (Ba0 : sf_B 0 600 a0) (Y : cl_Y h) (K : ∀ (m_q : Nat → Int32) (h_q : pm_H), cl_T ck E m_q o h_q → cl_F ck [25, 26, 28, 29, 30] 0 0 h h_q → rf_W [3, 4, 5, 6, 7, 8, 9, 10, 11, 12, 13] m m_q → cl_Rd 3 m_q h_q → cl_Y h_q → Q none h_q) : pm_R (d + 9) 11 0 [.ref 25, .int a0, .int 3, pm_no] [] h Q := by
  obtain ⟨f1, e2, b3⟩ := id Y
  refine pm_R_lo pm_M11 (pc_q := 1) rfl rfl rfl ?_
  refine pm_R_cv pm_M11 (pc_q := 4) (a := 25) (ra := []) (rest := []) (ls_q := [.ref 25]) rfl rfl (Or.inl rfl) pm_M12 T.e25 rfl (by decide) (T.lt (by decide)) rfl rfl (Nat.le_of_ble_eq_true rfl) rfl rfl ?_
  refine pm_R_lo pm_M12 (pc_q := 1) rfl rfl rfl ?_
  refine pm_R_op pm_M12 (pc_q := 2) (st_q := [.int 0, .ref 25]) rfl rfl rfl ?_
  refine cl_R_put25 G pm_M12 T (k := 3) (pc_q := 5) rfl rfl rfl (by decide) rfl rfl (sf_weak sf_k0 (by decide) (by decide)) rfl rfl rfl rfl rfl (fun h4 m7 em8 T5 F6 => ?_)
  have F9 := F6.cl (ck := ck) T.1
  have F10 := (cl_F.refl (ck := ck) (A := [25, 26, 28, 29, 30]) (n := 0) (s := 0) T.1).trans (N := 0) (S := 0) F9 (by decide) (by decide) (by decide)
  have B11 : sf_B 0 0 (m7 3) := by rw [em8]; exact sf_k0
  have W13 : rf_W [3, 4, 5, 6, 7, 8, 9, 10, 11, 12, 13] m m7 := by rw [em8]; exact (rf_W.refl [3, 4, 5, 6, 7, 8, 9, 10, 11, 12, 13] m).put (by decide)
  have B14 : sf_B 0 50 (m7 5) := T5.B 5
  have B15 : sf_B 0 16 (m7 6) := T5.B 6
  have B16 : sf_B 0 99 (m7 7) := T5.B 7
  have B17 : sf_B (-1) 99 (m7 8) := T5.B 8
  refine pm_R_lo pm_M12 (pc_q := 6) rfl rfl rfl ?_
  refine pm_R_op pm_M12 (pc_q := 7) (st_q := [.int (-1), .ref 25]) rfl rfl rfl ?_
  refine cl_R_put25 G pm_M12 T5 (k := 4) (pc_q := 10) rfl rfl rfl (by decide) rfl rfl (sf_weak sf_kn1 (by decide) (by decide)) rfl rfl rfl rfl rfl (fun h18 m21 em22 T19 F20 => ?_)
  have F23 := F20.cl (ck := ck) T5.1
  have F24 := F10.trans (N := 0) (S := 0) F23 (by decide) (by decide) (by decide)
  have B25 : sf_B 0 0 (m21 3) := by rw [em22]; exact B11
  have ek26 : (m21 3).toInt = ((m7 3)).toInt := by rw [em22]; rfl
  have B27 : sf_B 0 50 (m21 5) := by rw [em22]; exact B14
  have ek28 : (m21 5).toInt = ((m7 5)).toInt := by rw [em22]; rfl
  have B29 : sf_B 0 16 (m21 6) := by rw [em22]; exact B15
  have ek30 : (m21 6).toInt = ((m7 6)).toInt := by rw [em22]; rfl
  have B31 : sf_B 0 99 (m21 7) := by rw [em22]; exact B16
  have ek32 : (m21 7).toInt = ((m7 7)).toInt := by rw [em22]; rfl
  have B33 : sf_B (-1) 99 (m21 8) := by rw [em22]; exact B17
  have ek34 : (m21 8).toInt = ((m7 8)).toInt := by rw [em22]; rfl
  have B35 : sf_B (-1) (-1) (m21 4) := by rw [em22]; exact sf_kn1
  have W37 : rf_W [3, 4, 5, 6, 7, 8, 9, 10, 11, 12, 13] m m21 := by rw [em22]; exact W13.put (by decide)
  refine pm_R_lo pm_M12 (pc_q := 11) rfl rfl rfl ?_
  refine pm_R_op pm_M12 (pc_q := 12) (st_q := [.int 0, .ref 25]) rfl rfl rfl ?_
  refine cl_R_put25 G pm_M12 T19 (k := 5) (pc_q := 15) rfl rfl rfl (by decide) rfl rfl (sf_weak sf_k0 (by decide) (by decide)) rfl rfl rfl rfl rfl (fun h38 m41 em42 T39 F40 => ?_)
  have F43 := F40.cl (ck := ck) T19.1
  have F44 := F24.trans (N := 0) (S := 0) F43 (by decide) (by decide) (by decide)
  have B45 : sf_B 0 0 (m41 3) := by rw [em42]; exact B25
  have ek46 : (m41 3).toInt = ((m7 3)).toInt := by rw [em42]; exact ek26
  have B47 : sf_B 0 16 (m41 6) := by rw [em42]; exact B29
  have ek48 : (m41 6).toInt = ((m7 6)).toInt := by rw [em42]; exact ek30
  have B49 : sf_B 0 99 (m41 7) := by rw [em42]; exact B31
  have ek50 : (m41 7).toInt = ((m7 7)).toInt := by rw [em42]; exact ek32
  have B51 : sf_B (-1) 99 (m41 8) := by rw [em42]; exact B33
  have ek52 : (m41 8).toInt = ((m7 8)).toInt := by rw [em42]; exact ek34
  have B53 : sf_B (-1) (-1) (m41 4) := by rw [em42]; exact B35
  have B54 : sf_B 0 0 (m41 5) := by rw [em42]; exact sf_k0
  have W56 : rf_W [3, 4, 5, 6, 7, 8, 9, 10, 11, 12, 13] m m41 := by rw [em42]; exact W37.put (by decide)
  refine pm_R_lo pm_M12 (pc_q := 16) rfl rfl rfl ?_
  refine pm_R_op pm_M12 (pc_q := 17) (st_q := [.int 0, .ref 25]) rfl rfl rfl ?_
  refine cl_R_put25 G pm_M12 T39 (k := 6) (pc_q := 20) rfl rfl rfl (by decide) rfl rfl (sf_weak sf_k0 (by decide) (by decide)) rfl rfl rfl rfl rfl (fun h57 m60 em61 T58 F59 => ?_)
  have F62 := F59.cl (ck := ck) T39.1
  have F63 := F44.trans (N := 0) (S := 0) F62 (by decide) (by decide) (by decide)
  have B64 : sf_B 0 0 (m60 3) := by rw [em61]; exact B45
  have ek65 : (m60 3).toInt = ((m7 3)).toInt := by rw [em61]; exact ek46
  have B66 : sf_B 0 99 (m60 7) := by rw [em61]; exact B49
  have ek67 : (m60 7).toInt = ((m7 7)).toInt := by rw [em61]; exact ek50
  have B68 : sf_B (-1) 99 (m60 8) := by rw [em61]; exact B51
  have ek69 : (m60 8).toInt = ((m7 8)).toInt := by rw [em61]; exact ek52
  have B70 : sf_B (-1) (-1) (m60 4) := by rw [em61]; exact B53
  have B71 : sf_B 0 0 (m60 5) := by rw [em61]; exact B54
  have ek72 : (m60 5).toInt = ((m41 5)).toInt := by rw [em61]; rfl
  have B73 : sf_B 0 0 (m60 6) := by rw [em61]; exact sf_k0
  have W75 : rf_W [3, 4, 5, 6, 7, 8, 9, 10, 11, 12, 13] m m60 := by rw [em61]; exact W56.put (by decide)
  refine pm_R_lo pm_M12 (pc_q := 21) rfl rfl rfl ?_
  refine pm_R_get pm_M12 (pc_q := 24) (v := .ref 28) rfl rfl T58.e25 (by decide) (T58.lt (by decide)) rfl rfl ?_
  refine pm_R_op pm_M12 (pc_q := 25) (st_q := [.int 0, .ref 28]) rfl rfl rfl ?_
  refine pm_R_cs pm_M12 (pc_q := 28) (ra := [.int 0, .ref 28]) (rest := []) (ls_q := [.ref 28, .int 0, pm_no, pm_no]) rfl rfl (Or.inl rfl) pm_M13 rfl rfl (Nat.le_of_ble_eq_true rfl) rfl rfl ?_
  refine pm_R_op pm_M13 (pc_q := 1) (st_q := [.int 0]) rfl rfl rfl ?_
  refine pm_R_lo pm_M13 (pc_q := 2) (ls_q := [.ref 28, .int 0, .int 0, pm_no]) (st_q := []) rfl rfl rfl ?_
  refine pm_R_lo pm_M13 (pc_q := 3) rfl rfl rfl ?_
  have e76 := (F62.cell G (by decide) (by decide) (F43.cell G (by decide) (by decide) (F23.cell G (by decide) (by decide) (F9.cell G (by decide) (by decide) e2))))
  refine pm_R_alen pm_M13 (pc_q := 4) (v := 10) rfl e76 (by decide) (T58.lt (by decide)) (by decide) rfl rfl ?_
  refine pm_R_lo pm_M13 (pc_q := 5) (ls_q := [.ref 28, .int 0, .int 0, .int 10]) (st_q := []) rfl rfl rfl ?_
  refine pm_R_lo pm_M13 (pc_q := 6) rfl rfl rfl ?_
  refine pm_R_lo pm_M13 (pc_q := 7) rfl rfl rfl ?_
  refine pm_R_br pm_M13 (pc_q := 10) (st_q := []) rfl rfl ?_
  refine pm_R_lo pm_M13 (pc_q := 11) rfl rfl rfl ?_
  refine pm_R_lo pm_M13 (pc_q := 12) rfl rfl rfl ?_
  refine pm_R_lo pm_M13 (pc_q := 13) rfl rfl rfl ?_
  refine cl_R_ist G pm_M13 T58 (pc_q := 14) rfl e76 (by decide) ⟨_, rfl⟩ rfl rfl (fun h77 T78 F79 e80 => ?_)
  have F81 := F79.cl (ck := ck) T58.1
  have F82 := F63.trans (N := 0) (S := 0) F81 (by decide) (by decide) (by decide)
  refine pm_R_lo pm_M13 (pc_q := 17) (ls_q := [.ref 28, .int 0, .int 1, .int 10]) (st_q := []) rfl rfl rfl ?_
  refine pm_R_br pm_M13 (pc_q := 5) rfl rfl ?_
  refine pm_R_lo pm_M13 (pc_q := 6) rfl rfl rfl ?_
  refine pm_R_lo pm_M13 (pc_q := 7) rfl rfl rfl ?_
  refine pm_R_br pm_M13 (pc_q := 10) (st_q := []) rfl rfl ?_
  refine pm_R_lo pm_M13 (pc_q := 11) rfl rfl rfl ?_
  refine pm_R_lo pm_M13 (pc_q := 12) rfl rfl rfl ?_
  refine pm_R_lo pm_M13 (pc_q := 13) rfl rfl rfl ?_
  refine cl_R_ist G pm_M13 T78 (pc_q := 14) rfl e80 (by decide) ⟨_, rfl⟩ rfl rfl (fun h83 T84 F85 e86 => ?_)
  have F87 := F85.cl (ck := ck) T78.1
  have F88 := F82.trans (N := 0) (S := 0) F87 (by decide) (by decide) (by decide)
  refine pm_R_lo pm_M13 (pc_q := 17) (ls_q := [.ref 28, .int 0, .int 2, .int 10]) (st_q := []) rfl rfl rfl ?_
  refine pm_R_br pm_M13 (pc_q := 5) rfl rfl ?_
  refine pm_R_lo pm_M13 (pc_q := 6) rfl rfl rfl ?_
  refine pm_R_lo pm_M13 (pc_q := 7) rfl rfl rfl ?_
  refine pm_R_br pm_M13 (pc_q := 10) (st_q := []) rfl rfl ?_
  refine pm_R_lo pm_M13 (pc_q := 11) rfl rfl rfl ?_
  refine pm_R_lo pm_M13 (pc_q := 12) rfl rfl rfl ?_
  refine pm_R_lo pm_M13 (pc_q := 13) rfl rfl rfl ?_
  refine cl_R_ist G pm_M13 T84 (pc_q := 14) rfl e86 (by decide) ⟨_, rfl⟩ rfl rfl (fun h89 T90 F91 e92 => ?_)
  have F93 := F91.cl (ck := ck) T84.1
  have F94 := F88.trans (N := 0) (S := 0) F93 (by decide) (by decide) (by decide)
  refine pm_R_lo pm_M13 (pc_q := 17) (ls_q := [.ref 28, .int 0, .int 3, .int 10]) (st_q := []) rfl rfl rfl ?_
  refine pm_R_br pm_M13 (pc_q := 5) rfl rfl ?_
  refine pm_R_lo pm_M13 (pc_q := 6) rfl rfl rfl ?_
  refine pm_R_lo pm_M13 (pc_q := 7) rfl rfl rfl ?_
  refine pm_R_br pm_M13 (pc_q := 10) (st_q := []) rfl rfl ?_
  refine pm_R_lo pm_M13 (pc_q := 11) rfl rfl rfl ?_
  refine pm_R_lo pm_M13 (pc_q := 12) rfl rfl rfl ?_
  refine pm_R_lo pm_M13 (pc_q := 13) rfl rfl rfl ?_
  refine cl_R_ist G pm_M13 T90 (pc_q := 14) rfl e92 (by decide) ⟨_, rfl⟩ rfl rfl (fun h95 T96 F97 e98 => ?_)
  have F99 := F97.cl (ck := ck) T90.1
  have F100 := F94.trans (N := 0) (S := 0) F99 (by decide) (by decide) (by decide)
  refine pm_R_lo pm_M13 (pc_q := 17) (ls_q := [.ref 28, .int 0, .int 4, .int 10]) (st_q := []) rfl rfl rfl ?_
  refine pm_R_br pm_M13 (pc_q := 5) rfl rfl ?_
  refine pm_R_lo pm_M13 (pc_q := 6) rfl rfl rfl ?_
  refine pm_R_lo pm_M13 (pc_q := 7) rfl rfl rfl ?_
  refine pm_R_br pm_M13 (pc_q := 10) (st_q := []) rfl rfl ?_
  refine pm_R_lo pm_M13 (pc_q := 11) rfl rfl rfl ?_
  refine pm_R_lo pm_M13 (pc_q := 12) rfl rfl rfl ?_
  refine pm_R_lo pm_M13 (pc_q := 13) rfl rfl rfl ?_
  refine cl_R_ist G pm_M13 T96 (pc_q := 14) rfl e98 (by decide) ⟨_, rfl⟩ rfl rfl (fun h101 T102 F103 e104 => ?_)
  have F105 := F103.cl (ck := ck) T96.1
  have F106 := F100.trans (N := 0) (S := 0) F105 (by decide) (by decide) (by decide)
  refine pm_R_lo pm_M13 (pc_q := 17) (ls_q := [.ref 28, .int 0, .int 5, .int 10]) (st_q := []) rfl rfl rfl ?_
  refine pm_R_br pm_M13 (pc_q := 5) rfl rfl ?_
  refine pm_R_lo pm_M13 (pc_q := 6) rfl rfl rfl ?_
  refine pm_R_lo pm_M13 (pc_q := 7) rfl rfl rfl ?_
  refine pm_R_br pm_M13 (pc_q := 10) (st_q := []) rfl rfl ?_
  refine pm_R_lo pm_M13 (pc_q := 11) rfl rfl rfl ?_
  refine pm_R_lo pm_M13 (pc_q := 12) rfl rfl rfl ?_
  refine pm_R_lo pm_M13 (pc_q := 13) rfl rfl rfl ?_
  refine cl_R_ist G pm_M13 T102 (pc_q := 14) rfl e104 (by decide) ⟨_, rfl⟩ rfl rfl (fun h107 T108 F109 e110 => ?_)
  have F111 := F109.cl (ck := ck) T102.1
  have F112 := F106.trans (N := 0) (S := 0) F111 (by decide) (by decide) (by decide)
  refine pm_R_lo pm_M13 (pc_q := 17) (ls_q := [.ref 28, .int 0, .int 6, .int 10]) (st_q := []) rfl rfl rfl ?_
  refine pm_R_br pm_M13 (pc_q := 5) rfl rfl ?_
  refine pm_R_lo pm_M13 (pc_q := 6) rfl rfl rfl ?_
  refine pm_R_lo pm_M13 (pc_q := 7) rfl rfl rfl ?_
  refine pm_R_br pm_M13 (pc_q := 10) (st_q := []) rfl rfl ?_
  refine pm_R_lo pm_M13 (pc_q := 11) rfl rfl rfl ?_
  refine pm_R_lo pm_M13 (pc_q := 12) rfl rfl rfl ?_
  refine pm_R_lo pm_M13 (pc_q := 13) rfl rfl rfl ?_
  refine cl_R_ist G pm_M13 T108 (pc_q := 14) rfl e110 (by decide) ⟨_, rfl⟩ rfl rfl (fun h113 T114 F115 e116 => ?_)
  have F117 := F115.cl (ck := ck) T108.1
  have F118 := F112.trans (N := 0) (S := 0) F117 (by decide) (by decide) (by decide)
  refine pm_R_lo pm_M13 (pc_q := 17) (ls_q := [.ref 28, .int 0, .int 7, .int 10]) (st_q := []) rfl rfl rfl ?_
  refine pm_R_br pm_M13 (pc_q := 5) rfl rfl ?_
  refine pm_R_lo pm_M13 (pc_q := 6) rfl rfl rfl ?_
  refine pm_R_lo pm_M13 (pc_q := 7) rfl rfl rfl ?_
  refine pm_R_br pm_M13 (pc_q := 10) (st_q := []) rfl rfl ?_
  refine pm_R_lo pm_M13 (pc_q := 11) rfl rfl rfl ?_
  refine pm_R_lo pm_M13 (pc_q := 12) rfl rfl rfl ?_
  refine pm_R_lo pm_M13 (pc_q := 13) rfl rfl rfl ?_
  refine cl_R_ist G pm_M13 T114 (pc_q := 14) rfl e116 (by decide) ⟨_, rfl⟩ rfl rfl (fun h119 T120 F121 e122 => ?_)
  have F123 := F121.cl (ck := ck) T114.1
  have F124 := F118.trans (N := 0) (S := 0) F123 (by decide) (by decide) (by decide)
  refine pm_R_lo pm_M13 (pc_q := 17) (ls_q := [.ref 28, .int 0, .int 8, .int 10]) (st_q := []) rfl rfl rfl ?_
  refine pm_R_br pm_M13 (pc_q := 5) rfl rfl ?_
  refine pm_R_lo pm_M13 (pc_q := 6) rfl rfl rfl ?_
  refine pm_R_lo pm_M13 (pc_q := 7) rfl rfl rfl ?_
  refine pm_R_br pm_M13 (pc_q := 10) (st_q := []) rfl rfl ?_
  refine pm_R_lo pm_M13 (pc_q := 11) rfl rfl rfl ?_
  refine pm_R_lo pm_M13 (pc_q := 12) rfl rfl rfl ?_
  refine pm_R_lo pm_M13 (pc_q := 13) rfl rfl rfl ?_
  refine cl_R_ist G pm_M13 T120 (pc_q := 14) rfl e122 (by decide) ⟨_, rfl⟩ rfl rfl (fun h125 T126 F127 e128 => ?_)
  have F129 := F127.cl (ck := ck) T120.1
  have F130 := F124.trans (N := 0) (S := 0) F129 (by decide) (by decide) (by decide)
  refine pm_R_lo pm_M13 (pc_q := 17) (ls_q := [.ref 28, .int 0, .int 9, .int 10]) (st_q := []) rfl rfl rfl ?_
  refine pm_R_br pm_M13 (pc_q := 5) rfl rfl ?_
  refine pm_R_lo pm_M13 (pc_q := 6) rfl rfl rfl ?_
  refine pm_R_lo pm_M13 (pc_q := 7) rfl rfl rfl ?_
  refine pm_R_br pm_M13 (pc_q := 10) (st_q := []) rfl rfl ?_
  refine pm_R_lo pm_M13 (pc_q := 11) rfl rfl rfl ?_
  refine pm_R_lo pm_M13 (pc_q := 12) rfl rfl rfl ?_
  refine pm_R_lo pm_M13 (pc_q := 13) rfl rfl rfl ?_
  refine cl_R_ist G pm_M13 T126 (pc_q := 14) rfl e128 (by decide) ⟨_, rfl⟩ rfl rfl (fun h131 T132 F133 e134 => ?_)
  have F135 := F133.cl (ck := ck) T126.1
  have F136 := F130.trans (N := 0) (S := 0) F135 (by decide) (by decide) (by decide)
  refine pm_R_lo pm_M13 (pc_q := 17) (ls_q := [.ref 28, .int 0, .int 10, .int 10]) (st_q := []) rfl rfl rfl ?_
  refine pm_R_br pm_M13 (pc_q := 5) rfl rfl ?_
  refine pm_R_lo pm_M13 (pc_q := 6) rfl rfl rfl ?_
  refine pm_R_lo pm_M13 (pc_q := 7) rfl rfl rfl ?_
  refine pm_R_br pm_M13 (pc_q := 20) (st_q := []) rfl rfl ?_
  refine pm_R_ret pm_M13 (r := none) rfl rfl ?_
  show pm_R _ 12 28 [.ref 25] [] _ _
  refine pm_R_lo pm_M12 (pc_q := 29) rfl rfl rfl ?_
  refine pm_R_op pm_M12 (pc_q := 30) (st_q := [.int 4, .ref 25]) rfl rfl rfl ?_
  refine cl_R_put25 G pm_M12 T132 (k := 7) (pc_q := 33) rfl rfl rfl (by decide) rfl rfl (sf_weak sf_k4 (by decide) (by decide)) rfl rfl rfl rfl rfl (fun h137 m140 em141 T138 F139 => ?_)
  have F142 := F139.cl (ck := ck) T132.1
  have F143 := F136.trans (N := 0) (S := 0) F142 (by decide) (by decide) (by decide)
  have B144 : sf_B 0 0 (m140 3) := by rw [em141]; exact B64
  have ek145 : (m140 3).toInt = ((m7 3)).toInt := by rw [em141]; exact ek65
  have B146 : sf_B (-1) 99 (m140 8) := by rw [em141]; exact B68
  have ek147 : (m140 8).toInt = ((m7 8)).toInt := by rw [em141]; exact ek69
  have B148 : sf_B (-1) (-1) (m140 4) := by rw [em141]; exact B70
  have B149 : sf_B 0 0 (m140 5) := by rw [em141]; exact B71
  have ek150 : (m140 5).toInt = ((m41 5)).toInt := by rw [em141]; exact ek72
  have B151 : sf_B 0 0 (m140 6) := by rw [em141]; exact B73
  have ek152 : (m140 6).toInt = ((m60 6)).toInt := by rw [em141]; rfl
  have B153 : sf_B 4 4 (m140 7) := by rw [em141]; exact sf_k4
  have W155 : rf_W [3, 4, 5, 6, 7, 8, 9, 10, 11, 12, 13] m m140 := by rw [em141]; exact W75.put (by decide)
  refine pm_R_lo pm_M12 (pc_q := 34) rfl rfl rfl ?_
  refine pm_R_op pm_M12 (pc_q := 35) (st_q := [.int (-1), .ref 25]) rfl rfl rfl ?_
  refine cl_R_put25 G pm_M12 T138 (k := 8) (pc_q := 38) rfl rfl rfl (by decide) rfl rfl (sf_weak sf_kn1 (by decide) (by decide)) rfl rfl rfl rfl rfl (fun h156 m159 em160 T157 F158 => ?_)
  have F161 := F158.cl (ck := ck) T138.1
  have F162 := F143.trans (N := 0) (S := 0) F161 (by decide) (by decide) (by decide)
  have B163 : sf_B 0 0 (m159 3) := by rw [em160]; exact B144
  have ek164 : (m159 3).toInt = ((m7 3)).toInt := by rw [em160]; exact ek145
  have B165 : sf_B (-1) (-1) (m159 4) := by rw [em160]; exact B148
  have B166 : sf_B 0 0 (m159 5) := by rw [em160]; exact B149
  have ek167 : (m159 5).toInt = ((m41 5)).toInt := by rw [em160]; exact ek150
  have B168 : sf_B 0 0 (m159 6) := by rw [em160]; exact B151
  have ek169 : (m159 6).toInt = ((m60 6)).toInt := by rw [em160]; exact ek152
  have B170 : sf_B 4 4 (m159 7) := by rw [em160]; exact B153
  have ek171 : (m159 7).toInt = ((m140 7)).toInt := by rw [em160]; rfl
  have B172 : sf_B (-1) (-1) (m159 8) := by rw [em160]; exact sf_kn1
  have W174 : rf_W [3, 4, 5, 6, 7, 8, 9, 10, 11, 12, 13] m m159 := by rw [em160]; exact W155.put (by decide)
  refine pm_R_ret pm_M12 (r := none) rfl rfl ?_
  show pm_R _ 11 4 [.ref 25, .int a0, .int 3, pm_no] [] _ _
  refine pm_R_lo pm_M11 (pc_q := 5) rfl rfl rfl ?_
  refine pm_R_get pm_M11 (pc_q := 8) (v := .ref 30) rfl rfl T157.e25 (by decide) (T157.lt (by decide)) rfl rfl ?_
  refine pm_R_lo pm_M11 (pc_q := 9) rfl rfl rfl ?_
  refine pm_R_cv pm_M11 (pc_q := 12) (a := 30) (ra := [.int a0]) (rest := []) (ls_q := [.ref 30, .int a0]) rfl rfl (Or.inl rfl) pm_M14 T157.e30 rfl (by decide) (T157.lt (by decide)) rfl rfl (Nat.le_of_ble_eq_true rfl) rfl rfl ?_
  refine cl_c14 (d := d + 8) G T157 Ba0 (fun m177 h178 T179 F180 W181 => ?_)
  have F182 := F162.trans (N := 0) (S := 0) F180 (by decide) (by decide) (by decide)
  have B183 : sf_B 0 0 (m177 3) := by rw [W181 3 (by decide)]; exact B163
  have ek184 : (m177 3).toInt = ((m7 3)).toInt := by rw [W181 3 (by decide)]; exact ek164
  have B185 : sf_B (-1) (-1) (m177 4) := by rw [W181 4 (by decide)]; exact B165
  have B186 : sf_B 0 0 (m177 5) := by rw [W181 5 (by decide)]; exact B166
  have ek187 : (m177 5).toInt = ((m41 5)).toInt := by rw [W181 5 (by decide)]; exact ek167
  have B188 : sf_B 0 0 (m177 6) := by rw [W181 6 (by decide)]; exact B168
  have ek189 : (m177 6).toInt = ((m60 6)).toInt := by rw [W181 6 (by decide)]; exact ek169
  have B190 : sf_B 4 4 (m177 7) := by rw [W181 7 (by decide)]; exact B170
  have ek191 : (m177 7).toInt = ((m140 7)).toInt := by rw [W181 7 (by decide)]; exact ek171
  have B192 : sf_B (-1) (-1) (m177 8) := by rw [W181 8 (by decide)]; exact B172
  have ek193 : (m177 8).toInt = ((m159 8)).toInt := by rw [W181 8 (by decide)]
  have W194 : rf_W [3, 4, 5, 6, 7, 8, 9, 10, 11, 12, 13] m m177 := W174.trans W181 (by decide)
  show pm_R _ 11 12 [.ref 25, .int a0, .int 3, pm_no] [] _ _
  refine pm_R_lo pm_M11 (pc_q := 13) rfl rfl rfl ?_
  refine pm_R_op pm_M11 (pc_q := 14) (st_q := [.int 1, .int 3]) rfl rfl rfl ?_
  refine pm_R_br pm_M11 (pc_q := 24) (st_q := []) rfl rfl ?_
  refine pm_R_lo pm_M11 (pc_q := 25) rfl rfl rfl ?_
  refine pm_R_lo pm_M11 (pc_q := 26) rfl rfl rfl ?_
  refine pm_R_cv pm_M11 (pc_q := 29) (a := 25) (ra := [.int 3]) (rest := []) (ls_q := [.ref 25, .int 3, pm_no]) rfl rfl (Or.inl rfl) pm_M22 T179.e25 rfl (by decide) (T179.lt (by decide)) rfl rfl (Nat.le_of_ble_eq_true rfl) rfl rfl ?_
  obtain ⟨f195, e196⟩ := T179.C 26 (by decide) (by decide)
  obtain ⟨f198, e199⟩ := T179.C 27 (by decide) (by decide)
  have e201 := (F180.cell G (by decide) (by decide) (F161.cell G (by decide) (by decide) (F142.cell G (by decide) (by decide) e134)))
  refine cl_c22_3 (d := d + 0) G T179 (fun _ => ⟨_, _, e196, e199, cl_RF.start (cl_aux83 _ B186.1 B186.2) (cl_aux83 _ B188.1 B188.2) (cl_aux84 _ B190.1 B190.2)⟩) ⟨_, e201, (sf_upd (sf_upd (sf_upd (sf_upd (sf_upd (sf_upd (sf_upd (sf_upd (sf_upd (sf_upd b3 (sf_weak sf_k0 (by decide) (by decide)) _) (sf_weak sf_k0 (by decide) (by decide)) _) (sf_weak sf_k0 (by decide) (by decide)) _) (sf_weak sf_k0 (by decide) (by decide)) _) (sf_weak sf_k0 (by decide) (by decide)) _) (sf_weak sf_k0 (by decide) (by decide)) _) (sf_weak sf_k0 (by decide) (by decide)) _) (sf_weak sf_k0 (by decide) (by decide)) _) (sf_weak sf_k0 (by decide) (by decide)) _) (sf_weak sf_k0 (by decide) (by decide)) _)⟩ (fun r202 m204 h205 T206 F207 W208 X209 X210 B203 => ?_)
  have F211 := F182.trans (N := 0) (S := 0) F207 (by decide) (by decide) (by decide)
  have W212 : rf_W [3, 4, 5, 6, 7, 8, 9, 10, 11, 12, 13] m m204 := W194.trans W208 (by decide)
  have B213 : sf_B 0 4 (m204 3) := T206.B 3
  have B214 : sf_B 0 50 (m204 5) := T206.B 5
  have B215 : sf_B 0 16 (m204 6) := T206.B 6
  have B216 : sf_B 0 99 (m204 7) := T206.B 7
  have B217 : sf_B (-1) 99 (m204 8) := T206.B 8
  show pm_R _ 11 29 [.ref 25, .int a0, .int 3, pm_no] [.int r202] _ _
  obtain ⟨f218, e219, b220⟩ := id X210
  obtain ⟨f221, e222⟩ := T206.C 26 (by decide) (by decide)
  have e224 := (F207.cell G (by decide) (by decide) e199)
  refine pm_R_lo pm_M11 (pc_q := 30) (ls_q := [.ref 25, .int a0, .int 3, .int r202]) (st_q := []) rfl rfl rfl ?_
  refine pm_R_lo pm_M11 (pc_q := 31) rfl rfl rfl ?_
  refine pm_R_ifc pm_M11 (t := 53) (pc_q := 34) rfl rfl rfl (fun c225 => ?_) (fun c225 => ?_)
  · have B226 : sf_B 1 1 r202 := sf_neL0 c225 sf_k0 B203
    refine pm_R_lo pm_M11 (pc_q := 54) rfl rfl rfl ?_
    refine pm_R_op pm_M11 (pc_q := 55) (st_q := [.int 1, .int 3]) rfl rfl rfl ?_
    refine pm_R_br pm_M11 (pc_q := 65) (st_q := []) rfl rfl ?_
    refine pm_R_lo pm_M11 (pc_q := 66) rfl rfl rfl ?_
    refine pm_R_op pm_M11 (pc_q := 67) (st_q := [.int 2, .int 3]) rfl rfl rfl ?_
    refine pm_R_br pm_M11 (pc_q := 87) (st_q := []) rfl rfl ?_
    exact pm_R_ret pm_M11 (r := none) rfl rfl (K m204 h205 T206 F211 W212 (fun z => ⟨_, _, e222, e224, (X209.at (cl_aux67 _ z) e222 e224).keep rfl rfl rfl rfl⟩) ⟨_, e219, b220⟩)
  · have B227 : sf_B 0 0 r202 := sf_eqL (Classical.not_not.mp c225) sf_k0
    refine pm_R_lo pm_M11 (pc_q := 35) rfl rfl rfl ?_
    refine pm_R_op pm_M11 (pc_q := 36) (st_q := [.int 1, .ref 25]) rfl rfl rfl ?_
    refine cl_R_put25 G pm_M11 T206 (k := 3) (pc_q := 39) rfl rfl rfl (by decide) rfl rfl (sf_weak sf_k1 (by decide) (by decide)) rfl rfl rfl rfl rfl (fun h228 m231 em232 T229 F230 => ?_)
    have F233 := F230.cl (ck := ck) T206.1
    have F234 := F211.trans (N := 0) (S := 0) F233 (by decide) (by decide) (by decide)
    have B235 : sf_B 0 50 (m231 5) := by rw [em232]; exact B214
    have ek236 : (m231 5).toInt = ((m204 5)).toInt := by rw [em232]; rfl
    have B237 : sf_B 0 16 (m231 6) := by rw [em232]; exact B215
    have ek238 : (m231 6).toInt = ((m204 6)).toInt := by rw [em232]; rfl
    have B239 : sf_B 0 99 (m231 7) := by rw [em232]; exact B216
    have ek240 : (m231 7).toInt = ((m204 7)).toInt := by rw [em232]; rfl
    have B241 : sf_B (-1) 99 (m231 8) := by rw [em232]; exact B217
    have ek242 : (m231 8).toInt = ((m204 8)).toInt := by rw [em232]; rfl
    have B243 : sf_B 1 1 (m231 3) := by rw [em232]; exact sf_k1
    have W245 : rf_W [3, 4, 5, 6, 7, 8, 9, 10, 11, 12, 13] m m231 := by rw [em232]; exact W212.put (by decide)
    refine pm_R_lo pm_M11 (pc_q := 40) rfl rfl rfl ?_
    refine pm_R_lo pm_M11 (pc_q := 41) rfl rfl rfl ?_
    refine pm_R_get pm_M11 (pc_q := 44) (v := .ref 30) rfl rfl T229.e25 (by decide) (T229.lt (by decide)) rfl rfl ?_
    have B246 : sf_B 0 600 (m231 11) := T229.B 11
    refine pm_R_get pm_M11 (pc_q := 47) (v := .int (m231 11)) rfl rfl T229.e30 (by decide) (T229.lt (by decide)) rfl rfl ?_
    refine cl_R_put25 G pm_M11 T229 (k := 4) (pc_q := 50) rfl rfl rfl (by decide) rfl rfl (sf_weak B246 (by decide) (by decide)) rfl rfl rfl rfl rfl (fun h247 m250 em251 T248 F249 => ?_)
    have F252 := F249.cl (ck := ck) T229.1
    have F253 := F234.trans (N := 0) (S := 0) F252 (by decide) (by decide) (by decide)
    have B254 : sf_B 0 50 (m250 5) := by rw [em251]; exact B235
    have ek255 : (m250 5).toInt = ((m204 5)).toInt := by rw [em251]; exact ek236
    have B256 : sf_B 0 16 (m250 6) := by rw [em251]; exact B237
    have ek257 : (m250 6).toInt = ((m204 6)).toInt := by rw [em251]; exact ek238
    have B258 : sf_B 0 99 (m250 7) := by rw [em251]; exact B239
    have ek259 : (m250 7).toInt = ((m204 7)).toInt := by rw [em251]; exact ek240
    have B260 : sf_B (-1) 99 (m250 8) := by rw [em251]; exact B241
    have ek261 : (m250 8).toInt = ((m204 8)).toInt := by rw [em251]; exact ek242
    have B262 : sf_B 1 1 (m250 3) := by rw [em251]; exact B243
    have ek263 : (m250 3).toInt = ((m231 3)).toInt := by rw [em251]; rfl
    have B264 : sf_B 0 600 (m250 4) := by rw [em251]; exact B246
    have ek265 : (m250 4).toInt = ((m231 11)).toInt := by rw [em251]; rfl
    have W266 : rf_W [3, 4, 5, 6, 7, 8, 9, 10, 11, 12, 13] m m250 := by rw [em251]; exact W245.put (by decide)
    refine pm_R_br pm_M11 (pc_q := 87) rfl rfl ?_
    have e267 := (F252.cell G (by decide) (by decide) (F233.cell G (by decide) (by decide) e222))
    have e268 := (F252.cell G (by decide) (by decide) (F233.cell G (by decide) (by decide) e219))
    exact pm_R_ret pm_M11 (r := none) rfl rfl (K m250 h247 T248 F253 W266 (fun z => sf_pos B262 (by decide) z) ⟨_, e268, b220⟩)
