set_option maxRecDepth 100000 in
set_option maxHeartbeats 4000000 in
/-- SilentTable$TextReader.noteNumber -/
theorem cl_c39_12_0 {d : Nat} {ck : cl_K} {E : Nat → pm_E} {m : Nat → Int32} {o : Nat → Option Nat} {h : pm_H} {Q : Option Value → pm_H → Prop}  (G : cl_G ck E) (T : cl_T ck E m o h)  (K : ∀ (m_q : Nat → Int32) (h_q : pm_H), cl_T ck E m_q o h_q → cl_F ck [25] 0 0 h h_q → rf_W [3, 4] m m_q → (∀ g : Nat → Int32, h.2.2 29 = .inl (0, 4, .inl g) → (m_q 3).toInt = 0 → (m 3).toInt = 0 ∧ True ∧ (g (Int32.toNatClampNeg 0)).toInt ≤ 9) → Q none h_q) : pm_R (d + 1) 39 0 [.ref 25, .int 12, .int 0, pm_no, pm_no, pm_no] [] h Q := by
  have B1 : sf_B 0 4 (m 3) := T.B 3
  obtain ⟨f2, e3⟩ := T.C 29 (by decide) (by decide)
  refine pm_R_lo pm_M39 (pc_q := 1) rfl rfl rfl ?_
  refine pm_R_get pm_M39 (pc_q := 4) (v := .ref 29) rfl rfl T.e25 (by decide) (T.lt (by decide)) rfl rfl ?_
  refine pm_R_lo pm_M39 (pc_q := 5) rfl rfl rfl ?_
  obtain ⟨z5, ez6⟩ : ∃ y, f2 (Int32.toNatClampNeg 0) = y := ⟨_, rfl⟩
  refine pm_R_iald pm_M39 (pc_q := 6) (v := z5) rfl e3 (T.lt (by decide)) rfl ez6 rfl ?_
  refine pm_R_stat pm_M39 (pc_q := 9) rfl rfl rfl ?_
  refine pm_R_lo pm_M39 (pc_q := 10) rfl rfl rfl ?_
  refine pm_R_op pm_M39 (pc_q := 11) (st_q := [.int 3, .int 12, .ref 3, .int z5]) rfl rfl rfl ?_
  refine pm_R_op pm_M39 (pc_q := 12) (st_q := [.int 36, .ref 3, .int z5]) rfl rfl rfl ?_
  refine pm_R_lo pm_M39 (pc_q := 13) rfl rfl rfl ?_
  refine pm_R_op pm_M39 (pc_q := 14) (st_q := [.int 36, .ref 3, .int z5]) rfl rfl rfl ?_
  refine pm_R_iald pm_M39 (pc_q := 15) (v := 9) rfl ((T.old (by decide)).trans G.tb3) (T.lt (by decide)) rfl rfl rfl ?_
  refine pm_R_icmp pm_M39 (t := 22) (pc_q := 18) rfl rfl rfl (fun c11 => ?_) (fun c11 => ?_)
  · have B12 : sf_B (-2147483648) 9 z5 := sf_leL c11 (sf_any z5) sf_k9
    refine pm_R_op pm_M39 (pc_q := 23) (st_q := [.int 0]) rfl rfl rfl ?_
    refine pm_R_lo pm_M39 (pc_q := 24) (ls_q := [.ref 25, .int 12, .int 0, .int 0, pm_no, pm_no]) (st_q := []) rfl rfl rfl ?_
    refine pm_R_lo pm_M39 (pc_q := 25) rfl rfl rfl ?_
    refine pm_R_op pm_M39 (pc_q := 26) (st_q := [.int 3, .int 12]) rfl rfl rfl ?_
    refine pm_R_br pm_M39 (pc_q := 43) (st_q := []) rfl rfl ?_
    refine pm_R_op pm_M39 (pc_q := 44) (st_q := [.int 0]) rfl rfl rfl ?_
    refine pm_R_lo pm_M39 (pc_q := 46) (ls_q := [.ref 25, .int 12, .int 0, .int 0, .int 0, pm_no]) (st_q := []) rfl rfl rfl ?_
    refine pm_R_lo pm_M39 (pc_q := 47) rfl rfl rfl ?_
    refine pm_R_op pm_M39 (pc_q := 48) (st_q := [.int 2, .int 12]) rfl rfl rfl ?_
    refine pm_R_br pm_M39 (pc_q := 51) (st_q := []) rfl rfl ?_
    refine pm_R_lo pm_M39 (pc_q := 52) rfl rfl rfl ?_
    refine pm_R_op pm_M39 (pc_q := 53) (st_q := [.int 4, .int 12]) rfl rfl rfl ?_
    refine pm_R_br pm_M39 (pc_q := 80) (st_q := []) rfl rfl ?_
    refine pm_R_op pm_M39 (pc_q := 81) (st_q := [.int 0]) rfl rfl rfl ?_
    refine pm_R_lo pm_M39 (pc_q := 83) (ls_q := [.ref 25, .int 12, .int 0, .int 0, .int 0, .int 0]) (st_q := []) rfl rfl rfl ?_
    refine pm_R_lo pm_M39 (pc_q := 84) rfl rfl rfl ?_
    refine pm_R_br pm_M39 (pc_q := 87) (st_q := []) rfl rfl ?_
    refine pm_R_lo pm_M39 (pc_q := 89) rfl rfl rfl ?_
    refine pm_R_br pm_M39 (pc_q := 92) (st_q := []) rfl rfl ?_
    refine pm_R_lo pm_M39 (pc_q := 94) rfl rfl rfl ?_
    refine pm_R_br pm_M39 (pc_q := 109) (st_q := []) rfl rfl ?_
    exact pm_R_ret pm_M39 (r := none) (pm_q39_1 (Nat.le_of_ble_eq_true rfl)) rfl (K m h T (cl_F.refl (ck := ck) (A := [25]) (n := 0) (s := 0) T.1) (rf_W.refl [3, 4] m) (fun g eg z => by rw [e3] at eg; cases eg; exact ⟨z, trivial, by rw [ez6]; exact (cl_aux63 _ (Int32.le_iff_toInt_le.mp c11))⟩))
  · have B13 : sf_B 10 2147483647 z5 := sf_ltR (Int32.not_le.mp c11) sf_k9 (sf_any z5)
    refine pm_R_op pm_M39 (pc_q := 19) (st_q := [.int 1]) rfl rfl rfl ?_
    refine pm_R_br pm_M39 (pc_q := 23) rfl rfl ?_
    refine pm_R_lo pm_M39 (pc_q := 24) (ls_q := [.ref 25, .int 12, .int 0, .int 1, pm_no, pm_no]) (st_q := []) rfl rfl rfl ?_
    refine pm_R_lo pm_M39 (pc_q := 25) rfl rfl rfl ?_
    refine pm_R_op pm_M39 (pc_q := 26) (st_q := [.int 3, .int 12]) rfl rfl rfl ?_
    refine pm_R_br pm_M39 (pc_q := 43) (st_q := []) rfl rfl ?_
    refine pm_R_op pm_M39 (pc_q := 44) (st_q := [.int 0]) rfl rfl rfl ?_
    refine pm_R_lo pm_M39 (pc_q := 46) (ls_q := [.ref 25, .int 12, .int 0, .int 1, .int 0, pm_no]) (st_q := []) rfl rfl rfl ?_
    refine pm_R_lo pm_M39 (pc_q := 47) rfl rfl rfl ?_
    refine pm_R_op pm_M39 (pc_q := 48) (st_q := [.int 2, .int 12]) rfl rfl rfl ?_
    refine pm_R_br pm_M39 (pc_q := 51) (st_q := []) rfl rfl ?_
    refine pm_R_lo pm_M39 (pc_q := 52) rfl rfl rfl ?_
    refine pm_R_op pm_M39 (pc_q := 53) (st_q := [.int 4, .int 12]) rfl rfl rfl ?_
    refine pm_R_br pm_M39 (pc_q := 80) (st_q := []) rfl rfl ?_
    refine pm_R_op pm_M39 (pc_q := 81) (st_q := [.int 0]) rfl rfl rfl ?_
    refine pm_R_lo pm_M39 (pc_q := 83) (ls_q := [.ref 25, .int 12, .int 0, .int 1, .int 0, .int 0]) (st_q := []) rfl rfl rfl ?_
    refine pm_R_lo pm_M39 (pc_q := 84) rfl rfl rfl ?_
    refine pm_R_br pm_M39 (pc_q := 97) (st_q := []) rfl rfl ?_
    refine pm_R_lo pm_M39 (pc_q := 98) rfl rfl rfl ?_
    refine pm_R_op pm_M39 (pc_q := 99) (st_q := [.int 2, .ref 25]) rfl rfl rfl ?_
    refine pm_R_lo pm_M39 (pc_q := 100) rfl rfl rfl ?_
    refine pm_R_get pm_M39 (pc_q := 103) (v := .ref 30) (pm_q39_1 (Nat.le_of_ble_eq_true rfl)) rfl T.e25 (by decide) (T.lt (by decide)) rfl rfl ?_
    have B14 : sf_B 0 600 (m 11) := T.B 11
    refine pm_R_get pm_M39 (pc_q := 106) (v := .int (m 11)) (pm_q39_1 (Nat.le_of_ble_eq_true rfl)) rfl T.e30 (by decide) (T.lt (by decide)) rfl rfl ?_
    refine pm_R_cv pm_M39 (pc_q := 109) (a := 25) (ra := [.int (m 11), .int 2]) (rest := []) (ls_q := [.ref 25, .int 2, .int (m 11)]) (pm_q39_1 (Nat.le_of_ble_eq_true rfl)) rfl (Or.inl rfl) pm_M21 T.e25 rfl (by decide) (T.lt (by decide)) rfl rfl (Nat.le_of_ble_eq_true rfl) rfl rfl ?_
    refine pm_R_lo pm_M21 (pc_q := 1) rfl rfl rfl ?_
    refine pm_R_get pm_M21 (pc_q := 4) (v := .int (m 3)) rfl rfl T.e25 (by decide) (T.lt (by decide)) rfl rfl ?_
    refine pm_R_ifc pm_M21 (t := 17) (pc_q := 7) rfl rfl rfl (fun c15 => ?_) (fun c15 => ?_)
    · have B16 : sf_B 1 4 (m 3) := sf_neL0 c15 sf_k0 B1
      refine pm_R_ret pm_M21 (r := none) rfl rfl ?_
      show pm_R _ 39 109 [.ref 25, .int 12, .int 0, .int 1, .int 0, .int 0] [] _ _
      exact pm_R_ret pm_M39 (r := none) (pm_q39_1 (Nat.le_of_ble_eq_true rfl)) rfl (K m h T (cl_F.refl (ck := ck) (A := [25]) (n := 0) (s := 0) T.1) (rf_W.refl [3, 4] m) (fun g eg z => sf_pos B16 (by decide) z))
    · have B17 : sf_B 0 0 (m 3) := sf_eqL (Classical.not_not.mp c15) sf_k0
      refine pm_R_lo pm_M21 (pc_q := 8) rfl rfl rfl ?_
      refine pm_R_lo pm_M21 (pc_q := 9) rfl rfl rfl ?_
      refine cl_R_put25 G pm_M21 T (k := 3) (pc_q := 12) rfl rfl rfl (by decide) rfl rfl (sf_weak sf_k2 (by decide) (by decide)) rfl rfl rfl rfl rfl (fun h18 m21 em22 T19 F20 => ?_)
      have F23 := F20.cl (ck := ck) T.1
      have F24 := (cl_F.refl (ck := ck) (A := [25]) (n := 0) (s := 0) T.1).trans (N := 0) (S := 0) F23 (by decide) (by decide) (by decide)
      have B25 : sf_B 2 2 (m21 3) := by rw [em22]; exact sf_k2
      have W27 : rf_W [3, 4] m m21 := by rw [em22]; exact (rf_W.refl [3, 4] m).put (by decide)
      refine pm_R_lo pm_M21 (pc_q := 13) rfl rfl rfl ?_
      refine pm_R_lo pm_M21 (pc_q := 14) rfl rfl rfl ?_
      refine cl_R_put25 G pm_M21 T19 (k := 4) (pc_q := 17) rfl rfl rfl (by decide) rfl rfl (sf_weak B14 (by decide) (by decide)) rfl rfl rfl rfl rfl (fun h28 m31 em32 T29 F30 => ?_)
      have F33 := F30.cl (ck := ck) T19.1
      have F34 := F24.trans (N := 0) (S := 0) F33 (by decide) (by decide) (by decide)
      have B35 : sf_B 2 2 (m31 3) := by rw [em32]; exact B25
      have ek36 : (m31 3).toInt = ((m21 3)).toInt := by rw [em32]; rfl
      have B37 : sf_B 0 600 (m31 4) := by rw [em32]; exact B14
      have ek38 : (m31 4).toInt = ((m 11)).toInt := by rw [em32]; rfl
      have W39 : rf_W [3, 4] m m31 := by rw [em32]; exact W27.put (by decide)
      refine pm_R_ret pm_M21 (r := none) rfl rfl ?_
      show pm_R _ 39 109 [.ref 25, .int 12, .int 0, .int 1, .int 0, .int 0] [] _ _
      exact pm_R_ret pm_M39 (r := none) (pm_q39_1 (Nat.le_of_ble_eq_true rfl)) rfl (K m31 h28 T29 F34 W39 (fun g eg z => sf_pos B35 (by decide) z))

theorem cl_aux67 (v0 : Int) (q0 : v0 = 0) : v0 = 0 := by omega
theorem cl_aux68 (v0 v1 : Int) (q0 : v0 = v1) (q1 : v0 = 0) : v1 = 0 := by omega
theorem cl_aux69 (v0 v1 : Int) (q0 : v0 = v1) (q1 : v1 < 10) : v0 ≤ 9 := by omega
theorem cl_aux70 (v0 v1 : Int) (q0 : v0 = v1) : v1 = v0 := by omega
theorem cl_aux71 (v0 v1 v2 : Int) (q0 : v0 = v1 + 1) (q1 : v2 = v0) (q2 : 0 ≤ v1) (q3 : v1 ≤ 9) (q4 : 1 ≤ v2) (q5 : v2 ≤ 10) : v1 < 10 := by omega
theorem cl_aux72 (v0 v1 v2 : Int) (q0 : v0 = v1 * 4) (q1 : v2 = v0 + 0) : v2 = 4 * v1 := by omega
set_option maxRecDepth 100000 in
set_option maxHeartbeats 4000000 in
/-- SilentTable$TextReader.readLine -/
theorem cl_c37_0 {d : Nat} {ck : cl_K} {E : Nat → pm_E} {m : Nat → Int32} {o : Nat → Option Nat} {h : pm_H} {Q : Option Value → pm_H → Prop}  (G : cl_G ck E) (T : cl_T ck E m o h) (R : cl_Rd 0 m h) (Y : cl_Y h) (K : ∀ (r : Int32) (m_q : Nat → Int32) (h_q : pm_H), cl_T ck E m_q o h_q → cl_F ck [25, 26, 29, 30] 0 0 h h_q → rf_W [3, 4, 5, 6, 7, 8, 10, 11, 12, 13] m m_q → cl_Rd 0 m_q h_q → cl_Y h_q → sf_B 0 1 r → Q (some (.int r)) h_q) : pm_R (d + 7) 37 0 [.ref 25, .int 0, pm_no] [] h Q := by
  obtain ⟨f1, e2, b3⟩ := Y
  obtain ⟨f4, e5⟩ := T.C 26 (by decide) (by decide)
  obtain ⟨f7, e8⟩ := T.C 27 (by decide) (by decide)
  have B10 : sf_B 0 4 (m 3) := T.B 3
  have B11 : sf_B 0 50 (m 5) := T.B 5
  have B12 : sf_B 0 16 (m 6) := T.B 6
  have B13 : sf_B 0 99 (m 7) := T.B 7
  have B14 : sf_B (-1) 99 (m 8) := T.B 8
  refine pm_R_lo pm_M37 (pc_q := 1) rfl rfl rfl ?_
  refine pm_R_op pm_M37 (pc_q := 2) (st_q := [.int (-1), .int 0]) rfl rfl rfl ?_
  refine pm_R_br pm_M37 (pc_q := 7) (st_q := []) rfl rfl ?_
  refine pm_R_lo pm_M37 (pc_q := 8) rfl rfl rfl ?_
  refine pm_R_lo pm_M37 (pc_q := 9) rfl rfl rfl ?_
  refine pm_R_cv pm_M37 (pc_q := 12) (a := 25) (ra := [.int 0]) (rest := []) (ls_q := [.ref 25, .int 0, pm_no, pm_no]) rfl rfl (Or.inl rfl) pm_M38 T.e25 rfl (by decide) (T.lt (by decide)) rfl rfl (Nat.le_of_ble_eq_true rfl) rfl rfl ?_
  refine cl_c38_0 (d := d + 5) G T  (fun m17 h18 T19 F20 W21 X22 => ?_)
  have F23 := (cl_F.refl (ck := ck) (A := [25, 26, 29, 30]) (n := 0) (s := 0) T.1).trans (N := 0) (S := 0) F20 (by decide) (by decide) (by decide)
  have B24 : sf_B 0 50 (m17 5) := by rw [W21 5 (by decide)]; exact B11
  have ek25 : (m17 5).toInt = ((m 5)).toInt := by rw [W21 5 (by decide)]
  have B26 : sf_B 0 16 (m17 6) := by rw [W21 6 (by decide)]; exact B12
  have ek27 : (m17 6).toInt = ((m 6)).toInt := by rw [W21 6 (by decide)]
  have B28 : sf_B 0 99 (m17 7) := by rw [W21 7 (by decide)]; exact B13
  have ek29 : (m17 7).toInt = ((m 7)).toInt := by rw [W21 7 (by decide)]
  have B30 : sf_B (-1) 99 (m17 8) := by rw [W21 8 (by decide)]; exact B14
  have ek31 : (m17 8).toInt = ((m 8)).toInt := by rw [W21 8 (by decide)]
  have W32 : rf_W [3, 4, 5, 6, 7, 8, 10, 11, 12, 13] m m17 := (rf_W.refl [3, 4, 5, 6, 7, 8, 10, 11, 12, 13] m).trans W21 (by decide)
  have B33 : sf_B 0 4 (m17 3) := T19.B 3
  show pm_R _ 37 12 [.ref 25, .int 0, pm_no] [] _ _
  refine pm_R_lo pm_M37 (pc_q := 13) rfl rfl rfl ?_
  refine pm_R_get pm_M37 (pc_q := 16) (v := .ref 29) rfl rfl T19.e25 (by decide) (T19.lt (by decide)) rfl rfl ?_
  refine pm_R_op pm_M37 (pc_q := 17) (st_q := [.int (-1), .ref 29]) rfl rfl rfl ?_
  refine pm_R_cs pm_M37 (pc_q := 20) (ra := [.int (-1), .ref 29]) (rest := []) (ls_q := [.ref 29, .int (-1), pm_no, pm_no]) rfl rfl (Or.inl rfl) pm_M13 rfl rfl (Nat.le_of_ble_eq_true rfl) rfl rfl ?_
  refine pm_R_op pm_M13 (pc_q := 1) (st_q := [.int 0]) rfl rfl rfl ?_
  refine pm_R_lo pm_M13 (pc_q := 2) (ls_q := [.ref 29, .int (-1), .int 0, pm_no]) (st_q := []) rfl rfl rfl ?_
  refine pm_R_lo pm_M13 (pc_q := 3) rfl rfl rfl ?_
  obtain ⟨f34, e35⟩ := T19.C 29 (by decide) (by decide)
  refine pm_R_alen pm_M13 (pc_q := 4) (v := 4) rfl e35 (by decide) (T19.lt (by decide)) (by decide) rfl rfl ?_
  refine pm_R_lo pm_M13 (pc_q := 5) (ls_q := [.ref 29, .int (-1), .int 0, .int 4]) (st_q := []) rfl rfl rfl ?_
  refine pm_R_lo pm_M13 (pc_q := 6) rfl rfl rfl ?_
  refine pm_R_lo pm_M13 (pc_q := 7) rfl rfl rfl ?_
  refine pm_R_br pm_M13 (pc_q := 10) (st_q := []) rfl rfl ?_
  refine pm_R_lo pm_M13 (pc_q := 11) rfl rfl rfl ?_
  refine pm_R_lo pm_M13 (pc_q := 12) rfl rfl rfl ?_
  refine pm_R_lo pm_M13 (pc_q := 13) rfl rfl rfl ?_
  refine cl_R_ist G pm_M13 T19 (pc_q := 14) rfl e35 (by decide) ⟨_, rfl⟩ rfl rfl (fun h37 T38 F39 e40 => ?_)
  have F41 := F39.cl (ck := ck) T19.1
  have F42 := F23.trans (N := 0) (S := 0) F41 (by decide) (by decide) (by decide)
  refine pm_R_lo pm_M13 (pc_q := 17) (ls_q := [.ref 29, .int (-1), .int 1, .int 4]) (st_q := []) rfl rfl rfl ?_
  refine pm_R_br pm_M13 (pc_q := 5) rfl rfl ?_
  refine pm_R_lo pm_M13 (pc_q := 6) rfl rfl rfl ?_
  refine pm_R_lo pm_M13 (pc_q := 7) rfl rfl rfl ?_
  refine pm_R_br pm_M13 (pc_q := 10) (st_q := []) rfl rfl ?_
  refine pm_R_lo pm_M13 (pc_q := 11) rfl rfl rfl ?_
  refine pm_R_lo pm_M13 (pc_q := 12) rfl rfl rfl ?_
  refine pm_R_lo pm_M13 (pc_q := 13) rfl rfl rfl ?_
  refine cl_R_ist G pm_M13 T38 (pc_q := 14) rfl e40 (by decide) ⟨_, rfl⟩ rfl rfl (fun h43 T44 F45 e46 => ?_)
  have F47 := F45.cl (ck := ck) T38.1
  have F48 := F42.trans (N := 0) (S := 0) F47 (by decide) (by decide) (by decide)
  refine pm_R_lo pm_M13 (pc_q := 17) (ls_q := [.ref 29, .int (-1), .int 2, .int 4]) (st_q := []) rfl rfl rfl ?_
  refine pm_R_br pm_M13 (pc_q := 5) rfl rfl ?_
  refine pm_R_lo pm_M13 (pc_q := 6) rfl rfl rfl ?_
  refine pm_R_lo pm_M13 (pc_q := 7) rfl rfl rfl ?_
  refine pm_R_br pm_M13 (pc_q := 10) (st_q := []) rfl rfl ?_
  refine pm_R_lo pm_M13 (pc_q := 11) rfl rfl rfl ?_
  refine pm_R_lo pm_M13 (pc_q := 12) rfl rfl rfl ?_
  refine pm_R_lo pm_M13 (pc_q := 13) rfl rfl rfl ?_
  refine cl_R_ist G pm_M13 T44 (pc_q := 14) rfl e46 (by decide) ⟨_, rfl⟩ rfl rfl (fun h49 T50 F51 e52 => ?_)
  have F53 := F51.cl (ck := ck) T44.1
  have F54 := F48.trans (N := 0) (S := 0) F53 (by decide) (by decide) (by decide)
  refine pm_R_lo pm_M13 (pc_q := 17) (ls_q := [.ref 29, .int (-1), .int 3, .int 4]) (st_q := []) rfl rfl rfl ?_
  refine pm_R_br pm_M13 (pc_q := 5) rfl rfl ?_
  refine pm_R_lo pm_M13 (pc_q := 6) rfl rfl rfl ?_
  refine pm_R_lo pm_M13 (pc_q := 7) rfl rfl rfl ?_
  refine pm_R_br pm_M13 (pc_q := 10) (st_q := []) rfl rfl ?_
  refine pm_R_lo pm_M13 (pc_q := 11) rfl rfl rfl ?_
  refine pm_R_lo pm_M13 (pc_q := 12) rfl rfl rfl ?_
  refine pm_R_lo pm_M13 (pc_q := 13) rfl rfl rfl ?_
  refine cl_R_ist G pm_M13 T50 (pc_q := 14) rfl e52 (by decide) ⟨_, rfl⟩ rfl rfl (fun h55 T56 F57 e58 => ?_)
  have F59 := F57.cl (ck := ck) T50.1
  have F60 := F54.trans (N := 0) (S := 0) F59 (by decide) (by decide) (by decide)
  refine pm_R_lo pm_M13 (pc_q := 17) (ls_q := [.ref 29, .int (-1), .int 4, .int 4]) (st_q := []) rfl rfl rfl ?_
  refine pm_R_br pm_M13 (pc_q := 5) rfl rfl ?_
  refine pm_R_lo pm_M13 (pc_q := 6) rfl rfl rfl ?_
  refine pm_R_lo pm_M13 (pc_q := 7) rfl rfl rfl ?_
  refine pm_R_br pm_M13 (pc_q := 20) (st_q := []) rfl rfl ?_
  refine pm_R_ret pm_M13 (r := none) rfl rfl ?_
  show pm_R _ 37 20 [.ref 25, .int 0, pm_no] [] _ _
  refine pm_R_op pm_M37 (pc_q := 21) (st_q := [.int 0]) rfl rfl rfl ?_
  refine pm_R_lo pm_M37 (pc_q := 22) (ls_q := [.ref 25, .int 0, .int 0]) (st_q := []) rfl rfl rfl ?_
  refine pm_R_lo pm_M37 (pc_q := 23) rfl rfl rfl ?_
  refine pm_R_stat pm_M37 (pc_q := 26) rfl rfl rfl ?_
  refine pm_R_lo pm_M37 (pc_q := 27) rfl rfl rfl ?_
  refine pm_R_iald pm_M37 (pc_q := 28) (v := 3) rfl ((T56.old (by decide)).trans G.tb2) (T56.lt (by decide)) rfl rfl rfl ?_
  refine pm_R_br pm_M37 (pc_q := 31) (st_q := []) rfl rfl ?_
  refine pm_R_lo pm_M37 (pc_q := 32) rfl rfl rfl ?_
  refine pm_R_get pm_M37 (pc_q := 35) (v := .ref 30) rfl rfl T56.e25 (by decide) (T56.lt (by decide)) rfl rfl ?_
  refine pm_R_cv pm_M37 (pc_q := 38) (a := 30) (ra := []) (rest := []) (ls_q := [.ref 30]) rfl rfl (Or.inl rfl) pm_M16 T56.e30 rfl (by decide) (T56.lt (by decide)) rfl rfl (Nat.le_of_ble_eq_true rfl) rfl rfl ?_
  refine cl_c16 (d := d + 4) G T56  (fun m66 h67 T68 F69 W70 => ?_)
  have F71 := F60.trans (N := 0) (S := 0) F69 (by decide) (by decide) (by decide)
  have B72 : sf_B 0 50 (m66 5) := by rw [W70 5 (by decide)]; exact B24
  have ek73 : (m66 5).toInt = ((m 5)).toInt := by rw [W70 5 (by decide)]; exact ek25
  have B74 : sf_B 0 16 (m66 6) := by rw [W70 6 (by decide)]; exact B26
  have ek75 : (m66 6).toInt = ((m 6)).toInt := by rw [W70 6 (by decide)]; exact ek27
  have B76 : sf_B 0 99 (m66 7) := by rw [W70 7 (by decide)]; exact B28
  have ek77 : (m66 7).toInt = ((m 7)).toInt := by rw [W70 7 (by decide)]; exact ek29
  have B78 : sf_B (-1) 99 (m66 8) := by rw [W70 8 (by decide)]; exact B30
  have ek79 : (m66 8).toInt = ((m 8)).toInt := by rw [W70 8 (by decide)]; exact ek31
  have B80 : sf_B 0 4 (m66 3) := by rw [W70 3 (by decide)]; exact B33
  have ek81 : (m66 3).toInt = ((m17 3)).toInt := by rw [W70 3 (by decide)]
  have W82 : rf_W [3, 4, 5, 6, 7, 8, 10, 11, 12, 13] m m66 := W32.trans W70 (by decide)
  show pm_R _ 37 38 [.ref 25, .int 0, .int 0] [] _ _
  refine pm_R_lo pm_M37 (pc_q := 39) rfl rfl rfl ?_
  refine pm_R_get pm_M37 (pc_q := 42) (v := .ref 30) rfl rfl T68.e25 (by decide) (T68.lt (by decide)) rfl rfl ?_
  have B83 : sf_B 0 4 (m66 12) := T68.B 12
  refine pm_R_get pm_M37 (pc_q := 45) (v := .int (m66 12)) rfl rfl T68.e30 (by decide) (T68.lt (by decide)) rfl rfl ?_
  refine pm_R_op pm_M37 (pc_q := 46) (st_q := [.int 2, .int (m66 12)]) rfl rfl rfl ?_
  refine pm_R_icmp pm_M37 (t := 51) (pc_q := 49) rfl rfl rfl (fun c84 => ?_) (fun c84 => ?_)
  · have B85 : sf_B 2 2 (m66 12) := sf_eqL c84 sf_k2
    refine pm_R_lo pm_M37 (pc_q := 52) rfl rfl rfl ?_
    refine pm_R_get pm_M37 (pc_q := 55) (v := .ref 29) rfl rfl T68.e25 (by decide) (T68.lt (by decide)) rfl rfl ?_
    refine pm_R_lo pm_M37 (pc_q := 56) rfl rfl rfl ?_
    refine pm_R_lo pm_M37 (pc_q := 57) rfl rfl rfl ?_
    refine pm_R_get pm_M37 (pc_q := 60) (v := .ref 30) rfl rfl T68.e25 (by decide) (T68.lt (by decide)) rfl rfl ?_
    have B86 : sf_B 0 99 (m66 13) := T68.B 13
    refine pm_R_get pm_M37 (pc_q := 63) (v := .int (m66 13)) rfl rfl T68.e30 (by decide) (T68.lt (by decide)) rfl rfl ?_
    have e87 := (F69.cell G (by decide) (by decide) e58)
    refine cl_R_ist G pm_M37 T68 (pc_q := 64) rfl e87 (by decide) ⟨_, rfl⟩ rfl rfl (fun h88 T89 F90 e91 => ?_)
    have F92 := F90.cl (ck := ck) T68.1
    have F93 := F71.trans (N := 0) (S := 0) F92 (by decide) (by decide) (by decide)
    refine pm_R_lo pm_M37 (pc_q := 65) rfl rfl rfl ?_
    refine pm_R_lo pm_M37 (pc_q := 66) rfl rfl rfl ?_
    refine pm_R_lo pm_M37 (pc_q := 67) rfl rfl rfl ?_
    refine pm_R_cv pm_M37 (pc_q := 70) (a := 25) (ra := [.int 0, .int 0]) (rest := []) (ls_q := [.ref 25, .int 0, .int 0, pm_no, pm_no, pm_no]) rfl rfl (Or.inl rfl) pm_M39 T89.e25 rfl (by decide) (T89.lt (by decide)) rfl rfl (Nat.le_of_ble_eq_true rfl) rfl rfl ?_
    refine cl_c39_0_0 (d := d + 5) G T89  (fun m96 h97 T98 F99 W100 X101 => ?_)
    have F102 := F93.trans (N := 0) (S := 0) F99 (by decide) (by decide) (by decide)
    have B103 : sf_B 0 50 (m96 5) := by rw [W100 5 (by decide)]; exact B72
    have ek104 : (m96 5).toInt = ((m 5)).toInt := by rw [W100 5 (by decide)]; exact ek73
    have B105 : sf_B 0 16 (m96 6) := by rw [W100 6 (by decide)]; exact B74
    have ek106 : (m96 6).toInt = ((m 6)).toInt := by rw [W100 6 (by decide)]; exact ek75
    have B107 : sf_B 0 99 (m96 7) := by rw [W100 7 (by decide)]; exact B76
    have ek108 : (m96 7).toInt = ((m 7)).toInt := by rw [W100 7 (by decide)]; exact ek77
    have B109 : sf_B (-1) 99 (m96 8) := by rw [W100 8 (by decide)]; exact B78
    have ek110 : (m96 8).toInt = ((m 8)).toInt := by rw [W100 8 (by decide)]; exact ek79
    have B111 : sf_B 2 2 (m96 12) := by rw [W100 12 (by decide)]; exact B85
    have W112 : rf_W [3, 4, 5, 6, 7, 8, 10, 11, 12, 13] m m96 := W82.trans W100 (by decide)
    have B113 : sf_B 0 4 (m96 3) := T98.B 3
    show pm_R _ 37 70 [.ref 25, .int 0, .int 0] [] _ _
    have q114 := X101 _ e91
    refine pm_R_lo pm_M37 (pc_q := 73) (ls_q := [.ref 25, .int 0, .int 1]) (st_q := []) rfl rfl rfl ?_
    refine pm_R_br pm_M37 (pc_q := 22) rfl rfl ?_
    refine pm_R_lo pm_M37 (pc_q := 23) rfl rfl rfl ?_
    refine pm_R_stat pm_M37 (pc_q := 26) rfl rfl rfl ?_
    refine pm_R_lo pm_M37 (pc_q := 27) rfl rfl rfl ?_
    refine pm_R_iald pm_M37 (pc_q := 28) (v := 3) rfl ((T98.old (by decide)).trans G.tb2) (T98.lt (by decide)) rfl rfl rfl ?_
    refine pm_R_br pm_M37 (pc_q := 31) (st_q := []) rfl rfl ?_
    refine pm_R_lo pm_M37 (pc_q := 32) rfl rfl rfl ?_
    refine pm_R_get pm_M37 (pc_q := 35) (v := .ref 30) rfl rfl T98.e25 (by decide) (T98.lt (by decide)) rfl rfl ?_
    refine pm_R_cv pm_M37 (pc_q := 38) (a := 30) (ra := []) (rest := []) (ls_q := [.ref 30]) rfl rfl (Or.inl rfl) pm_M16 T98.e30 rfl (by decide) (T98.lt (by decide)) rfl rfl (Nat.le_of_ble_eq_true rfl) rfl rfl ?_
    refine cl_c16 (d := d + 4) G T98  (fun m120 h121 T122 F123 W124 => ?_)
    have F125 := F102.trans (N := 0) (S := 0) F123 (by decide) (by decide) (by decide)
    have B126 : sf_B 0 50 (m120 5) := by rw [W124 5 (by decide)]; exact B103
    have ek127 : (m120 5).toInt = ((m 5)).toInt := by rw [W124 5 (by decide)]; exact ek104
    have B128 : sf_B 0 16 (m120 6) := by rw [W124 6 (by decide)]; exact B105
    have ek129 : (m120 6).toInt = ((m 6)).toInt := by rw [W124 6 (by decide)]; exact ek106
    have B130 : sf_B 0 99 (m120 7) := by rw [W124 7 (by decide)]; exact B107
    have ek131 : (m120 7).toInt = ((m 7)).toInt := by rw [W124 7 (by decide)]; exact ek108
    have B132 : sf_B (-1) 99 (m120 8) := by rw [W124 8 (by decide)]; exact B109
    have ek133 : (m120 8).toInt = ((m 8)).toInt := by rw [W124 8 (by decide)]; exact ek110
    have B134 : sf_B 0 4 (m120 3) := by rw [W124 3 (by decide)]; exact B113
    have ek135 : (m120 3).toInt = ((m96 3)).toInt := by rw [W124 3 (by decide)]
    have W136 : rf_W [3, 4, 5, 6, 7, 8, 10, 11, 12, 13] m m120 := W112.trans W124 (by decide)
    show pm_R _ 37 38 [.ref 25, .int 0, .int 1] [] _ _
    refine pm_R_lo pm_M37 (pc_q := 39) rfl rfl rfl ?_
    refine pm_R_get pm_M37 (pc_q := 42) (v := .ref 30) rfl rfl T122.e25 (by decide) (T122.lt (by decide)) rfl rfl ?_
    have B137 : sf_B 0 4 (m120 12) := T122.B 12
    refine pm_R_get pm_M37 (pc_q := 45) (v := .int (m120 12)) rfl rfl T122.e30 (by decide) (T122.lt (by decide)) rfl rfl ?_
    refine pm_R_op pm_M37 (pc_q := 46) (st_q := [.int 2, .int (m120 12)]) rfl rfl rfl ?_
    refine pm_R_icmp pm_M37 (t := 51) (pc_q := 49) rfl rfl rfl (fun c138 => ?_) (fun c138 => ?_)
    · have B139 : sf_B 2 2 (m120 12) := sf_eqL c138 sf_k2
      refine pm_R_lo pm_M37 (pc_q := 52) rfl rfl rfl ?_
      refine pm_R_get pm_M37 (pc_q := 55) (v := .ref 29) rfl rfl T122.e25 (by decide) (T122.lt (by decide)) rfl rfl ?_
      refine pm_R_lo pm_M37 (pc_q := 56) rfl rfl rfl ?_
      refine pm_R_lo pm_M37 (pc_q := 57) rfl rfl rfl ?_
      refine pm_R_get pm_M37 (pc_q := 60) (v := .ref 30) rfl rfl T122.e25 (by decide) (T122.lt (by decide)) rfl rfl ?_
      have B140 : sf_B 0 99 (m120 13) := T122.B 13
      refine pm_R_get pm_M37 (pc_q := 63) (v := .int (m120 13)) rfl rfl T122.e30 (by decide) (T122.lt (by decide)) rfl rfl ?_
      have e141 := (F123.cell G (by decide) (by decide) (F99.cell G (by decide) (by decide) e91))
      refine cl_R_ist G pm_M37 T122 (pc_q := 64) rfl e141 (by decide) ⟨_, rfl⟩ rfl rfl (fun h142 T143 F144 e145 => ?_)
      have F146 := F144.cl (ck := ck) T122.1
      have F147 := F125.trans (N := 0) (S := 0) F146 (by decide) (by decide) (by decide)
      refine pm_R_lo pm_M37 (pc_q := 65) rfl rfl rfl ?_
      refine pm_R_lo pm_M37 (pc_q := 66) rfl rfl rfl ?_
      refine pm_R_lo pm_M37 (pc_q := 67) rfl rfl rfl ?_
      refine pm_R_cv pm_M37 (pc_q := 70) (a := 25) (ra := [.int 1, .int 0]) (rest := []) (ls_q := [.ref 25, .int 0, .int 1, pm_no, pm_no, pm_no]) rfl rfl (Or.inl rfl) pm_M39 T143.e25 rfl (by decide) (T143.lt (by decide)) rfl rfl (Nat.le_of_ble_eq_true rfl) rfl rfl ?_
      refine cl_c39_0_1 (d := d + 5) G T143  (fun m150 h151 T152 F153 W154 X155 => ?_)
      have F156 := F147.trans (N := 0) (S := 0) F153 (by decide) (by decide) (by decide)
      have B157 : sf_B 0 50 (m150 5) := by rw [W154 5 (by decide)]; exact B126
      have ek158 : (m150 5).toInt = ((m 5)).toInt := by rw [W154 5 (by decide)]; exact ek127
      have B159 : sf_B 0 16 (m150 6) := by rw [W154 6 (by decide)]; exact B128
      have ek160 : (m150 6).toInt = ((m 6)).toInt := by rw [W154 6 (by decide)]; exact ek129
      have B161 : sf_B 0 99 (m150 7) := by rw [W154 7 (by decide)]; exact B130
      have ek162 : (m150 7).toInt = ((m 7)).toInt := by rw [W154 7 (by decide)]; exact ek131
      have B163 : sf_B (-1) 99 (m150 8) := by rw [W154 8 (by decide)]; exact B132
      have ek164 : (m150 8).toInt = ((m 8)).toInt := by rw [W154 8 (by decide)]; exact ek133
      have B165 : sf_B 2 2 (m150 12) := by rw [W154 12 (by decide)]; exact B139
      have W166 : rf_W [3, 4, 5, 6, 7, 8, 10, 11, 12, 13] m m150 := W136.trans W154 (by decide)
      have B167 : sf_B 0 4 (m150 3) := T152.B 3
      show pm_R _ 37 70 [.ref 25, .int 0, .int 1] [] _ _
      have q168 := X155 _ e145
      refine pm_R_lo pm_M37 (pc_q := 73) (ls_q := [.ref 25, .int 0, .int 2]) (st_q := []) rfl rfl rfl ?_
      refine pm_R_br pm_M37 (pc_q := 22) rfl rfl ?_
      refine pm_R_lo pm_M37 (pc_q := 23) rfl rfl rfl ?_
      refine pm_R_stat pm_M37 (pc_q := 26) rfl rfl rfl ?_
      refine pm_R_lo pm_M37 (pc_q := 27) rfl rfl rfl ?_
      refine pm_R_iald pm_M37 (pc_q := 28) (v := 3) rfl ((T152.old (by decide)).trans G.tb2) (T152.lt (by decide)) rfl rfl rfl ?_
      refine pm_R_br pm_M37 (pc_q := 31) (st_q := []) rfl rfl ?_
      refine pm_R_lo pm_M37 (pc_q := 32) rfl rfl rfl ?_
      refine pm_R_get pm_M37 (pc_q := 35) (v := .ref 30) rfl rfl T152.e25 (by decide) (T152.lt (by decide)) rfl rfl ?_
      refine pm_R_cv pm_M37 (pc_q := 38) (a := 30) (ra := []) (rest := []) (ls_q := [.ref 30]) rfl rfl (Or.inl rfl) pm_M16 T152.e30 rfl (by decide) (T152.lt (by decide)) rfl rfl (Nat.le_of_ble_eq_true rfl) rfl rfl ?_
      refine cl_c16 (d := d + 4) G T152  (fun m174 h175 T176 F177 W178 => ?_)
      have F179 := F156.trans (N := 0) (S := 0) F177 (by decide) (by decide) (by decide)
      have B180 : sf_B 0 50 (m174 5) := by rw [W178 5 (by decide)]; exact B157
      have ek181 : (m174 5).toInt = ((m 5)).toInt := by rw [W178 5 (by decide)]; exact ek158
      have B182 : sf_B 0 16 (m174 6) := by rw [W178 6 (by decide)]; exact B159
      have ek183 : (m174 6).toInt = ((m 6)).toInt := by rw [W178 6 (by decide)]; exact ek160
      have B184 : sf_B 0 99 (m174 7) := by rw [W178 7 (by decide)]; exact B161
      have ek185 : (m174 7).toInt = ((m 7)).toInt := by rw [W178 7 (by decide)]; exact ek162
      have B186 : sf_B (-1) 99 (m174 8) := by rw [W178 8 (by decide)]; exact B163
      have ek187 : (m174 8).toInt = ((m 8)).toInt := by rw [W178 8 (by decide)]; exact ek164
      have B188 : sf_B 0 4 (m174 3) := by rw [W178 3 (by decide)]; exact B167
      have ek189 : (m174 3).toInt = ((m150 3)).toInt := by rw [W178 3 (by decide)]
      have W190 : rf_W [3, 4, 5, 6, 7, 8, 10, 11, 12, 13] m m174 := W166.trans W178 (by decide)
      show pm_R _ 37 38 [.ref 25, .int 0, .int 2] [] _ _
      refine pm_R_lo pm_M37 (pc_q := 39) rfl rfl rfl ?_
      refine pm_R_get pm_M37 (pc_q := 42) (v := .ref 30) rfl rfl T176.e25 (by decide) (T176.lt (by decide)) rfl rfl ?_
      have B191 : sf_B 0 4 (m174 12) := T176.B 12
      refine pm_R_get pm_M37 (pc_q := 45) (v := .int (m174 12)) rfl rfl T176.e30 (by decide) (T176.lt (by decide)) rfl rfl ?_
      refine pm_R_op pm_M37 (pc_q := 46) (st_q := [.int 2, .int (m174 12)]) rfl rfl rfl ?_
      refine pm_R_icmp pm_M37 (t := 51) (pc_q := 49) rfl rfl rfl (fun c192 => ?_) (fun c192 => ?_)
      · have B193 : sf_B 2 2 (m174 12) := sf_eqL c192 sf_k2
        refine pm_R_lo pm_M37 (pc_q := 52) rfl rfl rfl ?_
        refine pm_R_get pm_M37 (pc_q := 55) (v := .ref 29) rfl rfl T176.e25 (by decide) (T176.lt (by decide)) rfl rfl ?_
        refine pm_R_lo pm_M37 (pc_q := 56) rfl rfl rfl ?_
        refine pm_R_lo pm_M37 (pc_q := 57) rfl rfl rfl ?_
        refine pm_R_get pm_M37 (pc_q := 60) (v := .ref 30) rfl rfl T176.e25 (by decide) (T176.lt (by decide)) rfl rfl ?_
        have B194 : sf_B 0 99 (m174 13) := T176.B 13
        refine pm_R_get pm_M37 (pc_q := 63) (v := .int (m174 13)) rfl rfl T176.e30 (by decide) (T176.lt (by decide)) rfl rfl ?_
        have e195 := (F177.cell G (by decide) (by decide) (F153.cell G (by decide) (by decide) e145))
        refine cl_R_ist G pm_M37 T176 (pc_q := 64) rfl e195 (by decide) ⟨_, rfl⟩ rfl rfl (fun h196 T197 F198 e199 => ?_)
        have F200 := F198.cl (ck := ck) T176.1
        have F201 := F179.trans (N := 0) (S := 0) F200 (by decide) (by decide) (by decide)
        refine pm_R_lo pm_M37 (pc_q := 65) rfl rfl rfl ?_
        refine pm_R_lo pm_M37 (pc_q := 66) rfl rfl rfl ?_
        refine pm_R_lo pm_M37 (pc_q := 67) rfl rfl rfl ?_
        refine pm_R_cv pm_M37 (pc_q := 70) (a := 25) (ra := [.int 2, .int 0]) (rest := []) (ls_q := [.ref 25, .int 0, .int 2, pm_no, pm_no, pm_no]) rfl rfl (Or.inl rfl) pm_M39 T197.e25 rfl (by decide) (T197.lt (by decide)) rfl rfl (Nat.le_of_ble_eq_true rfl) rfl rfl ?_
        refine cl_c39_0_2 (d := d + 5) G T197  (fun m204 h205 T206 F207 W208 X209 => ?_)
        have F210 := F201.trans (N := 0) (S := 0) F207 (by decide) (by decide) (by decide)
        have B211 : sf_B 0 50 (m204 5) := by rw [W208 5 (by decide)]; exact B180
        have ek212 : (m204 5).toInt = ((m 5)).toInt := by rw [W208 5 (by decide)]; exact ek181
        have B213 : sf_B 0 16 (m204 6) := by rw [W208 6 (by decide)]; exact B182
        have ek214 : (m204 6).toInt = ((m 6)).toInt := by rw [W208 6 (by decide)]; exact ek183
        have B215 : sf_B 0 99 (m204 7) := by rw [W208 7 (by decide)]; exact B184
        have ek216 : (m204 7).toInt = ((m 7)).toInt := by rw [W208 7 (by decide)]; exact ek185
        have B217 : sf_B (-1) 99 (m204 8) := by rw [W208 8 (by decide)]; exact B186
        have ek218 : (m204 8).toInt = ((m 8)).toInt := by rw [W208 8 (by decide)]; exact ek187
        have B219 : sf_B 2 2 (m204 12) := by rw [W208 12 (by decide)]; exact B193
        have W220 : rf_W [3, 4, 5, 6, 7, 8, 10, 11, 12, 13] m m204 := W190.trans W208 (by decide)
        have B221 : sf_B 0 4 (m204 3) := T206.B 3
        show pm_R _ 37 70 [.ref 25, .int 0, .int 2] [] _ _
        have q222 := X209 _ e199
        refine pm_R_lo pm_M37 (pc_q := 73) (ls_q := [.ref 25, .int 0, .int 3]) (st_q := []) rfl rfl rfl ?_
        refine pm_R_br pm_M37 (pc_q := 22) rfl rfl ?_
        refine pm_R_lo pm_M37 (pc_q := 23) rfl rfl rfl ?_
        refine pm_R_stat pm_M37 (pc_q := 26) rfl rfl rfl ?_
        refine pm_R_lo pm_M37 (pc_q := 27) rfl rfl rfl ?_
        refine pm_R_iald pm_M37 (pc_q := 28) (v := 3) rfl ((T206.old (by decide)).trans G.tb2) (T206.lt (by decide)) rfl rfl rfl ?_
        refine pm_R_br pm_M37 (pc_q := 76) (st_q := []) rfl rfl ?_
        refine pm_R_lo pm_M37 (pc_q := 77) rfl rfl rfl ?_
        refine pm_R_br pm_M37 (pc_q := 80) (st_q := []) rfl rfl ?_
        refine pm_R_lo pm_M37 (pc_q := 81) rfl rfl rfl ?_
        refine pm_R_get pm_M37 (pc_q := 84) (v := .ref 30) rfl rfl T206.e25 (by decide) (T206.lt (by decide)) rfl rfl ?_
        refine pm_R_cv pm_M37 (pc_q := 87) (a := 30) (ra := []) (rest := []) (ls_q := [.ref 30]) rfl rfl (Or.inl rfl) pm_M16 T206.e30 rfl (by decide) (T206.lt (by decide)) rfl rfl (Nat.le_of_ble_eq_true rfl) rfl rfl ?_
        refine cl_c16 (d := d + 4) G T206  (fun m228 h229 T230 F231 W232 => ?_)
        have F233 := F210.trans (N := 0) (S := 0) F231 (by decide) (by decide) (by decide)
        have B234 : sf_B 0 50 (m228 5) := by rw [W232 5 (by decide)]; exact B211
        have ek235 : (m228 5).toInt = ((m 5)).toInt := by rw [W232 5 (by decide)]; exact ek212
        have B236 : sf_B 0 16 (m228 6) := by rw [W232 6 (by decide)]; exact B213
        have ek237 : (m228 6).toInt = ((m 6)).toInt := by rw [W232 6 (by decide)]; exact ek214
        have B238 : sf_B 0 99 (m228 7) := by rw [W232 7 (by decide)]; exact B215
        have ek239 : (m228 7).toInt = ((m 7)).toInt := by rw [W232 7 (by decide)]; exact ek216
        have B240 : sf_B (-1) 99 (m228 8) := by rw [W232 8 (by decide)]; exact B217
        have ek241 : (m228 8).toInt = ((m 8)).toInt := by rw [W232 8 (by decide)]; exact ek218
        have B242 : sf_B 0 4 (m228 3) := by rw [W232 3 (by decide)]; exact B221
        have ek243 : (m228 3).toInt = ((m204 3)).toInt := by rw [W232 3 (by decide)]
        have W244 : rf_W [3, 4, 5, 6, 7, 8, 10, 11, 12, 13] m m228 := W220.trans W232 (by decide)
        show pm_R _ 37 87 [.ref 25, .int 0, .int 3] [] _ _
        refine pm_R_lo pm_M37 (pc_q := 88) rfl rfl rfl ?_
        refine pm_R_get pm_M37 (pc_q := 91) (v := .ref 29) rfl rfl T230.e25 (by decide) (T230.lt (by decide)) rfl rfl ?_
        refine pm_R_op pm_M37 (pc_q := 92) (st_q := [.int 3, .ref 29]) rfl rfl rfl ?_
        refine pm_R_lo pm_M37 (pc_q := 93) rfl rfl rfl ?_
        refine pm_R_get pm_M37 (pc_q := 96) (v := .ref 30) rfl rfl T230.e25 (by decide) (T230.lt (by decide)) rfl rfl ?_
        refine cl_R_sldc pm_M37 (pc_q := 98) (v := .ref 10) rfl rfl rfl rfl ?_
        refine pm_R_cv pm_M37 (pc_q := 101) (a := 30) (ra := [.ref 10]) (rest := [.int 3, .ref 29]) (ls_q := [.ref 30, .ref 10, pm_no, pm_no, pm_no]) rfl rfl (Or.inl rfl) pm_M24 T230.e30 rfl (by decide) (T230.lt (by decide)) rfl rfl (Nat.le_of_ble_eq_true rfl) rfl rfl ?_
        refine cl_c24_10 (d := d + 0) G T230  (fun r245 B246 => ?_)
        show pm_R _ 37 101 [.ref 25, .int 0, .int 3] [.int r245, .int 3, .ref 29] _ _
        have e252 := (F231.cell G (by decide) (by decide) (F207.cell G (by decide) (by decide) e199))
        refine cl_R_ist G pm_M37 T230 (pc_q := 102) rfl e252 (by decide) ⟨_, rfl⟩ rfl rfl (fun h253 T254 F255 e256 => ?_)
        have F257 := F255.cl (ck := ck) T230.1
        have F258 := F233.trans (N := 0) (S := 0) F257 (by decide) (by decide) (by decide)
        refine pm_R_lo pm_M37 (pc_q := 103) rfl rfl rfl ?_
        refine pm_R_get pm_M37 (pc_q := 106) (v := .ref 29) rfl rfl T254.e25 (by decide) (T254.lt (by decide)) rfl rfl ?_
        refine pm_R_op pm_M37 (pc_q := 107) (st_q := [.int 3, .ref 29]) rfl rfl rfl ?_
        refine pm_R_iald pm_M37 (pc_q := 108) (v := r245) rfl e256 (T254.lt (by decide)) rfl sf_upd_eq rfl ?_
        refine pm_R_op pm_M37 (pc_q := 109) (st_q := [.int (-1), .int r245]) rfl rfl rfl ?_
        refine pm_R_icmp pm_M37 (t := 114) (pc_q := 112) (pm_q37_1 (Nat.le_of_ble_eq_true rfl)) rfl rfl (fun c262 => ?_) (fun c262 => ?_)
        · have B263 : sf_B 0 4 r245 := sf_neL0 c262 sf_kn1 B246
          refine pm_R_lo pm_M37 (pc_q := 115) (pm_q37_1 (Nat.le_of_ble_eq_true rfl)) rfl rfl ?_
          refine pm_R_get pm_M37 (pc_q := 118) (v := .ref 30) (pm_q37_1 (Nat.le_of_ble_eq_true rfl)) rfl T254.e25 (by decide) (T254.lt (by decide)) rfl rfl ?_
          refine pm_R_cv pm_M37 (pc_q := 121) (a := 30) (ra := []) (rest := []) (ls_q := [.ref 30]) (pm_q37_1 (Nat.le_of_ble_eq_true rfl)) rfl (Or.inl rfl) pm_M16 T254.e30 rfl (by decide) (T254.lt (by decide)) rfl rfl (Nat.le_of_ble_eq_true rfl) rfl rfl ?_
          refine cl_c16 (d := d + 4) G T254  (fun m266 h267 T268 F269 W270 => ?_)
          have F271 := F258.trans (N := 0) (S := 0) F269 (by decide) (by decide) (by decide)
          have B272 : sf_B 0 50 (m266 5) := by rw [W270 5 (by decide)]; exact B234
          have ek273 : (m266 5).toInt = ((m 5)).toInt := by rw [W270 5 (by decide)]; exact ek235
          have B274 : sf_B 0 16 (m266 6) := by rw [W270 6 (by decide)]; exact B236
          have ek275 : (m266 6).toInt = ((m 6)).toInt := by rw [W270 6 (by decide)]; exact ek237
          have B276 : sf_B 0 99 (m266 7) := by rw [W270 7 (by decide)]; exact B238
          have ek277 : (m266 7).toInt = ((m 7)).toInt := by rw [W270 7 (by decide)]; exact ek239
          have B278 : sf_B (-1) 99 (m266 8) := by rw [W270 8 (by decide)]; exact B240
          have ek279 : (m266 8).toInt = ((m 8)).toInt := by rw [W270 8 (by decide)]; exact ek241
          have B280 : sf_B 0 4 (m266 3) := by rw [W270 3 (by decide)]; exact B242
          have ek281 : (m266 3).toInt = ((m204 3)).toInt := by rw [W270 3 (by decide)]; exact ek243
          have W282 : rf_W [3, 4, 5, 6, 7, 8, 10, 11, 12, 13] m m266 := W244.trans W270 (by decide)
          show pm_R _ 37 121 [.ref 25, .int 0, .int 3] [] _ _
          refine pm_R_lo pm_M37 (pc_q := 122) (pm_q37_1 (Nat.le_of_ble_eq_true rfl)) rfl rfl ?_
          refine pm_R_get pm_M37 (pc_q := 125) (v := .ref 30) (pm_q37_1 (Nat.le_of_ble_eq_true rfl)) rfl T268.e25 (by decide) (T268.lt (by decide)) rfl rfl ?_
          have B283 : sf_B 0 4 (m266 12) := T268.B 12
          refine pm_R_get pm_M37 (pc_q := 128) (v := .int (m266 12)) (pm_q37_1 (Nat.le_of_ble_eq_true rfl)) rfl T268.e30 (by decide) (T268.lt (by decide)) rfl rfl ?_
          refine pm_R_op pm_M37 (pc_q := 129) (st_q := [.int 3, .int (m266 12)]) (pm_q37_1 (Nat.le_of_ble_eq_true rfl)) rfl rfl ?_
          refine pm_R_icmp pm_M37 (t := 134) (pc_q := 132) (pm_q37_1 (Nat.le_of_ble_eq_true rfl)) rfl rfl (fun c284 => ?_) (fun c284 => ?_)
          · have B285 : sf_B 3 3 (m266 12) := sf_eqL c284 sf_k3
            refine pm_R_lo pm_M37 (pc_q := 135) (pm_q37_1 (Nat.le_of_ble_eq_true rfl)) rfl rfl ?_
            refine pm_R_lo pm_M37 (pc_q := 136) (pm_q37_1 (Nat.le_of_ble_eq_true rfl)) rfl rfl ?_
            refine pm_R_cv pm_M37 (pc_q := 139) (a := 25) (ra := [.int 0]) (rest := []) (ls_q := [.ref 25, .int 0]) (pm_q37_1 (Nat.le_of_ble_eq_true rfl)) rfl (Or.inl rfl) pm_M40 T268.e25 rfl (by decide) (T268.lt (by decide)) rfl rfl (Nat.le_of_ble_eq_true rfl) rfl rfl ?_
            refine pm_R_lo pm_M40 (pc_q := 1) rfl rfl rfl ?_
            refine pm_R_get pm_M40 (pc_q := 4) (v := .int (m204 3)) rfl rfl T268.e25 (by decide) (T268.lt (by decide)) (congrArg (fun z => some (Value.int z)) (Int32.toInt_inj.mp (cl_aux3 _ _ ek281))) rfl ?_
            refine pm_R_ifc pm_M40 (t := 8) (pc_q := 7) rfl rfl rfl (fun c286 => ?_) (fun c286 => ?_)
            · have y287 := q222 (cl_aux67 _ (congrArg Int32.toInt c286))
              have y288 := q168 (cl_aux68 _ _ ek189 y287.1)
              have y289 := q114 (cl_aux68 _ _ ek135 y288.1)
              have y290 := X22 (cl_aux68 _ _ ek81 y289.1)
              have B291 : sf_B 0 5 (m174 13) := ⟨B194.1, cl_upE (P := fun x => x.toInt ≤ 5) y287.2.2⟩
              have B292 : sf_B 0 5 (m120 13) := ⟨B140.1, cl_upE (P := fun x => x.toInt ≤ 5) y288.2.2⟩
              have B293 : sf_B 0 5 (m66 13) := ⟨B86.1, cl_upE (P := fun x => x.toInt ≤ 5) y289.2.2⟩
              have B294 : sf_B 0 9 (m266 5) := ⟨B272.1, (cl_aux69 _ _ ek273 y290.2)⟩
              have B295 : sf_B 0 0 (m204 3) := sf_eqL c286 sf_k0
              refine pm_R_lo pm_M40 (pc_q := 9) rfl rfl rfl ?_
              refine pm_R_br pm_M40 (pc_q := 40) (st_q := []) rfl rfl ?_
              refine pm_R_lo pm_M40 (pc_q := 41) rfl rfl rfl ?_
              refine pm_R_lo pm_M40 (pc_q := 42) rfl rfl rfl ?_
              refine pm_R_lo pm_M40 (pc_q := 43) rfl rfl rfl ?_
              refine pm_R_get pm_M40 (pc_q := 46) (v := .ref 26) rfl rfl T268.e25 (by decide) (T268.lt (by decide)) rfl rfl ?_
              refine pm_R_lo pm_M40 (pc_q := 47) rfl rfl rfl ?_
              refine pm_R_get pm_M40 (pc_q := 50) (v := .int (m 5)) rfl rfl T268.e25 (by decide) (T268.lt (by decide)) (congrArg (fun z => some (Value.int z)) (Int32.toInt_inj.mp (cl_aux3 _ _ ek273))) rfl ?_
              refine pm_R_op pm_M40 (pc_q := 51) (st_q := [.int 0, .int (m 5), .ref 26, .ref 25, .ref 25]) rfl rfl rfl ?_
              refine pm_R_cv pm_M40 (pc_q := 54) (a := 25) (ra := [.int 0, .int (m 5), .ref 26]) (rest := [.ref 25]) (ls_q := [.ref 25, .ref 26, .int (m 5), .int 0]) rfl rfl (Or.inl rfl) pm_M41 T268.e25 rfl (by decide) (T268.lt (by decide)) rfl rfl (Nat.le_of_ble_eq_true rfl) rfl rfl ?_
              refine pm_R_lo pm_M41 (pc_q := 1) rfl rfl rfl ?_
              refine pm_R_get pm_M41 (pc_q := 4) (v := .ref 29) rfl rfl T268.e25 (by decide) (T268.lt (by decide)) rfl rfl ?_
              refine pm_R_op pm_M41 (pc_q := 5) (st_q := [.int 0, .ref 29]) rfl rfl rfl ?_
              refine pm_R_lo pm_M41 (pc_q := 6) rfl rfl rfl ?_
              refine pm_R_lo pm_M41 (pc_q := 7) rfl rfl rfl ?_
              refine pm_R_op pm_M41 (pc_q := 8) (st_q := [.int 4, .int (m 5), .ref 26, .int 0, .ref 29]) rfl rfl rfl ?_
              refine sf_R_imul pm_M41 (pc_q := 9) rfl rfl (sf_eqT (cl_aux70 _ _ ek273) B294) sf_k4 (by decide) (by decide) (by decide) (fun z296 e297 B298 => ?_)
              refine pm_R_lo pm_M41 (pc_q := 10) rfl rfl rfl ?_
              refine sf_R_iadd pm_M41 (pc_q := 11) rfl rfl B298 sf_k0 (by decide) (by decide) (fun z299 e300 B301 => ?_)
              refine pm_R_op pm_M41 (pc_q := 12) (st_q := [.int 4, .int z299, .ref 26, .int 0, .ref 29]) rfl rfl rfl ?_
              refine pm_R_lo pm_M41 (pc_q := 13) rfl rfl rfl ?_
              refine pm_R_op pm_M41 (pc_q := 14) (st_q := [.int 4, .int z299, .ref 26, .int 0, .ref 29]) rfl rfl rfl ?_
              have e302 := (F269.cell G (by decide) (by decide) e256)
              have e303 := (F269.cell G (by decide) (by decide) (F257.cell G (by decide) (by decide) (F231.cell G (by decide) (by decide) (F207.cell G (by decide) (by decide) (F200.cell G (by decide) (by decide) (F177.cell G (by decide) (by decide) (F153.cell G (by decide) (by decide) (F146.cell G (by decide) (by decide) (F123.cell G (by decide) (by decide) (F99.cell G (by decide) (by decide) (F92.cell G (by decide) (by decide) (F69.cell G (by decide) (by decide) (F59.cell G (by decide) (by decide) (F53.cell G (by decide) (by decide) (F47.cell G (by decide) (by decide) (F41.cell G (by decide) (by decide) (F20.cell G (by decide) (by decide) e5)))))))))))))))))
              refine cl_R_acp G pm_M41 T268 (N := 4) (pc_q := 17) rfl rfl rfl e302 e303 (Or.inl rfl) ⟨_, rfl⟩ rfl (by decide) (by decide) B301 (by decide) (by decide) (Nat.le_of_ble_eq_true rfl) rfl (fun h304 T305 F306 e307 => ?_)
              have F308 := F306.cl (ck := ck) T268.1
              have F309 := F271.trans (N := 0) (S := 0) F308 (by decide) (by decide) (by decide)
              refine pm_R_lo pm_M41 (pc_q := 18) rfl rfl rfl ?_
              refine pm_R_op pm_M41 (pc_q := 19) (st_q := [.int 1, .int (m 5)]) rfl rfl rfl ?_
              refine sf_R_iadd pm_M41 (pc_q := 20) rfl rfl (sf_eqT (cl_aux70 _ _ ek273) B294) sf_k1 (by decide) (by decide) (fun z310 e311 B312 => ?_)
              refine pm_R_ret pm_M41 (r := some (.int z310)) rfl (pm_ret_i _) ?_
              show pm_R _ 40 54 [.ref 25, .int 0] [.int z310, .ref 25] _ _
              refine cl_R_put25 G pm_M40 T305 (k := 5) (pc_q := 57) rfl rfl rfl (by decide) rfl rfl (sf_weak B312 (by decide) (by decide)) rfl rfl rfl rfl rfl (fun h313 m316 em317 T314 F315 => ?_)
              have F318 := F315.cl (ck := ck) T305.1
              have F319 := F309.trans (N := 0) (S := 0) F318 (by decide) (by decide) (by decide)
              have B320 : sf_B 0 16 (m316 6) := by rw [em317]; exact B274
              have ek321 : (m316 6).toInt = ((m 6)).toInt := by rw [em317]; exact ek275
              have B322 : sf_B 0 99 (m316 7) := by rw [em317]; exact B276
              have ek323 : (m316 7).toInt = ((m 7)).toInt := by rw [em317]; exact ek277
              have B324 : sf_B (-1) 99 (m316 8) := by rw [em317]; exact B278
              have ek325 : (m316 8).toInt = ((m 8)).toInt := by rw [em317]; exact ek279
              have B326 : sf_B 0 4 (m316 3) := by rw [em317]; exact B280
              have ek327 : (m316 3).toInt = ((m204 3)).toInt := by rw [em317]; exact ek281
              have B328 : sf_B 3 3 (m316 12) := by rw [em317]; exact B285
              have B329 : sf_B 1 10 (m316 5) := by rw [em317]; exact B312
              have ek330 : (m316 5).toInt = (z310).toInt := by rw [em317]; rfl
              have W331 : rf_W [3, 4, 5, 6, 7, 8, 10, 11, 12, 13] m m316 := by rw [em317]; exact W282.put (by decide)
              refine pm_R_br pm_M40 (pc_q := 123) rfl rfl ?_
              refine pm_R_ret pm_M40 (r := none) rfl rfl ?_
              show pm_R _ 37 139 [.ref 25, .int 0, .int 3] [] _ _
              refine pm_R_op pm_M37 (pc_q := 140) (st_q := [.int 1]) (pm_q37_1 (Nat.le_of_ble_eq_true rfl)) rfl rfl ?_
              have e332 := (F318.cell G (by decide) (by decide) (F308.cell G (by decide) (by decide) (F269.cell G (by decide) (by decide) (F257.cell G (by decide) (by decide) (F231.cell G (by decide) (by decide) (F207.cell G (by decide) (by decide) (F200.cell G (by decide) (by decide) (F177.cell G (by decide) (by decide) (F153.cell G (by decide) (by decide) (F146.cell G (by decide) (by decide) (F123.cell G (by decide) (by decide) (F99.cell G (by decide) (by decide) (F92.cell G (by decide) (by decide) (F69.cell G (by decide) (by decide) (F59.cell G (by decide) (by decide) (F53.cell G (by decide) (by decide) (F47.cell G (by decide) (by decide) (F41.cell G (by decide) (by decide) (F20.cell G (by decide) (by decide) e2)))))))))))))))))))
              have e333 := (F318.cell G (by decide) (by decide) e307)
              have e334 := (F318.cell G (by decide) (by decide) (F308.cell G (by decide) (by decide) (F269.cell G (by decide) (by decide) (F257.cell G (by decide) (by decide) (F231.cell G (by decide) (by decide) (F207.cell G (by decide) (by decide) (F200.cell G (by decide) (by decide) (F177.cell G (by decide) (by decide) (F153.cell G (by decide) (by decide) (F146.cell G (by decide) (by decide) (F123.cell G (by decide) (by decide) (F99.cell G (by decide) (by decide) (F92.cell G (by decide) (by decide) (F69.cell G (by decide) (by decide) (F59.cell G (by decide) (by decide) (F53.cell G (by decide) (by decide) (F47.cell G (by decide) (by decide) (F41.cell G (by decide) (by decide) (F20.cell G (by decide) (by decide) e8)))))))))))))))))))
              exact pm_R_ret pm_M37 (r := some (.int 1)) (pm_q37_1 (Nat.le_of_ble_eq_true rfl)) rfl (K 1 m316 h313 T314 F319 W331 (fun z => ⟨_, _, e333, e334, (R.at (cl_aux67 _ (X22 (cl_aux68 _ _ ek81 (q114 (cl_aux68 _ _ ek135 (q168 (cl_aux68 _ _ ek189 (q222 (cl_aux68 _ _ ek327 z)).1)).1)).1)).1) e5 e8).rule (cl_aux71 _ _ _ e311 ek330 (sf_eqT (cl_aux70 _ _ ek273) B294).1 (sf_eqT (cl_aux70 _ _ ek273) B294).2 B329.1 B329.2) ((cl_tnI (Int.le_trans (by decide) B301.1)).trans (cl_aux72 _ _ _ e297 e300)) (sf_eqL (Eq.trans (sf_upd_nec (k := Int32.toNatClampNeg 3) (j := Int32.toNatClampNeg 0) (by decide)) (Eq.trans (sf_upd_nec (k := Int32.toNatClampNeg 2) (j := Int32.toNatClampNeg 0) (by decide)) (Eq.trans (sf_upd_nec (k := Int32.toNatClampNeg 1) (j := Int32.toNatClampNeg 0) (by decide)) sf_upd_eq))) B293) (sf_eqL (Eq.trans (sf_upd_nec (k := Int32.toNatClampNeg 3) (j := Int32.toNatClampNeg 1) (by decide)) (Eq.trans (sf_upd_nec (k := Int32.toNatClampNeg 2) (j := Int32.toNatClampNeg 1) (by decide)) sf_upd_eq)) B292) (sf_eqL (Eq.trans (sf_upd_nec (k := Int32.toNatClampNeg 3) (j := Int32.toNatClampNeg 2) (by decide)) sf_upd_eq) B291) (cl_aux25 _ _ _ e311 ek330) (cl_aux3 _ _ ek321)⟩) ⟨_, e332, b3⟩ (sf_weak sf_k1 (by decide) (by decide)))
            · have B335 : sf_B 1 4 (m204 3) := sf_neL0 c286 sf_k0 B221
              refine pm_R_ret pm_M40 (r := none) rfl rfl ?_
              show pm_R _ 37 139 [.ref 25, .int 0, .int 3] [] _ _
              refine pm_R_op pm_M37 (pc_q := 140) (st_q := [.int 1]) (pm_q37_1 (Nat.le_of_ble_eq_true rfl)) rfl rfl ?_
              have e336 := (F269.cell G (by decide) (by decide) (F257.cell G (by decide) (by decide) (F231.cell G (by decide) (by decide) (F207.cell G (by decide) (by decide) (F200.cell G (by decide) (by decide) (F177.cell G (by decide) (by decide) (F153.cell G (by decide) (by decide) (F146.cell G (by decide) (by decide) (F123.cell G (by decide) (by decide) (F99.cell G (by decide) (by decide) (F92.cell G (by decide) (by decide) (F69.cell G (by decide) (by decide) (F59.cell G (by decide) (by decide) (F53.cell G (by decide) (by decide) (F47.cell G (by decide) (by decide) (F41.cell G (by decide) (by decide) (F20.cell G (by decide) (by decide) e2)))))))))))))))))
              have e337 := (F269.cell G (by decide) (by decide) (F257.cell G (by decide) (by decide) (F231.cell G (by decide) (by decide) (F207.cell G (by decide) (by decide) (F200.cell G (by decide) (by decide) (F177.cell G (by decide) (by decide) (F153.cell G (by decide) (by decide) (F146.cell G (by decide) (by decide) (F123.cell G (by decide) (by decide) (F99.cell G (by decide) (by decide) (F92.cell G (by decide) (by decide) (F69.cell G (by decide) (by decide) (F59.cell G (by decide) (by decide) (F53.cell G (by decide) (by decide) (F47.cell G (by decide) (by decide) (F41.cell G (by decide) (by decide) (F20.cell G (by decide) (by decide) e5)))))))))))))))))
              have e338 := (F269.cell G (by decide) (by decide) (F257.cell G (by decide) (by decide) (F231.cell G (by decide) (by decide) (F207.cell G (by decide) (by decide) (F200.cell G (by decide) (by decide) (F177.cell G (by decide) (by decide) (F153.cell G (by decide) (by decide) (F146.cell G (by decide) (by decide) (F123.cell G (by decide) (by decide) (F99.cell G (by decide) (by decide) (F92.cell G (by decide) (by decide) (F69.cell G (by decide) (by decide) (F59.cell G (by decide) (by decide) (F53.cell G (by decide) (by decide) (F47.cell G (by decide) (by decide) (F41.cell G (by decide) (by decide) (F20.cell G (by decide) (by decide) e8)))))))))))))))))
              exact pm_R_ret pm_M37 (r := some (.int 1)) (pm_q37_1 (Nat.le_of_ble_eq_true rfl)) rfl (K 1 m266 h267 T268 F271 W282 (fun z => ⟨_, _, e337, e338, (R.at (cl_aux67 _ (X22 (cl_aux68 _ _ ek81 (q114 (cl_aux68 _ _ ek135 (q168 (cl_aux68 _ _ ek189 (q222 (cl_aux68 _ _ ek281 z)).1)).1)).1)).1) e5 e8).keep (cl_aux3 _ _ ek273) (cl_aux3 _ _ ek275) (cl_aux3 _ _ ek277) (cl_aux3 _ _ ek279)⟩) ⟨_, e336, b3⟩ (sf_weak sf_k1 (by decide) (by decide)))
          · skip
            refine pm_R_op pm_M37 (pc_q := 133) (st_q := [.int 0]) (pm_q37_1 (Nat.le_of_ble_eq_true rfl)) rfl rfl ?_
            have e339 := (F269.cell G (by decide) (by decide) (F257.cell G (by decide) (by decide) (F231.cell G (by decide) (by decide) (F207.cell G (by decide) (by decide) (F200.cell G (by decide) (by decide) (F177.cell G (by decide) (by decide) (F153.cell G (by decide) (by decide) (F146.cell G (by decide) (by decide) (F123.cell G (by decide) (by decide) (F99.cell G (by decide) (by decide) (F92.cell G (by decide) (by decide) (F69.cell G (by decide) (by decide) (F59.cell G (by decide) (by decide) (F53.cell G (by decide) (by decide) (F47.cell G (by decide) (by decide) (F41.cell G (by decide) (by decide) (F20.cell G (by decide) (by decide) e2)))))))))))))))))
            have e340 := (F269.cell G (by decide) (by decide) (F257.cell G (by decide) (by decide) (F231.cell G (by decide) (by decide) (F207.cell G (by decide) (by decide) (F200.cell G (by decide) (by decide) (F177.cell G (by decide) (by decide) (F153.cell G (by decide) (by decide) (F146.cell G (by decide) (by decide) (F123.cell G (by decide) (by decide) (F99.cell G (by decide) (by decide) (F92.cell G (by decide) (by decide) (F69.cell G (by decide) (by decide) (F59.cell G (by decide) (by decide) (F53.cell G (by decide) (by decide) (F47.cell G (by decide) (by decide) (F41.cell G (by decide) (by decide) (F20.cell G (by decide) (by decide) e5)))))))))))))))))
            have e341 := (F269.cell G (by decide) (by decide) (F257.cell G (by decide) (by decide) (F231.cell G (by decide) (by decide) (F207.cell G (by decide) (by decide) (F200.cell G (by decide) (by decide) (F177.cell G (by decide) (by decide) (F153.cell G (by decide) (by decide) (F146.cell G (by decide) (by decide) (F123.cell G (by decide) (by decide) (F99.cell G (by decide) (by decide) (F92.cell G (by decide) (by decide) (F69.cell G (by decide) (by decide) (F59.cell G (by decide) (by decide) (F53.cell G (by decide) (by decide) (F47.cell G (by decide) (by decide) (F41.cell G (by decide) (by decide) (F20.cell G (by decide) (by decide) e8)))))))))))))))))
            exact pm_R_ret pm_M37 (r := some (.int 0)) (pm_q37_1 (Nat.le_of_ble_eq_true rfl)) rfl (K 0 m266 h267 T268 F271 W282 (fun z => ⟨_, _, e340, e341, (R.at (cl_aux67 _ (X22 (cl_aux68 _ _ ek81 (q114 (cl_aux68 _ _ ek135 (q168 (cl_aux68 _ _ ek189 (q222 (cl_aux68 _ _ ek281 z)).1)).1)).1)).1) e5 e8).keep (cl_aux3 _ _ ek273) (cl_aux3 _ _ ek275) (cl_aux3 _ _ ek277) (cl_aux3 _ _ ek279)⟩) ⟨_, e339, b3⟩ (sf_weak sf_k0 (by decide) (by decide)))
        · have B342 : sf_B (-1) (-1) r245 := sf_eqL (Classical.not_not.mp c262) sf_kn1
          refine pm_R_op pm_M37 (pc_q := 113) (st_q := [.int 0]) (pm_q37_1 (Nat.le_of_ble_eq_true rfl)) rfl rfl ?_
          have e343 := (F257.cell G (by decide) (by decide) (F231.cell G (by decide) (by decide) (F207.cell G (by decide) (by decide) (F200.cell G (by decide) (by decide) (F177.cell G (by decide) (by decide) (F153.cell G (by decide) (by decide) (F146.cell G (by decide) (by decide) (F123.cell G (by decide) (by decide) (F99.cell G (by decide) (by decide) (F92.cell G (by decide) (by decide) (F69.cell G (by decide) (by decide) (F59.cell G (by decide) (by decide) (F53.cell G (by decide) (by decide) (F47.cell G (by decide) (by decide) (F41.cell G (by decide) (by decide) (F20.cell G (by decide) (by decide) e2))))))))))))))))
          have e344 := (F257.cell G (by decide) (by decide) (F231.cell G (by decide) (by decide) (F207.cell G (by decide) (by decide) (F200.cell G (by decide) (by decide) (F177.cell G (by decide) (by decide) (F153.cell G (by decide) (by decide) (F146.cell G (by decide) (by decide) (F123.cell G (by decide) (by decide) (F99.cell G (by decide) (by decide) (F92.cell G (by decide) (by decide) (F69.cell G (by decide) (by decide) (F59.cell G (by decide) (by decide) (F53.cell G (by decide) (by decide) (F47.cell G (by decide) (by decide) (F41.cell G (by decide) (by decide) (F20.cell G (by decide) (by decide) e5))))))))))))))))
          have e345 := (F257.cell G (by decide) (by decide) (F231.cell G (by decide) (by decide) (F207.cell G (by decide) (by decide) (F200.cell G (by decide) (by decide) (F177.cell G (by decide) (by decide) (F153.cell G (by decide) (by decide) (F146.cell G (by decide) (by decide) (F123.cell G (by decide) (by decide) (F99.cell G (by decide) (by decide) (F92.cell G (by decide) (by decide) (F69.cell G (by decide) (by decide) (F59.cell G (by decide) (by decide) (F53.cell G (by decide) (by decide) (F47.cell G (by decide) (by decide) (F41.cell G (by decide) (by decide) (F20.cell G (by decide) (by decide) e8))))))))))))))))
          exact pm_R_ret pm_M37 (r := some (.int 0)) (pm_q37_1 (Nat.le_of_ble_eq_true rfl)) rfl (K 0 m228 h253 T254 F258 W244 (fun z => ⟨_, _, e344, e345, (R.at (cl_aux67 _ (X22 (cl_aux68 _ _ ek81 (q114 (cl_aux68 _ _ ek135 (q168 (cl_aux68 _ _ ek189 (q222 (cl_aux68 _ _ ek243 z)).1)).1)).1)).1) e5 e8).keep (cl_aux3 _ _ ek235) (cl_aux3 _ _ ek237) (cl_aux3 _ _ ek239) (cl_aux3 _ _ ek241)⟩) ⟨_, e343, b3⟩ (sf_weak sf_k0 (by decide) (by decide)))
      · skip
        refine pm_R_op pm_M37 (pc_q := 50) (st_q := [.int 0]) rfl rfl rfl ?_
        have e346 := (F177.cell G (by decide) (by decide) (F153.cell G (by decide) (by decide) (F146.cell G (by decide) (by decide) (F123.cell G (by decide) (by decide) (F99.cell G (by decide) (by decide) (F92.cell G (by decide) (by decide) (F69.cell G (by decide) (by decide) (F59.cell G (by decide) (by decide) (F53.cell G (by decide) (by decide) (F47.cell G (by decide) (by decide) (F41.cell G (by decide) (by decide) (F20.cell G (by decide) (by decide) e2))))))))))))
        have e347 := (F177.cell G (by decide) (by decide) (F153.cell G (by decide) (by decide) (F146.cell G (by decide) (by decide) (F123.cell G (by decide) (by decide) (F99.cell G (by decide) (by decide) (F92.cell G (by decide) (by decide) (F69.cell G (by decide) (by decide) (F59.cell G (by decide) (by decide) (F53.cell G (by decide) (by decide) (F47.cell G (by decide) (by decide) (F41.cell G (by decide) (by decide) (F20.cell G (by decide) (by decide) e5))))))))))))
        have e348 := (F177.cell G (by decide) (by decide) (F153.cell G (by decide) (by decide) (F146.cell G (by decide) (by decide) (F123.cell G (by decide) (by decide) (F99.cell G (by decide) (by decide) (F92.cell G (by decide) (by decide) (F69.cell G (by decide) (by decide) (F59.cell G (by decide) (by decide) (F53.cell G (by decide) (by decide) (F47.cell G (by decide) (by decide) (F41.cell G (by decide) (by decide) (F20.cell G (by decide) (by decide) e8))))))))))))
        exact pm_R_ret pm_M37 (r := some (.int 0)) rfl rfl (K 0 m174 h175 T176 F179 W190 (fun z => ⟨_, _, e347, e348, (R.at (cl_aux67 _ (X22 (cl_aux68 _ _ ek81 (q114 (cl_aux68 _ _ ek135 (q168 (cl_aux68 _ _ ek189 z)).1)).1)).1) e5 e8).keep (cl_aux3 _ _ ek181) (cl_aux3 _ _ ek183) (cl_aux3 _ _ ek185) (cl_aux3 _ _ ek187)⟩) ⟨_, e346, b3⟩ (sf_weak sf_k0 (by decide) (by decide)))
    · skip
      refine pm_R_op pm_M37 (pc_q := 50) (st_q := [.int 0]) rfl rfl rfl ?_
      have e349 := (F123.cell G (by decide) (by decide) (F99.cell G (by decide) (by decide) (F92.cell G (by decide) (by decide) (F69.cell G (by decide) (by decide) (F59.cell G (by decide) (by decide) (F53.cell G (by decide) (by decide) (F47.cell G (by decide) (by decide) (F41.cell G (by decide) (by decide) (F20.cell G (by decide) (by decide) e2)))))))))
      have e350 := (F123.cell G (by decide) (by decide) (F99.cell G (by decide) (by decide) (F92.cell G (by decide) (by decide) (F69.cell G (by decide) (by decide) (F59.cell G (by decide) (by decide) (F53.cell G (by decide) (by decide) (F47.cell G (by decide) (by decide) (F41.cell G (by decide) (by decide) (F20.cell G (by decide) (by decide) e5)))))))))
      have e351 := (F123.cell G (by decide) (by decide) (F99.cell G (by decide) (by decide) (F92.cell G (by decide) (by decide) (F69.cell G (by decide) (by decide) (F59.cell G (by decide) (by decide) (F53.cell G (by decide) (by decide) (F47.cell G (by decide) (by decide) (F41.cell G (by decide) (by decide) (F20.cell G (by decide) (by decide) e8)))))))))
      exact pm_R_ret pm_M37 (r := some (.int 0)) rfl rfl (K 0 m120 h121 T122 F125 W136 (fun z => ⟨_, _, e350, e351, (R.at (cl_aux67 _ (X22 (cl_aux68 _ _ ek81 (q114 (cl_aux68 _ _ ek135 z)).1)).1) e5 e8).keep (cl_aux3 _ _ ek127) (cl_aux3 _ _ ek129) (cl_aux3 _ _ ek131) (cl_aux3 _ _ ek133)⟩) ⟨_, e349, b3⟩ (sf_weak sf_k0 (by decide) (by decide)))
  · skip
    refine pm_R_op pm_M37 (pc_q := 50) (st_q := [.int 0]) rfl rfl rfl ?_
    have e352 := (F69.cell G (by decide) (by decide) (F59.cell G (by decide) (by decide) (F53.cell G (by decide) (by decide) (F47.cell G (by decide) (by decide) (F41.cell G (by decide) (by decide) (F20.cell G (by decide) (by decide) e2))))))
    have e353 := (F69.cell G (by decide) (by decide) (F59.cell G (by decide) (by decide) (F53.cell G (by decide) (by decide) (F47.cell G (by decide) (by decide) (F41.cell G (by decide) (by decide) (F20.cell G (by decide) (by decide) e5))))))
    have e354 := (F69.cell G (by decide) (by decide) (F59.cell G (by decide) (by decide) (F53.cell G (by decide) (by decide) (F47.cell G (by decide) (by decide) (F41.cell G (by decide) (by decide) (F20.cell G (by decide) (by decide) e8))))))
    exact pm_R_ret pm_M37 (r := some (.int 0)) rfl rfl (K 0 m66 h67 T68 F71 W82 (fun z => ⟨_, _, e353, e354, (R.at (cl_aux67 _ (X22 (cl_aux68 _ _ ek81 z)).1) e5 e8).keep (cl_aux3 _ _ ek73) (cl_aux3 _ _ ek75) (cl_aux3 _ _ ek77) (cl_aux3 _ _ ek79)⟩) ⟨_, e352, b3⟩ (sf_weak sf_k0 (by decide) (by decide)))

theorem cl_aux73 (v0 v1 : Int) (q0 : v0 = v1) (q1 : v1 < 16) : v0 ≤ 15 := by omega
set_option maxRecDepth 100000 in
set_option maxHeartbeats 4000000 in
/-- SilentTable$TextReader.readLine -/
theorem cl_c37_1 {d : Nat} {ck : cl_K} {E : Nat → pm_E} {m : Nat → Int32} {o : Nat → Option Nat} {h : pm_H} {Q : Option Value → pm_H → Prop}  (G : cl_G ck E) (T : cl_T ck E m o h) (R : cl_Rd 0 m h) (Y : cl_Y h) (K : ∀ (r : Int32) (m_q : Nat → Int32) (h_q : pm_H), cl_T ck E m_q o h_q → cl_F ck [25, 27, 29, 30] 0 0 h h_q → rf_W [3, 4, 5, 6, 7, 8, 10, 11, 12, 13] m m_q → cl_Rd 0 m_q h_q → cl_Y h_q → sf_B 0 1 r → Q (some (.int r)) h_q) : pm_R (d + 7) 37 0 [.ref 25, .int 1, pm_no] [] h Q := by
  obtain ⟨f1, e2, b3⟩ := Y
  obtain ⟨f4, e5⟩ := T.C 26 (by decide) (by decide)
  obtain ⟨f7, e8⟩ := T.C 27 (by decide) (by decide)
  have B10 : sf_B 0 4 (m 3) := T.B 3
  have B11 : sf_B 0 50 (m 5) := T.B 5
  have B12 : sf_B 0 16 (m 6) := T.B 6
  have B13 : sf_B 0 99 (m 7) := T.B 7
  have B14 : sf_B (-1) 99 (m 8) := T.B 8
  refine pm_R_lo pm_M37 (pc_q := 1) rfl rfl rfl ?_
  refine pm_R_op pm_M37 (pc_q := 2) (st_q := [.int (-1), .int 1]) rfl rfl rfl ?_
  refine pm_R_br pm_M37 (pc_q := 7) (st_q := []) rfl rfl ?_
  refine pm_R_lo pm_M37 (pc_q := 8) rfl rfl rfl ?_
  refine pm_R_lo pm_M37 (pc_q := 9) rfl rfl rfl ?_
  refine pm_R_cv pm_M37 (pc_q := 12) (a := 25) (ra := [.int 1]) (rest := []) (ls_q := [.ref 25, .int 1, pm_no, pm_no]) rfl rfl (Or.inl rfl) pm_M38 T.e25 rfl (by decide) (T.lt (by decide)) rfl rfl (Nat.le_of_ble_eq_true rfl) rfl rfl ?_
  refine cl_c38_1 (d := d + 5) G T  (fun m17 h18 T19 F20 W21 X22 => ?_)
  have F23 := (cl_F.refl (ck := ck) (A := [25, 27, 29, 30]) (n := 0) (s := 0) T.1).trans (N := 0) (S := 0) F20 (by decide) (by decide) (by decide)
  have B24 : sf_B 0 50 (m17 5) := by rw [W21 5 (by decide)]; exact B11
  have ek25 : (m17 5).toInt = ((m 5)).toInt := by rw [W21 5 (by decide)]
  have B26 : sf_B 0 16 (m17 6) := by rw [W21 6 (by decide)]; exact B12
  have ek27 : (m17 6).toInt = ((m 6)).toInt := by rw [W21 6 (by decide)]
  have B28 : sf_B 0 99 (m17 7) := by rw [W21 7 (by decide)]; exact B13
  have ek29 : (m17 7).toInt = ((m 7)).toInt := by rw [W21 7 (by decide)]
  have B30 : sf_B (-1) 99 (m17 8) := by rw [W21 8 (by decide)]; exact B14
  have ek31 : (m17 8).toInt = ((m 8)).toInt := by rw [W21 8 (by decide)]
  have W32 : rf_W [3, 4, 5, 6, 7, 8, 10, 11, 12, 13] m m17 := (rf_W.refl [3, 4, 5, 6, 7, 8, 10, 11, 12, 13] m).trans W21 (by decide)
  have B33 : sf_B 0 4 (m17 3) := T19.B 3
  show pm_R _ 37 12 [.ref 25, .int 1, pm_no] [] _ _
  refine pm_R_lo pm_M37 (pc_q := 13) rfl rfl rfl ?_
  refine pm_R_get pm_M37 (pc_q := 16) (v := .ref 29) rfl rfl T19.e25 (by decide) (T19.lt (by decide)) rfl rfl ?_
  refine pm_R_op pm_M37 (pc_q := 17) (st_q := [.int (-1), .ref 29]) rfl rfl rfl ?_
  refine pm_R_cs pm_M37 (pc_q := 20) (ra := [.int (-1), .ref 29]) (rest := []) (ls_q := [.ref 29, .int (-1), pm_no, pm_no]) rfl rfl (Or.inl rfl) pm_M13 rfl rfl (Nat.le_of_ble_eq_true rfl) rfl rfl ?_
  refine pm_R_op pm_M13 (pc_q := 1) (st_q := [.int 0]) rfl rfl rfl ?_
  refine pm_R_lo pm_M13 (pc_q := 2) (ls_q := [.ref 29, .int (-1), .int 0, pm_no]) (st_q := []) rfl rfl rfl ?_
  refine pm_R_lo pm_M13 (pc_q := 3) rfl rfl rfl ?_
  obtain ⟨f34, e35⟩ := T19.C 29 (by decide) (by decide)
  refine pm_R_alen pm_M13 (pc_q := 4) (v := 4) rfl e35 (by decide) (T19.lt (by decide)) (by decide) rfl rfl ?_
  refine pm_R_lo pm_M13 (pc_q := 5) (ls_q := [.ref 29, .int (-1), .int 0, .int 4]) (st_q := []) rfl rfl rfl ?_
  refine pm_R_lo pm_M13 (pc_q := 6) rfl rfl rfl ?_
  refine pm_R_lo pm_M13 (pc_q := 7) rfl rfl rfl ?_
  refine pm_R_br pm_M13 (pc_q := 10) (st_q := []) rfl rfl ?_
  refine pm_R_lo pm_M13 (pc_q := 11) rfl rfl rfl ?_
  refine pm_R_lo pm_M13 (pc_q := 12) rfl rfl rfl ?_
  refine pm_R_lo pm_M13 (pc_q := 13) rfl rfl rfl ?_
  refine cl_R_ist G pm_M13 T19 (pc_q := 14) rfl e35 (by decide) ⟨_, rfl⟩ rfl rfl (fun h37 T38 F39 e40 => ?_)
  have F41 := F39.cl (ck := ck) T19.1
  have F42 := F23.trans (N := 0) (S := 0) F41 (by decide) (by decide) (by decide)
  refine pm_R_lo pm_M13 (pc_q := 17) (ls_q := [.ref 29, .int (-1), .int 1, .int 4]) (st_q := []) rfl rfl rfl ?_
  refine pm_R_br pm_M13 (pc_q := 5) rfl rfl ?_
  refine pm_R_lo pm_M13 (pc_q := 6) rfl rfl rfl ?_
  refine pm_R_lo pm_M13 (pc_q := 7) rfl rfl rfl ?_
  refine pm_R_br pm_M13 (pc_q := 10) (st_q := []) rfl rfl ?_
  refine pm_R_lo pm_M13 (pc_q := 11) rfl rfl rfl ?_
  refine pm_R_lo pm_M13 (pc_q := 12) rfl rfl rfl ?_
  refine pm_R_lo pm_M13 (pc_q := 13) rfl rfl rfl ?_
  refine cl_R_ist G pm_M13 T38 (pc_q := 14) rfl e40 (by decide) ⟨_, rfl⟩ rfl rfl (fun h43 T44 F45 e46 => ?_)
  have F47 := F45.cl (ck := ck) T38.1
  have F48 := F42.trans (N := 0) (S := 0) F47 (by decide) (by decide) (by decide)
  refine pm_R_lo pm_M13 (pc_q := 17) (ls_q := [.ref 29, .int (-1), .int 2, .int 4]) (st_q := []) rfl rfl rfl ?_
  refine pm_R_br pm_M13 (pc_q := 5) rfl rfl ?_
  refine pm_R_lo pm_M13 (pc_q := 6) rfl rfl rfl ?_
  refine pm_R_lo pm_M13 (pc_q := 7) rfl rfl rfl ?_
  refine pm_R_br pm_M13 (pc_q := 10) (st_q := []) rfl rfl ?_
  refine pm_R_lo pm_M13 (pc_q := 11) rfl rfl rfl ?_
  refine pm_R_lo pm_M13 (pc_q := 12) rfl rfl rfl ?_
  refine pm_R_lo pm_M13 (pc_q := 13) rfl rfl rfl ?_
  refine cl_R_ist G pm_M13 T44 (pc_q := 14) rfl e46 (by decide) ⟨_, rfl⟩ rfl rfl (fun h49 T50 F51 e52 => ?_)
  have F53 := F51.cl (ck := ck) T44.1
  have F54 := F48.trans (N := 0) (S := 0) F53 (by decide) (by decide) (by decide)
  refine pm_R_lo pm_M13 (pc_q := 17) (ls_q := [.ref 29, .int (-1), .int 3, .int 4]) (st_q := []) rfl rfl rfl ?_
  refine pm_R_br pm_M13 (pc_q := 5) rfl rfl ?_
  refine pm_R_lo pm_M13 (pc_q := 6) rfl rfl rfl ?_
  refine pm_R_lo pm_M13 (pc_q := 7) rfl rfl rfl ?_
  refine pm_R_br pm_M13 (pc_q := 10) (st_q := []) rfl rfl ?_
  refine pm_R_lo pm_M13 (pc_q := 11) rfl rfl rfl ?_
  refine pm_R_lo pm_M13 (pc_q := 12) rfl rfl rfl ?_
  refine pm_R_lo pm_M13 (pc_q := 13) rfl rfl rfl ?_
  refine cl_R_ist G pm_M13 T50 (pc_q := 14) rfl e52 (by decide) ⟨_, rfl⟩ rfl rfl (fun h55 T56 F57 e58 => ?_)
  have F59 := F57.cl (ck := ck) T50.1
  have F60 := F54.trans (N := 0) (S := 0) F59 (by decide) (by decide) (by decide)
  refine pm_R_lo pm_M13 (pc_q := 17) (ls_q := [.ref 29, .int (-1), .int 4, .int 4]) (st_q := []) rfl rfl rfl ?_
  refine pm_R_br pm_M13 (pc_q := 5) rfl rfl ?_
  refine pm_R_lo pm_M13 (pc_q := 6) rfl rfl rfl ?_
  refine pm_R_lo pm_M13 (pc_q := 7) rfl rfl rfl ?_
  refine pm_R_br pm_M13 (pc_q := 20) (st_q := []) rfl rfl ?_
  refine pm_R_ret pm_M13 (r := none) rfl rfl ?_
  show pm_R _ 37 20 [.ref 25, .int 1, pm_no] [] _ _
  refine pm_R_op pm_M37 (pc_q := 21) (st_q := [.int 0]) rfl rfl rfl ?_
  refine pm_R_lo pm_M37 (pc_q := 22) (ls_q := [.ref 25, .int 1, .int 0]) (st_q := []) rfl rfl rfl ?_
  refine pm_R_lo pm_M37 (pc_q := 23) rfl rfl rfl ?_
  refine pm_R_stat pm_M37 (pc_q := 26) rfl rfl rfl ?_
  refine pm_R_lo pm_M37 (pc_q := 27) rfl rfl rfl ?_
  refine pm_R_iald pm_M37 (pc_q := 28) (v := 3) rfl ((T56.old (by decide)).trans G.tb2) (T56.lt (by decide)) rfl rfl rfl ?_
  refine pm_R_br pm_M37 (pc_q := 31) (st_q := []) rfl rfl ?_
  refine pm_R_lo pm_M37 (pc_q := 32) rfl rfl rfl ?_
  refine pm_R_get pm_M37 (pc_q := 35) (v := .ref 30) rfl rfl T56.e25 (by decide) (T56.lt (by decide)) rfl rfl ?_
  refine pm_R_cv pm_M37 (pc_q := 38) (a := 30) (ra := []) (rest := []) (ls_q := [.ref 30]) rfl rfl (Or.inl rfl) pm_M16 T56.e30 rfl (by decide) (T56.lt (by decide)) rfl rfl (Nat.le_of_ble_eq_true rfl) rfl rfl ?_
  refine cl_c16 (d := d + 4) G T56  (fun m66 h67 T68 F69 W70 => ?_)
  have F71 := F60.trans (N := 0) (S := 0) F69 (by decide) (by decide) (by decide)
  have B72 : sf_B 0 50 (m66 5) := by rw [W70 5 (by decide)]; exact B24
  have ek73 : (m66 5).toInt = ((m 5)).toInt := by rw [W70 5 (by decide)]; exact ek25
  have B74 : sf_B 0 16 (m66 6) := by rw [W70 6 (by decide)]; exact B26
  have ek75 : (m66 6).toInt = ((m 6)).toInt := by rw [W70 6 (by decide)]; exact ek27
  have B76 : sf_B 0 99 (m66 7) := by rw [W70 7 (by decide)]; exact B28
  have ek77 : (m66 7).toInt = ((m 7)).toInt := by rw [W70 7 (by decide)]; exact ek29
  have B78 : sf_B (-1) 99 (m66 8) := by rw [W70 8 (by decide)]; exact B30
  have ek79 : (m66 8).toInt = ((m 8)).toInt := by rw [W70 8 (by decide)]; exact ek31
  have B80 : sf_B 0 4 (m66 3) := by rw [W70 3 (by decide)]; exact B33
  have ek81 : (m66 3).toInt = ((m17 3)).toInt := by rw [W70 3 (by decide)]
  have W82 : rf_W [3, 4, 5, 6, 7, 8, 10, 11, 12, 13] m m66 := W32.trans W70 (by decide)
  show pm_R _ 37 38 [.ref 25, .int 1, .int 0] [] _ _
  refine pm_R_lo pm_M37 (pc_q := 39) rfl rfl rfl ?_
  refine pm_R_get pm_M37 (pc_q := 42) (v := .ref 30) rfl rfl T68.e25 (by decide) (T68.lt (by decide)) rfl rfl ?_
  have B83 : sf_B 0 4 (m66 12) := T68.B 12
  refine pm_R_get pm_M37 (pc_q := 45) (v := .int (m66 12)) rfl rfl T68.e30 (by decide) (T68.lt (by decide)) rfl rfl ?_
  refine pm_R_op pm_M37 (pc_q := 46) (st_q := [.int 2, .int (m66 12)]) rfl rfl rfl ?_
  refine pm_R_icmp pm_M37 (t := 51) (pc_q := 49) rfl rfl rfl (fun c84 => ?_) (fun c84 => ?_)
  · have B85 : sf_B 2 2 (m66 12) := sf_eqL c84 sf_k2
    refine pm_R_lo pm_M37 (pc_q := 52) rfl rfl rfl ?_
    refine pm_R_get pm_M37 (pc_q := 55) (v := .ref 29) rfl rfl T68.e25 (by decide) (T68.lt (by decide)) rfl rfl ?_
    refine pm_R_lo pm_M37 (pc_q := 56) rfl rfl rfl ?_
    refine pm_R_lo pm_M37 (pc_q := 57) rfl rfl rfl ?_
    refine pm_R_get pm_M37 (pc_q := 60) (v := .ref 30) rfl rfl T68.e25 (by decide) (T68.lt (by decide)) rfl rfl ?_
    have B86 : sf_B 0 99 (m66 13) := T68.B 13
    refine pm_R_get pm_M37 (pc_q := 63) (v := .int (m66 13)) rfl rfl T68.e30 (by decide) (T68.lt (by decide)) rfl rfl ?_
    have e87 := (F69.cell G (by decide) (by decide) e58)
    refine cl_R_ist G pm_M37 T68 (pc_q := 64) rfl e87 (by decide) ⟨_, rfl⟩ rfl rfl (fun h88 T89 F90 e91 => ?_)
    have F92 := F90.cl (ck := ck) T68.1
    have F93 := F71.trans (N := 0) (S := 0) F92 (by decide) (by decide) (by decide)
    refine pm_R_lo pm_M37 (pc_q := 65) rfl rfl rfl ?_
    refine pm_R_lo pm_M37 (pc_q := 66) rfl rfl rfl ?_
    refine pm_R_lo pm_M37 (pc_q := 67) rfl rfl rfl ?_
    refine pm_R_cv pm_M37 (pc_q := 70) (a := 25) (ra := [.int 0, .int 1]) (rest := []) (ls_q := [.ref 25, .int 1, .int 0, pm_no, pm_no, pm_no]) rfl rfl (Or.inl rfl) pm_M39 T89.e25 rfl (by decide) (T89.lt (by decide)) rfl rfl (Nat.le_of_ble_eq_true rfl) rfl rfl ?_
    refine cl_c39_1_0 (d := d + 5) G T89  (fun m96 h97 T98 F99 W100 X101 => ?_)
    have F102 := F93.trans (N := 0) (S := 0) F99 (by decide) (by decide) (by decide)
    have B103 : sf_B 0 50 (m96 5) := by rw [W100 5 (by decide)]; exact B72
    have ek104 : (m96 5).toInt = ((m 5)).toInt := by rw [W100 5 (by decide)]; exact ek73
    have B105 : sf_B 0 16 (m96 6) := by rw [W100 6 (by decide)]; exact B74
    have ek106 : (m96 6).toInt = ((m 6)).toInt := by rw [W100 6 (by decide)]; exact ek75
    have B107 : sf_B 0 99 (m96 7) := by rw [W100 7 (by decide)]; exact B76
    have ek108 : (m96 7).toInt = ((m 7)).toInt := by rw [W100 7 (by decide)]; exact ek77
    have B109 : sf_B (-1) 99 (m96 8) := by rw [W100 8 (by decide)]; exact B78
    have ek110 : (m96 8).toInt = ((m 8)).toInt := by rw [W100 8 (by decide)]; exact ek79
    have B111 : sf_B 2 2 (m96 12) := by rw [W100 12 (by decide)]; exact B85
    have W112 : rf_W [3, 4, 5, 6, 7, 8, 10, 11, 12, 13] m m96 := W82.trans W100 (by decide)
    have B113 : sf_B 0 4 (m96 3) := T98.B 3
    show pm_R _ 37 70 [.ref 25, .int 1, .int 0] [] _ _
    have q114 := X101 _ e91
    refine pm_R_lo pm_M37 (pc_q := 73) (ls_q := [.ref 25, .int 1, .int 1]) (st_q := []) rfl rfl rfl ?_
    refine pm_R_br pm_M37 (pc_q := 22) rfl rfl ?_
    refine pm_R_lo pm_M37 (pc_q := 23) rfl rfl rfl ?_
    refine pm_R_stat pm_M37 (pc_q := 26) rfl rfl rfl ?_
    refine pm_R_lo pm_M37 (pc_q := 27) rfl rfl rfl ?_
    refine pm_R_iald pm_M37 (pc_q := 28) (v := 3) rfl ((T98.old (by decide)).trans G.tb2) (T98.lt (by decide)) rfl rfl rfl ?_
    refine pm_R_br pm_M37 (pc_q := 31) (st_q := []) rfl rfl ?_
    refine pm_R_lo pm_M37 (pc_q := 32) rfl rfl rfl ?_
    refine pm_R_get pm_M37 (pc_q := 35) (v := .ref 30) rfl rfl T98.e25 (by decide) (T98.lt (by decide)) rfl rfl ?_
    refine pm_R_cv pm_M37 (pc_q := 38) (a := 30) (ra := []) (rest := []) (ls_q := [.ref 30]) rfl rfl (Or.inl rfl) pm_M16 T98.e30 rfl (by decide) (T98.lt (by decide)) rfl rfl (Nat.le_of_ble_eq_true rfl) rfl rfl ?_
    refine cl_c16 (d := d + 4) G T98  (fun m120 h121 T122 F123 W124 => ?_)
    have F125 := F102.trans (N := 0) (S := 0) F123 (by decide) (by decide) (by decide)
    have B126 : sf_B 0 50 (m120 5) := by rw [W124 5 (by decide)]; exact B103
    have ek127 : (m120 5).toInt = ((m 5)).toInt := by rw [W124 5 (by decide)]; exact ek104
    have B128 : sf_B 0 16 (m120 6) := by rw [W124 6 (by decide)]; exact B105
    have ek129 : (m120 6).toInt = ((m 6)).toInt := by rw [W124 6 (by decide)]; exact ek106
    have B130 : sf_B 0 99 (m120 7) := by rw [W124 7 (by decide)]; exact B107
    have ek131 : (m120 7).toInt = ((m 7)).toInt := by rw [W124 7 (by decide)]; exact ek108
    have B132 : sf_B (-1) 99 (m120 8) := by rw [W124 8 (by decide)]; exact B109
    have ek133 : (m120 8).toInt = ((m 8)).toInt := by rw [W124 8 (by decide)]; exact ek110
    have B134 : sf_B 0 4 (m120 3) := by rw [W124 3 (by decide)]; exact B113
    have ek135 : (m120 3).toInt = ((m96 3)).toInt := by rw [W124 3 (by decide)]
    have W136 : rf_W [3, 4, 5, 6, 7, 8, 10, 11, 12, 13] m m120 := W112.trans W124 (by decide)
    show pm_R _ 37 38 [.ref 25, .int 1, .int 1] [] _ _
    refine pm_R_lo pm_M37 (pc_q := 39) rfl rfl rfl ?_
    refine pm_R_get pm_M37 (pc_q := 42) (v := .ref 30) rfl rfl T122.e25 (by decide) (T122.lt (by decide)) rfl rfl ?_
    have B137 : sf_B 0 4 (m120 12) := T122.B 12
    refine pm_R_get pm_M37 (pc_q := 45) (v := .int (m120 12)) rfl rfl T122.e30 (by decide) (T122.lt (by decide)) rfl rfl ?_
    refine pm_R_op pm_M37 (pc_q := 46) (st_q := [.int 2, .int (m120 12)]) rfl rfl rfl ?_
    refine pm_R_icmp pm_M37 (t := 51) (pc_q := 49) rfl rfl rfl (fun c138 => ?_) (fun c138 => ?_)
    · have B139 : sf_B 2 2 (m120 12) := sf_eqL c138 sf_k2
      refine pm_R_lo pm_M37 (pc_q := 52) rfl rfl rfl ?_
      refine pm_R_get pm_M37 (pc_q := 55) (v := .ref 29) rfl rfl T122.e25 (by decide) (T122.lt (by decide)) rfl rfl ?_
      refine pm_R_lo pm_M37 (pc_q := 56) rfl rfl rfl ?_
      refine pm_R_lo pm_M37 (pc_q := 57) rfl rfl rfl ?_
      refine pm_R_get pm_M37 (pc_q := 60) (v := .ref 30) rfl rfl T122.e25 (by decide) (T122.lt (by decide)) rfl rfl ?_
      have B140 : sf_B 0 99 (m120 13) := T122.B 13
      refine pm_R_get pm_M37 (pc_q := 63) (v := .int (m120 13)) rfl rfl T122.e30 (by decide) (T122.lt (by decide)) rfl rfl ?_
      have e141 := (F123.cell G (by decide) (by decide) (F99.cell G (by decide) (by decide) e91))
      refine cl_R_ist G pm_M37 T122 (pc_q := 64) rfl e141 (by decide) ⟨_, rfl⟩ rfl rfl (fun h142 T143 F144 e145 => ?_)
      have F146 := F144.cl (ck := ck) T122.1
      have F147 := F125.trans (N := 0) (S := 0) F146 (by decide) (by decide) (by decide)
      refine pm_R_lo pm_M37 (pc_q := 65) rfl rfl rfl ?_
      refine pm_R_lo pm_M37 (pc_q := 66) rfl rfl rfl ?_
      refine pm_R_lo pm_M37 (pc_q := 67) rfl rfl rfl ?_
      refine pm_R_cv pm_M37 (pc_q := 70) (a := 25) (ra := [.int 1, .int 1]) (rest := []) (ls_q := [.ref 25, .int 1, .int 1, pm_no, pm_no, pm_no]) rfl rfl (Or.inl rfl) pm_M39 T143.e25 rfl (by decide) (T143.lt (by decide)) rfl rfl (Nat.le_of_ble_eq_true rfl) rfl rfl ?_
      refine cl_c39_1_1 (d := d + 5) G T143  (fun m150 h151 T152 F153 W154 X155 => ?_)
      have F156 := F147.trans (N := 0) (S := 0) F153 (by decide) (by decide) (by decide)
      have B157 : sf_B 0 50 (m150 5) := by rw [W154 5 (by decide)]; exact B126
      have ek158 : (m150 5).toInt = ((m 5)).toInt := by rw [W154 5 (by decide)]; exact ek127
      have B159 : sf_B 0 16 (m150 6) := by rw [W154 6 (by decide)]; exact B128
      have ek160 : (m150 6).toInt = ((m 6)).toInt := by rw [W154 6 (by decide)]; exact ek129
      have B161 : sf_B 0 99 (m150 7) := by rw [W154 7 (by decide)]; exact B130
      have ek162 : (m150 7).toInt = ((m 7)).toInt := by rw [W154 7 (by decide)]; exact ek131
      have B163 : sf_B (-1) 99 (m150 8) := by rw [W154 8 (by decide)]; exact B132
      have ek164 : (m150 8).toInt = ((m 8)).toInt := by rw [W154 8 (by decide)]; exact ek133
      have B165 : sf_B 2 2 (m150 12) := by rw [W154 12 (by decide)]; exact B139
      have W166 : rf_W [3, 4, 5, 6, 7, 8, 10, 11, 12, 13] m m150 := W136.trans W154 (by decide)
      have B167 : sf_B 0 4 (m150 3) := T152.B 3
      show pm_R _ 37 70 [.ref 25, .int 1, .int 1] [] _ _
      have q168 := X155 _ e145
      refine pm_R_lo pm_M37 (pc_q := 73) (ls_q := [.ref 25, .int 1, .int 2]) (st_q := []) rfl rfl rfl ?_
      refine pm_R_br pm_M37 (pc_q := 22) rfl rfl ?_
      refine pm_R_lo pm_M37 (pc_q := 23) rfl rfl rfl ?_
      refine pm_R_stat pm_M37 (pc_q := 26) rfl rfl rfl ?_
      refine pm_R_lo pm_M37 (pc_q := 27) rfl rfl rfl ?_
      refine pm_R_iald pm_M37 (pc_q := 28) (v := 3) rfl ((T152.old (by decide)).trans G.tb2) (T152.lt (by decide)) rfl rfl rfl ?_
      refine pm_R_br pm_M37 (pc_q := 31) (st_q := []) rfl rfl ?_
      refine pm_R_lo pm_M37 (pc_q := 32) rfl rfl rfl ?_
      refine pm_R_get pm_M37 (pc_q := 35) (v := .ref 30) rfl rfl T152.e25 (by decide) (T152.lt (by decide)) rfl rfl ?_
      refine pm_R_cv pm_M37 (pc_q := 38) (a := 30) (ra := []) (rest := []) (ls_q := [.ref 30]) rfl rfl (Or.inl rfl) pm_M16 T152.e30 rfl (by decide) (T152.lt (by decide)) rfl rfl (Nat.le_of_ble_eq_true rfl) rfl rfl ?_
      refine cl_c16 (d := d + 4) G T152  (fun m174 h175 T176 F177 W178 => ?_)
      have F179 := F156.trans (N := 0) (S := 0) F177 (by decide) (by decide) (by decide)
      have B180 : sf_B 0 50 (m174 5) := by rw [W178 5 (by decide)]; exact B157
      have ek181 : (m174 5).toInt = ((m 5)).toInt := by rw [W178 5 (by decide)]; exact ek158
      have B182 : sf_B 0 16 (m174 6) := by rw [W178 6 (by decide)]; exact B159
      have ek183 : (m174 6).toInt = ((m 6)).toInt := by rw [W178 6 (by decide)]; exact ek160
      have B184 : sf_B 0 99 (m174 7) := by rw [W178 7 (by decide)]; exact B161
      have ek185 : (m174 7).toInt = ((m 7)).toInt := by rw [W178 7 (by decide)]; exact ek162
      have B186 : sf_B (-1) 99 (m174 8) := by rw [W178 8 (by decide)]; exact B163
      have ek187 : (m174 8).toInt = ((m 8)).toInt := by rw [W178 8 (by decide)]; exact ek164
      have B188 : sf_B 0 4 (m174 3) := by rw [W178 3 (by decide)]; exact B167
      have ek189 : (m174 3).toInt = ((m150 3)).toInt := by rw [W178 3 (by decide)]
      have W190 : rf_W [3, 4, 5, 6, 7, 8, 10, 11, 12, 13] m m174 := W166.trans W178 (by decide)
      show pm_R _ 37 38 [.ref 25, .int 1, .int 2] [] _ _
      refine pm_R_lo pm_M37 (pc_q := 39) rfl rfl rfl ?_
      refine pm_R_get pm_M37 (pc_q := 42) (v := .ref 30) rfl rfl T176.e25 (by decide) (T176.lt (by decide)) rfl rfl ?_
      have B191 : sf_B 0 4 (m174 12) := T176.B 12
      refine pm_R_get pm_M37 (pc_q := 45) (v := .int (m174 12)) rfl rfl T176.e30 (by decide) (T176.lt (by decide)) rfl rfl ?_
      refine pm_R_op pm_M37 (pc_q := 46) (st_q := [.int 2, .int (m174 12)]) rfl rfl rfl ?_
      refine pm_R_icmp pm_M37 (t := 51) (pc_q := 49) rfl rfl rfl (fun c192 => ?_) (fun c192 => ?_)
      · have B193 : sf_B 2 2 (m174 12) := sf_eqL c192 sf_k2
        refine pm_R_lo pm_M37 (pc_q := 52) rfl rfl rfl ?_
        refine pm_R_get pm_M37 (pc_q := 55) (v := .ref 29) rfl rfl T176.e25 (by decide) (T176.lt (by decide)) rfl rfl ?_
        refine pm_R_lo pm_M37 (pc_q := 56) rfl rfl rfl ?_
        refine pm_R_lo pm_M37 (pc_q := 57) rfl rfl rfl ?_
        refine pm_R_get pm_M37 (pc_q := 60) (v := .ref 30) rfl rfl T176.e25 (by decide) (T176.lt (by decide)) rfl rfl ?_
        have B194 : sf_B 0 99 (m174 13) := T176.B 13
        refine pm_R_get pm_M37 (pc_q := 63) (v := .int (m174 13)) rfl rfl T176.e30 (by decide) (T176.lt (by decide)) rfl rfl ?_
        have e195 := (F177.cell G (by decide) (by decide) (F153.cell G (by decide) (by decide) e145))
        refine cl_R_ist G pm_M37 T176 (pc_q := 64) rfl e195 (by decide) ⟨_, rfl⟩ rfl rfl (fun h196 T197 F198 e199 => ?_)
        have F200 := F198.cl (ck := ck) T176.1
        have F201 := F179.trans (N := 0) (S := 0) F200 (by decide) (by decide) (by decide)
        refine pm_R_lo pm_M37 (pc_q := 65) rfl rfl rfl ?_
        refine pm_R_lo pm_M37 (pc_q := 66) rfl rfl rfl ?_
        refine pm_R_lo pm_M37 (pc_q := 67) rfl rfl rfl ?_
        refine pm_R_cv pm_M37 (pc_q := 70) (a := 25) (ra := [.int 2, .int 1]) (rest := []) (ls_q := [.ref 25, .int 1, .int 2, pm_no, pm_no, pm_no]) rfl rfl (Or.inl rfl) pm_M39 T197.e25 rfl (by decide) (T197.lt (by decide)) rfl rfl (Nat.le_of_ble_eq_true rfl) rfl rfl ?_
        refine cl_c39_1_2 (d := d + 5) G T197  (fun m204 h205 T206 F207 W208 X209 => ?_)
        have F210 := F201.trans (N := 0) (S := 0) F207 (by decide) (by decide) (by decide)
        have B211 : sf_B 0 50 (m204 5) := by rw [W208 5 (by decide)]; exact B180
        have ek212 : (m204 5).toInt = ((m 5)).toInt := by rw [W208 5 (by decide)]; exact ek181
        have B213 : sf_B 0 16 (m204 6) := by rw [W208 6 (by decide)]; exact B182
        have ek214 : (m204 6).toInt = ((m 6)).toInt := by rw [W208 6 (by decide)]; exact ek183
        have B215 : sf_B 0 99 (m204 7) := by rw [W208 7 (by decide)]; exact B184
        have ek216 : (m204 7).toInt = ((m 7)).toInt := by rw [W208 7 (by decide)]; exact ek185
        have B217 : sf_B (-1) 99 (m204 8) := by rw [W208 8 (by decide)]; exact B186
        have ek218 : (m204 8).toInt = ((m 8)).toInt := by rw [W208 8 (by decide)]; exact ek187
        have B219 : sf_B 2 2 (m204 12) := by rw [W208 12 (by decide)]; exact B193
        have W220 : rf_W [3, 4, 5, 6, 7, 8, 10, 11, 12, 13] m m204 := W190.trans W208 (by decide)
        have B221 : sf_B 0 4 (m204 3) := T206.B 3
        show pm_R _ 37 70 [.ref 25, .int 1, .int 2] [] _ _
        have q222 := X209 _ e199
        refine pm_R_lo pm_M37 (pc_q := 73) (ls_q := [.ref 25, .int 1, .int 3]) (st_q := []) rfl rfl rfl ?_
        refine pm_R_br pm_M37 (pc_q := 22) rfl rfl ?_
        refine pm_R_lo pm_M37 (pc_q := 23) rfl rfl rfl ?_
        refine pm_R_stat pm_M37 (pc_q := 26) rfl rfl rfl ?_
        refine pm_R_lo pm_M37 (pc_q := 27) rfl rfl rfl ?_
        refine pm_R_iald pm_M37 (pc_q := 28) (v := 3) rfl ((T206.old (by decide)).trans G.tb2) (T206.lt (by decide)) rfl rfl rfl ?_
        refine pm_R_br pm_M37 (pc_q := 76) (st_q := []) rfl rfl ?_
        refine pm_R_lo pm_M37 (pc_q := 77) rfl rfl rfl ?_
        refine pm_R_br pm_M37 (pc_q := 114) (st_q := []) rfl rfl ?_
        refine pm_R_lo pm_M37 (pc_q := 115) (pm_q37_1 (Nat.le_of_ble_eq_true rfl)) rfl rfl ?_
        refine pm_R_get pm_M37 (pc_q := 118) (v := .ref 30) (pm_q37_1 (Nat.le_of_ble_eq_true rfl)) rfl T206.e25 (by decide) (T206.lt (by decide)) rfl rfl ?_
        refine pm_R_cv pm_M37 (pc_q := 121) (a := 30) (ra := []) (rest := []) (ls_q := [.ref 30]) (pm_q37_1 (Nat.le_of_ble_eq_true rfl)) rfl (Or.inl rfl) pm_M16 T206.e30 rfl (by decide) (T206.lt (by decide)) rfl rfl (Nat.le_of_ble_eq_true rfl) rfl rfl ?_
        refine cl_c16 (d := d + 4) G T206  (fun m228 h229 T230 F231 W232 => ?_)
        have F233 := F210.trans (N := 0) (S := 0) F231 (by decide) (by decide) (by decide)
        have B234 : sf_B 0 50 (m228 5) := by rw [W232 5 (by decide)]; exact B211
        have ek235 : (m228 5).toInt = ((m 5)).toInt := by rw [W232 5 (by decide)]; exact ek212
        have B236 : sf_B 0 16 (m228 6) := by rw [W232 6 (by decide)]; exact B213
        have ek237 : (m228 6).toInt = ((m 6)).toInt := by rw [W232 6 (by decide)]; exact ek214
        have B238 : sf_B 0 99 (m228 7) := by rw [W232 7 (by decide)]; exact B215
        have ek239 : (m228 7).toInt = ((m 7)).toInt := by rw [W232 7 (by decide)]; exact ek216
        have B240 : sf_B (-1) 99 (m228 8) := by rw [W232 8 (by decide)]; exact B217
        have ek241 : (m228 8).toInt = ((m 8)).toInt := by rw [W232 8 (by decide)]; exact ek218
        have B242 : sf_B 0 4 (m228 3) := by rw [W232 3 (by decide)]; exact B221
        have ek243 : (m228 3).toInt = ((m204 3)).toInt := by rw [W232 3 (by decide)]
        have W244 : rf_W [3, 4, 5, 6, 7, 8, 10, 11, 12, 13] m m228 := W220.trans W232 (by decide)
        show pm_R _ 37 121 [.ref 25, .int 1, .int 3] [] _ _
        refine pm_R_lo pm_M37 (pc_q := 122) (pm_q37_1 (Nat.le_of_ble_eq_true rfl)) rfl rfl ?_
        refine pm_R_get pm_M37 (pc_q := 125) (v := .ref 30) (pm_q37_1 (Nat.le_of_ble_eq_true rfl)) rfl T230.e25 (by decide) (T230.lt (by decide)) rfl rfl ?_
        have B245 : sf_B 0 4 (m228 12) := T230.B 12
        refine pm_R_get pm_M37 (pc_q := 128) (v := .int (m228 12)) (pm_q37_1 (Nat.le_of_ble_eq_true rfl)) rfl T230.e30 (by decide) (T230.lt (by decide)) rfl rfl ?_
        refine pm_R_op pm_M37 (pc_q := 129) (st_q := [.int 3, .int (m228 12)]) (pm_q37_1 (Nat.le_of_ble_eq_true rfl)) rfl rfl ?_
        refine pm_R_icmp pm_M37 (t := 134) (pc_q := 132) (pm_q37_1 (Nat.le_of_ble_eq_true rfl)) rfl rfl (fun c246 => ?_) (fun c246 => ?_)
        · have B247 : sf_B 3 3 (m228 12) := sf_eqL c246 sf_k3
          refine pm_R_lo pm_M37 (pc_q := 135) (pm_q37_1 (Nat.le_of_ble_eq_true rfl)) rfl rfl ?_
          refine pm_R_lo pm_M37 (pc_q := 136) (pm_q37_1 (Nat.le_of_ble_eq_true rfl)) rfl rfl ?_
          refine pm_R_cv pm_M37 (pc_q := 139) (a := 25) (ra := [.int 1]) (rest := []) (ls_q := [.ref 25, .int 1]) (pm_q37_1 (Nat.le_of_ble_eq_true rfl)) rfl (Or.inl rfl) pm_M40 T230.e25 rfl (by decide) (T230.lt (by decide)) rfl rfl (Nat.le_of_ble_eq_true rfl) rfl rfl ?_
          refine pm_R_lo pm_M40 (pc_q := 1) rfl rfl rfl ?_
          refine pm_R_get pm_M40 (pc_q := 4) (v := .int (m204 3)) rfl rfl T230.e25 (by decide) (T230.lt (by decide)) (congrArg (fun z => some (Value.int z)) (Int32.toInt_inj.mp (cl_aux3 _ _ ek243))) rfl ?_
          refine pm_R_ifc pm_M40 (t := 8) (pc_q := 7) rfl rfl rfl (fun c248 => ?_) (fun c248 => ?_)
          · have y249 := q222 (cl_aux67 _ (congrArg Int32.toInt c248))
            have y250 := q168 (cl_aux68 _ _ ek189 y249.1)
            have y251 := q114 (cl_aux68 _ _ ek135 y250.1)
            have y252 := X22 (cl_aux68 _ _ ek81 y251.1)
            have B253 : sf_B 0 49 (m174 13) := ⟨B194.1, cl_upE (P := fun x => x.toInt ≤ 49) y249.2.2⟩
            have B254 : sf_B 0 5 (m120 13) := ⟨B140.1, cl_upE (P := fun x => x.toInt ≤ 5) y250.2.2⟩
            have B255 : sf_B 0 9 (m66 13) := ⟨B86.1, cl_upE (P := fun x => x.toInt ≤ 9) y251.2.2⟩
            have B256 : sf_B 0 15 (m228 6) := ⟨B236.1, (cl_aux73 _ _ ek237 y252.2)⟩
            have B257 : sf_B 0 0 (m204 3) := sf_eqL c248 sf_k0
            refine pm_R_lo pm_M40 (pc_q := 9) rfl rfl rfl ?_
            refine pm_R_br pm_M40 (pc_q := 60) (st_q := []) rfl rfl ?_
            refine pm_R_lo pm_M40 (pc_q := 61) rfl rfl rfl ?_
            refine pm_R_lo pm_M40 (pc_q := 62) rfl rfl rfl ?_
            refine pm_R_lo pm_M40 (pc_q := 63) rfl rfl rfl ?_
            refine pm_R_get pm_M40 (pc_q := 66) (v := .ref 27) rfl rfl T230.e25 (by decide) (T230.lt (by decide)) rfl rfl ?_
            refine pm_R_lo pm_M40 (pc_q := 67) rfl rfl rfl ?_
            refine pm_R_get pm_M40 (pc_q := 70) (v := .int (m 6)) rfl rfl T230.e25 (by decide) (T230.lt (by decide)) (congrArg (fun z => some (Value.int z)) (Int32.toInt_inj.mp (cl_aux3 _ _ ek237))) rfl ?_
            refine pm_R_op pm_M40 (pc_q := 71) (st_q := [.int 0, .int (m 6), .ref 27, .ref 25, .ref 25]) rfl rfl rfl ?_
            refine pm_R_cv pm_M40 (pc_q := 74) (a := 25) (ra := [.int 0, .int (m 6), .ref 27]) (rest := [.ref 25]) (ls_q := [.ref 25, .ref 27, .int (m 6), .int 0]) rfl rfl (Or.inl rfl) pm_M41 T230.e25 rfl (by decide) (T230.lt (by decide)) rfl rfl (Nat.le_of_ble_eq_true rfl) rfl rfl ?_
            refine pm_R_lo pm_M41 (pc_q := 1) rfl rfl rfl ?_
            refine pm_R_get pm_M41 (pc_q := 4) (v := .ref 29) rfl rfl T230.e25 (by decide) (T230.lt (by decide)) rfl rfl ?_
            refine pm_R_op pm_M41 (pc_q := 5) (st_q := [.int 0, .ref 29]) rfl rfl rfl ?_
            refine pm_R_lo pm_M41 (pc_q := 6) rfl rfl rfl ?_
            refine pm_R_lo pm_M41 (pc_q := 7) rfl rfl rfl ?_
            refine pm_R_op pm_M41 (pc_q := 8) (st_q := [.int 4, .int (m 6), .ref 27, .int 0, .ref 29]) rfl rfl rfl ?_
            refine sf_R_imul pm_M41 (pc_q := 9) rfl rfl (sf_eqT (cl_aux70 _ _ ek237) B256) sf_k4 (by decide) (by decide) (by decide) (fun z258 e259 B260 => ?_)
            refine pm_R_lo pm_M41 (pc_q := 10) rfl rfl rfl ?_
            refine sf_R_iadd pm_M41 (pc_q := 11) rfl rfl B260 sf_k0 (by decide) (by decide) (fun z261 e262 B263 => ?_)
            refine pm_R_op pm_M41 (pc_q := 12) (st_q := [.int 4, .int z261, .ref 27, .int 0, .ref 29]) rfl rfl rfl ?_
            refine pm_R_lo pm_M41 (pc_q := 13) rfl rfl rfl ?_
            refine pm_R_op pm_M41 (pc_q := 14) (st_q := [.int 4, .int z261, .ref 27, .int 0, .ref 29]) rfl rfl rfl ?_
            have e264 := (F231.cell G (by decide) (by decide) (F207.cell G (by decide) (by decide) e199))
            have e265 := (F231.cell G (by decide) (by decide) (F207.cell G (by decide) (by decide) (F200.cell G (by decide) (by decide) (F177.cell G (by decide) (by decide) (F153.cell G (by decide) (by decide) (F146.cell G (by decide) (by decide) (F123.cell G (by decide) (by decide) (F99.cell G (by decide) (by decide) (F92.cell G (by decide) (by decide) (F69.cell G (by decide) (by decide) (F59.cell G (by decide) (by decide) (F53.cell G (by decide) (by decide) (F47.cell G (by decide) (by decide) (F41.cell G (by decide) (by decide) (F20.cell G (by decide) (by decide) e8)))))))))))))))
            refine cl_R_acp G pm_M41 T230 (N := 4) (pc_q := 17) rfl rfl rfl e264 e265 (Or.inr rfl) ⟨_, rfl⟩ rfl (by decide) (by decide) B263 (by decide) (by decide) (Nat.le_of_ble_eq_true rfl) rfl (fun h266 T267 F268 e269 => ?_)
            have F270 := F268.cl (ck := ck) T230.1
            have F271 := F233.trans (N := 0) (S := 0) F270 (by decide) (by decide) (by decide)
            refine pm_R_lo pm_M41 (pc_q := 18) rfl rfl rfl ?_
            refine pm_R_op pm_M41 (pc_q := 19) (st_q := [.int 1, .int (m 6)]) rfl rfl rfl ?_
            refine sf_R_iadd pm_M41 (pc_q := 20) rfl rfl (sf_eqT (cl_aux70 _ _ ek237) B256) sf_k1 (by decide) (by decide) (fun z272 e273 B274 => ?_)
            refine pm_R_ret pm_M41 (r := some (.int z272)) rfl (pm_ret_i _) ?_
            show pm_R _ 40 74 [.ref 25, .int 1] [.int z272, .ref 25] _ _
            refine cl_R_put25 G pm_M40 T267 (k := 6) (pc_q := 77) rfl rfl rfl (by decide) rfl rfl (sf_weak B274 (by decide) (by decide)) rfl rfl rfl rfl rfl (fun h275 m278 em279 T276 F277 => ?_)
            have F280 := F277.cl (ck := ck) T267.1
            have F281 := F271.trans (N := 0) (S := 0) F280 (by decide) (by decide) (by decide)
            have B282 : sf_B 0 50 (m278 5) := by rw [em279]; exact B234
            have ek283 : (m278 5).toInt = ((m 5)).toInt := by rw [em279]; exact ek235
            have B284 : sf_B 0 99 (m278 7) := by rw [em279]; exact B238
            have ek285 : (m278 7).toInt = ((m 7)).toInt := by rw [em279]; exact ek239
            have B286 : sf_B (-1) 99 (m278 8) := by rw [em279]; exact B240
            have ek287 : (m278 8).toInt = ((m 8)).toInt := by rw [em279]; exact ek241
            have B288 : sf_B 0 4 (m278 3) := by rw [em279]; exact B242
            have ek289 : (m278 3).toInt = ((m204 3)).toInt := by rw [em279]; exact ek243
            have B290 : sf_B 3 3 (m278 12) := by rw [em279]; exact B247
            have B291 : sf_B 1 16 (m278 6) := by rw [em279]; exact B274
            have ek292 : (m278 6).toInt = (z272).toInt := by rw [em279]; rfl
            have W293 : rf_W [3, 4, 5, 6, 7, 8, 10, 11, 12, 13] m m278 := by rw [em279]; exact W244.put (by decide)
            refine pm_R_br pm_M40 (pc_q := 123) rfl rfl ?_
            refine pm_R_ret pm_M40 (r := none) rfl rfl ?_
            show pm_R _ 37 139 [.ref 25, .int 1, .int 3] [] _ _
            refine pm_R_op pm_M37 (pc_q := 140) (st_q := [.int 1]) (pm_q37_1 (Nat.le_of_ble_eq_true rfl)) rfl rfl ?_
            have e294 := (F280.cell G (by decide) (by decide) (F270.cell G (by decide) (by decide) (F231.cell G (by decide) (by decide) (F207.cell G (by decide) (by decide) (F200.cell G (by decide) (by decide) (F177.cell G (by decide) (by decide) (F153.cell G (by decide) (by decide) (F146.cell G (by decide) (by decide) (F123.cell G (by decide) (by decide) (F99.cell G (by decide) (by decide) (F92.cell G (by decide) (by decide) (F69.cell G (by decide) (by decide) (F59.cell G (by decide) (by decide) (F53.cell G (by decide) (by decide) (F47.cell G (by decide) (by decide) (F41.cell G (by decide) (by decide) (F20.cell G (by decide) (by decide) e2)))))))))))))))))
            have e295 := (F280.cell G (by decide) (by decide) (F270.cell G (by decide) (by decide) (F231.cell G (by decide) (by decide) (F207.cell G (by decide) (by decide) (F200.cell G (by decide) (by decide) (F177.cell G (by decide) (by decide) (F153.cell G (by decide) (by decide) (F146.cell G (by decide) (by decide) (F123.cell G (by decide) (by decide) (F99.cell G (by decide) (by decide) (F92.cell G (by decide) (by decide) (F69.cell G (by decide) (by decide) (F59.cell G (by decide) (by decide) (F53.cell G (by decide) (by decide) (F47.cell G (by decide) (by decide) (F41.cell G (by decide) (by decide) (F20.cell G (by decide) (by decide) e5)))))))))))))))))
            have e296 := (F280.cell G (by decide) (by decide) e269)
            exact pm_R_ret pm_M37 (r := some (.int 1)) (pm_q37_1 (Nat.le_of_ble_eq_true rfl)) rfl (K 1 m278 h275 T276 F281 W293 (fun z => ⟨_, _, e295, e296, (R.at (cl_aux67 _ (X22 (cl_aux68 _ _ ek81 (q114 (cl_aux68 _ _ ek135 (q168 (cl_aux68 _ _ ek189 (q222 (cl_aux68 _ _ ek289 z)).1)).1)).1)).1) e5 e8).sign ((cl_tnI (Int.le_trans (by decide) B263.1)).trans (cl_aux72 _ _ _ e259 e262)) (sf_eqL (Eq.trans (sf_upd_nec (k := Int32.toNatClampNeg 2) (j := Int32.toNatClampNeg 0) (by decide)) (Eq.trans (sf_upd_nec (k := Int32.toNatClampNeg 1) (j := Int32.toNatClampNeg 0) (by decide)) sf_upd_eq)) B255) (sf_eqL (Eq.trans (sf_upd_nec (k := Int32.toNatClampNeg 2) (j := Int32.toNatClampNeg 1) (by decide)) sf_upd_eq) B254) (sf_eqL sf_upd_eq B253) (cl_aux3 _ _ ek283) (cl_aux25 _ _ _ e273 ek292)⟩) ⟨_, e294, b3⟩ (sf_weak sf_k1 (by decide) (by decide)))
          · have B297 : sf_B 1 4 (m204 3) := sf_neL0 c248 sf_k0 B221
            refine pm_R_ret pm_M40 (r := none) rfl rfl ?_
            show pm_R _ 37 139 [.ref 25, .int 1, .int 3] [] _ _
            refine pm_R_op pm_M37 (pc_q := 140) (st_q := [.int 1]) (pm_q37_1 (Nat.le_of_ble_eq_true rfl)) rfl rfl ?_
            have e298 := (F231.cell G (by decide) (by decide) (F207.cell G (by decide) (by decide) (F200.cell G (by decide) (by decide) (F177.cell G (by decide) (by decide) (F153.cell G (by decide) (by decide) (F146.cell G (by decide) (by decide) (F123.cell G (by decide) (by decide) (F99.cell G (by decide) (by decide) (F92.cell G (by decide) (by decide) (F69.cell G (by decide) (by decide) (F59.cell G (by decide) (by decide) (F53.cell G (by decide) (by decide) (F47.cell G (by decide) (by decide) (F41.cell G (by decide) (by decide) (F20.cell G (by decide) (by decide) e2)))))))))))))))
            have e299 := (F231.cell G (by decide) (by decide) (F207.cell G (by decide) (by decide) (F200.cell G (by decide) (by decide) (F177.cell G (by decide) (by decide) (F153.cell G (by decide) (by decide) (F146.cell G (by decide) (by decide) (F123.cell G (by decide) (by decide) (F99.cell G (by decide) (by decide) (F92.cell G (by decide) (by decide) (F69.cell G (by decide) (by decide) (F59.cell G (by decide) (by decide) (F53.cell G (by decide) (by decide) (F47.cell G (by decide) (by decide) (F41.cell G (by decide) (by decide) (F20.cell G (by decide) (by decide) e5)))))))))))))))
            have e300 := (F231.cell G (by decide) (by decide) (F207.cell G (by decide) (by decide) (F200.cell G (by decide) (by decide) (F177.cell G (by decide) (by decide) (F153.cell G (by decide) (by decide) (F146.cell G (by decide) (by decide) (F123.cell G (by decide) (by decide) (F99.cell G (by decide) (by decide) (F92.cell G (by decide) (by decide) (F69.cell G (by decide) (by decide) (F59.cell G (by decide) (by decide) (F53.cell G (by decide) (by decide) (F47.cell G (by decide) (by decide) (F41.cell G (by decide) (by decide) (F20.cell G (by decide) (by decide) e8)))))))))))))))
            exact pm_R_ret pm_M37 (r := some (.int 1)) (pm_q37_1 (Nat.le_of_ble_eq_true rfl)) rfl (K 1 m228 h229 T230 F233 W244 (fun z => ⟨_, _, e299, e300, (R.at (cl_aux67 _ (X22 (cl_aux68 _ _ ek81 (q114 (cl_aux68 _ _ ek135 (q168 (cl_aux68 _ _ ek189 (q222 (cl_aux68 _ _ ek243 z)).1)).1)).1)).1) e5 e8).keep (cl_aux3 _ _ ek235) (cl_aux3 _ _ ek237) (cl_aux3 _ _ ek239) (cl_aux3 _ _ ek241)⟩) ⟨_, e298, b3⟩ (sf_weak sf_k1 (by decide) (by decide)))
        · skip
          refine pm_R_op pm_M37 (pc_q := 133) (st_q := [.int 0]) (pm_q37_1 (Nat.le_of_ble_eq_true rfl)) rfl rfl ?_
          have e301 := (F231.cell G (by decide) (by decide) (F207.cell G (by decide) (by decide) (F200.cell G (by decide) (by decide) (F177.cell G (by decide) (by decide) (F153.cell G (by decide) (by decide) (F146.cell G (by decide) (by decide) (F123.cell G (by decide) (by decide) (F99.cell G (by decide) (by decide) (F92.cell G (by decide) (by decide) (F69.cell G (by decide) (by decide) (F59.cell G (by decide) (by decide) (F53.cell G (by decide) (by decide) (F47.cell G (by decide) (by decide) (F41.cell G (by decide) (by decide) (F20.cell G (by decide) (by decide) e2)))))))))))))))
          have e302 := (F231.cell G (by decide) (by decide) (F207.cell G (by decide) (by decide) (F200.cell G (by decide) (by decide) (F177.cell G (by decide) (by decide) (F153.cell G (by decide) (by decide) (F146.cell G (by decide) (by decide) (F123.cell G (by decide) (by decide) (F99.cell G (by decide) (by decide) (F92.cell G (by decide) (by decide) (F69.cell G (by decide) (by decide) (F59.cell G (by decide) (by decide) (F53.cell G (by decide) (by decide) (F47.cell G (by decide) (by decide) (F41.cell G (by decide) (by decide) (F20.cell G (by decide) (by decide) e5)))))))))))))))
          have e303 := (F231.cell G (by decide) (by decide) (F207.cell G (by decide) (by decide) (F200.cell G (by decide) (by decide) (F177.cell G (by decide) (by decide) (F153.cell G (by decide) (by decide) (F146.cell G (by decide) (by decide) (F123.cell G (by decide) (by decide) (F99.cell G (by decide) (by decide) (F92.cell G (by decide) (by decide) (F69.cell G (by decide) (by decide) (F59.cell G (by decide) (by decide) (F53.cell G (by decide) (by decide) (F47.cell G (by decide) (by decide) (F41.cell G (by decide) (by decide) (F20.cell G (by decide) (by decide) e8)))))))))))))))
          exact pm_R_ret pm_M37 (r := some (.int 0)) (pm_q37_1 (Nat.le_of_ble_eq_true rfl)) rfl (K 0 m228 h229 T230 F233 W244 (fun z => ⟨_, _, e302, e303, (R.at (cl_aux67 _ (X22 (cl_aux68 _ _ ek81 (q114 (cl_aux68 _ _ ek135 (q168 (cl_aux68 _ _ ek189 (q222 (cl_aux68 _ _ ek243 z)).1)).1)).1)).1) e5 e8).keep (cl_aux3 _ _ ek235) (cl_aux3 _ _ ek237) (cl_aux3 _ _ ek239) (cl_aux3 _ _ ek241)⟩) ⟨_, e301, b3⟩ (sf_weak sf_k0 (by decide) (by decide)))
      · skip
        refine pm_R_op pm_M37 (pc_q := 50) (st_q := [.int 0]) rfl rfl rfl ?_
        have e304 := (F177.cell G (by decide) (by decide) (F153.cell G (by decide) (by decide) (F146.cell G (by decide) (by decide) (F123.cell G (by decide) (by decide) (F99.cell G (by decide) (by decide) (F92.cell G (by decide) (by decide) (F69.cell G (by decide) (by decide) (F59.cell G (by decide) (by decide) (F53.cell G (by decide) (by decide) (F47.cell G (by decide) (by decide) (F41.cell G (by decide) (by decide) (F20.cell G (by decide) (by decide) e2))))))))))))
        have e305 := (F177.cell G (by decide) (by decide) (F153.cell G (by decide) (by decide) (F146.cell G (by decide) (by decide) (F123.cell G (by decide) (by decide) (F99.cell G (by decide) (by decide) (F92.cell G (by decide) (by decide) (F69.cell G (by decide) (by decide) (F59.cell G (by decide) (by decide) (F53.cell G (by decide) (by decide) (F47.cell G (by decide) (by decide) (F41.cell G (by decide) (by decide) (F20.cell G (by decide) (by decide) e5))))))))))))
        have e306 := (F177.cell G (by decide) (by decide) (F153.cell G (by decide) (by decide) (F146.cell G (by decide) (by decide) (F123.cell G (by decide) (by decide) (F99.cell G (by decide) (by decide) (F92.cell G (by decide) (by decide) (F69.cell G (by decide) (by decide) (F59.cell G (by decide) (by decide) (F53.cell G (by decide) (by decide) (F47.cell G (by decide) (by decide) (F41.cell G (by decide) (by decide) (F20.cell G (by decide) (by decide) e8))))))))))))
        exact pm_R_ret pm_M37 (r := some (.int 0)) rfl rfl (K 0 m174 h175 T176 F179 W190 (fun z => ⟨_, _, e305, e306, (R.at (cl_aux67 _ (X22 (cl_aux68 _ _ ek81 (q114 (cl_aux68 _ _ ek135 (q168 (cl_aux68 _ _ ek189 z)).1)).1)).1) e5 e8).keep (cl_aux3 _ _ ek181) (cl_aux3 _ _ ek183) (cl_aux3 _ _ ek185) (cl_aux3 _ _ ek187)⟩) ⟨_, e304, b3⟩ (sf_weak sf_k0 (by decide) (by decide)))
    · skip
      refine pm_R_op pm_M37 (pc_q := 50) (st_q := [.int 0]) rfl rfl rfl ?_
      have e307 := (F123.cell G (by decide) (by decide) (F99.cell G (by decide) (by decide) (F92.cell G (by decide) (by decide) (F69.cell G (by decide) (by decide) (F59.cell G (by decide) (by decide) (F53.cell G (by decide) (by decide) (F47.cell G (by decide) (by decide) (F41.cell G (by decide) (by decide) (F20.cell G (by decide) (by decide) e2)))))))))
      have e308 := (F123.cell G (by decide) (by decide) (F99.cell G (by decide) (by decide) (F92.cell G (by decide) (by decide) (F69.cell G (by decide) (by decide) (F59.cell G (by decide) (by decide) (F53.cell G (by decide) (by decide) (F47.cell G (by decide) (by decide) (F41.cell G (by decide) (by decide) (F20.cell G (by decide) (by decide) e5)))))))))
      have e309 := (F123.cell G (by decide) (by decide) (F99.cell G (by decide) (by decide) (F92.cell G (by decide) (by decide) (F69.cell G (by decide) (by decide) (F59.cell G (by decide) (by decide) (F53.cell G (by decide) (by decide) (F47.cell G (by decide) (by decide) (F41.cell G (by decide) (by decide) (F20.cell G (by decide) (by decide) e8)))))))))
      exact pm_R_ret pm_M37 (r := some (.int 0)) rfl rfl (K 0 m120 h121 T122 F125 W136 (fun z => ⟨_, _, e308, e309, (R.at (cl_aux67 _ (X22 (cl_aux68 _ _ ek81 (q114 (cl_aux68 _ _ ek135 z)).1)).1) e5 e8).keep (cl_aux3 _ _ ek127) (cl_aux3 _ _ ek129) (cl_aux3 _ _ ek131) (cl_aux3 _ _ ek133)⟩) ⟨_, e307, b3⟩ (sf_weak sf_k0 (by decide) (by decide)))
  · skip
    refine pm_R_op pm_M37 (pc_q := 50) (st_q := [.int 0]) rfl rfl rfl ?_
    have e310 := (F69.cell G (by decide) (by decide) (F59.cell G (by decide) (by decide) (F53.cell G (by decide) (by decide) (F47.cell G (by decide) (by decide) (F41.cell G (by decide) (by decide) (F20.cell G (by decide) (by decide) e2))))))
    have e311 := (F69.cell G (by decide) (by decide) (F59.cell G (by decide) (by decide) (F53.cell G (by decide) (by decide) (F47.cell G (by decide) (by decide) (F41.cell G (by decide) (by decide) (F20.cell G (by decide) (by decide) e5))))))
    have e312 := (F69.cell G (by decide) (by decide) (F59.cell G (by decide) (by decide) (F53.cell G (by decide) (by decide) (F47.cell G (by decide) (by decide) (F41.cell G (by decide) (by decide) (F20.cell G (by decide) (by decide) e8))))))
    exact pm_R_ret pm_M37 (r := some (.int 0)) rfl rfl (K 0 m66 h67 T68 F71 W82 (fun z => ⟨_, _, e311, e312, (R.at (cl_aux67 _ (X22 (cl_aux68 _ _ ek81 z)).1) e5 e8).keep (cl_aux3 _ _ ek73) (cl_aux3 _ _ ek75) (cl_aux3 _ _ ek77) (cl_aux3 _ _ ek79)⟩) ⟨_, e310, b3⟩ (sf_weak sf_k0 (by decide) (by decide)))

set_option maxRecDepth 100000 in
set_option maxHeartbeats 4000000 in
/-- SilentTable$TextReader.readLine -/
theorem cl_c37_2 {d : Nat} {ck : cl_K} {E : Nat → pm_E} {m : Nat → Int32} {o : Nat → Option Nat} {h : pm_H} {Q : Option Value → pm_H → Prop}  (G : cl_G ck E) (T : cl_T ck E m o h) (R : cl_Rd 0 m h) (Y : cl_Y h) (K : ∀ (r : Int32) (m_q : Nat → Int32) (h_q : pm_H), cl_T ck E m_q o h_q → cl_F ck [25, 28, 29, 30] 0 0 h h_q → rf_W [3, 4, 5, 6, 7, 8, 10, 11, 12, 13] m m_q → cl_Rd 0 m_q h_q → cl_Y h_q → sf_B 0 1 r → Q (some (.int r)) h_q) : pm_R (d + 7) 37 0 [.ref 25, .int 2, pm_no] [] h Q := by
  obtain ⟨f1, e2, b3⟩ := Y
  obtain ⟨f4, e5⟩ := T.C 26 (by decide) (by decide)
  obtain ⟨f7, e8⟩ := T.C 27 (by decide) (by decide)
  have B10 : sf_B 0 4 (m 3) := T.B 3
  have B11 : sf_B 0 50 (m 5) := T.B 5
  have B12 : sf_B 0 16 (m 6) := T.B 6
  have B13 : sf_B 0 99 (m 7) := T.B 7
  have B14 : sf_B (-1) 99 (m 8) := T.B 8
  refine pm_R_lo pm_M37 (pc_q := 1) rfl rfl rfl ?_
  refine pm_R_op pm_M37 (pc_q := 2) (st_q := [.int (-1), .int 2]) rfl rfl rfl ?_
  refine pm_R_br pm_M37 (pc_q := 7) (st_q := []) rfl rfl ?_
  refine pm_R_lo pm_M37 (pc_q := 8) rfl rfl rfl ?_
  refine pm_R_lo pm_M37 (pc_q := 9) rfl rfl rfl ?_
  refine pm_R_cv pm_M37 (pc_q := 12) (a := 25) (ra := [.int 2]) (rest := []) (ls_q := [.ref 25, .int 2, pm_no, pm_no]) rfl rfl (Or.inl rfl) pm_M38 T.e25 rfl (by decide) (T.lt (by decide)) rfl rfl (Nat.le_of_ble_eq_true rfl) rfl rfl ?_
  refine cl_c38_2 (d := d + 5) G T  (fun m17 h18 T19 F20 W21 X22 => ?_)
  have F23 := (cl_F.refl (ck := ck) (A := [25, 28, 29, 30]) (n := 0) (s := 0) T.1).trans (N := 0) (S := 0) F20 (by decide) (by decide) (by decide)
  have B24 : sf_B 0 50 (m17 5) := by rw [W21 5 (by decide)]; exact B11
  have ek25 : (m17 5).toInt = ((m 5)).toInt := by rw [W21 5 (by decide)]
  have B26 : sf_B 0 16 (m17 6) := by rw [W21 6 (by decide)]; exact B12
  have ek27 : (m17 6).toInt = ((m 6)).toInt := by rw [W21 6 (by decide)]
  have B28 : sf_B 0 99 (m17 7) := by rw [W21 7 (by decide)]; exact B13
  have ek29 : (m17 7).toInt = ((m 7)).toInt := by rw [W21 7 (by decide)]
  have B30 : sf_B (-1) 99 (m17 8) := by rw [W21 8 (by decide)]; exact B14
  have ek31 : (m17 8).toInt = ((m 8)).toInt := by rw [W21 8 (by decide)]
  have W32 : rf_W [3, 4, 5, 6, 7, 8, 10, 11, 12, 13] m m17 := (rf_W.refl [3, 4, 5, 6, 7, 8, 10, 11, 12, 13] m).trans W21 (by decide)
  have B33 : sf_B 0 4 (m17 3) := T19.B 3
  show pm_R _ 37 12 [.ref 25, .int 2, pm_no] [] _ _
  refine pm_R_lo pm_M37 (pc_q := 13) rfl rfl rfl ?_
  refine pm_R_get pm_M37 (pc_q := 16) (v := .ref 29) rfl rfl T19.e25 (by decide) (T19.lt (by decide)) rfl rfl ?_
  refine pm_R_op pm_M37 (pc_q := 17) (st_q := [.int (-1), .ref 29]) rfl rfl rfl ?_
  refine pm_R_cs pm_M37 (pc_q := 20) (ra := [.int (-1), .ref 29]) (rest := []) (ls_q := [.ref 29, .int (-1), pm_no, pm_no]) rfl rfl (Or.inl rfl) pm_M13 rfl rfl (Nat.le_of_ble_eq_true rfl) rfl rfl ?_
  refine pm_R_op pm_M13 (pc_q := 1) (st_q := [.int 0]) rfl rfl rfl ?_
  refine pm_R_lo pm_M13 (pc_q := 2) (ls_q := [.ref 29, .int (-1), .int 0, pm_no]) (st_q := []) rfl rfl rfl ?_
  refine pm_R_lo pm_M13 (pc_q := 3) rfl rfl rfl ?_
  obtain ⟨f34, e35⟩ := T19.C 29 (by decide) (by decide)
  refine pm_R_alen pm_M13 (pc_q := 4) (v := 4) rfl e35 (by decide) (T19.lt (by decide)) (by decide) rfl rfl ?_
  refine pm_R_lo pm_M13 (pc_q := 5) (ls_q := [.ref 29, .int (-1), .int 0, .int 4]) (st_q := []) rfl rfl rfl ?_
  refine pm_R_lo pm_M13 (pc_q := 6) rfl rfl rfl ?_
  refine pm_R_lo pm_M13 (pc_q := 7) rfl rfl rfl ?_
  refine pm_R_br pm_M13 (pc_q := 10) (st_q := []) rfl rfl ?_
  refine pm_R_lo pm_M13 (pc_q := 11) rfl rfl rfl ?_
  refine pm_R_lo pm_M13 (pc_q := 12) rfl rfl rfl ?_
  refine pm_R_lo pm_M13 (pc_q := 13) rfl rfl rfl ?_
  refine cl_R_ist G pm_M13 T19 (pc_q := 14) rfl e35 (by decide) ⟨_, rfl⟩ rfl rfl (fun h37 T38 F39 e40 => ?_)
  have F41 := F39.cl (ck := ck) T19.1
  have F42 := F23.trans (N := 0) (S := 0) F41 (by decide) (by decide) (by decide)
  refine pm_R_lo pm_M13 (pc_q := 17) (ls_q := [.ref 29, .int (-1), .int 1, .int 4]) (st_q := []) rfl rfl rfl ?_
  refine pm_R_br pm_M13 (pc_q := 5) rfl rfl ?_
  refine pm_R_lo pm_M13 (pc_q := 6) rfl rfl rfl ?_
  refine pm_R_lo pm_M13 (pc_q := 7) rfl rfl rfl ?_
  refine pm_R_br pm_M13 (pc_q := 10) (st_q := []) rfl rfl ?_
  refine pm_R_lo pm_M13 (pc_q := 11) rfl rfl rfl ?_
  refine pm_R_lo pm_M13 (pc_q := 12) rfl rfl rfl ?_
  refine pm_R_lo pm_M13 (pc_q := 13) rfl rfl rfl ?_
  refine cl_R_ist G pm_M13 T38 (pc_q := 14) rfl e40 (by decide) ⟨_, rfl⟩ rfl rfl (fun h43 T44 F45 e46 => ?_)
  have F47 := F45.cl (ck := ck) T38.1
  have F48 := F42.trans (N := 0) (S := 0) F47 (by decide) (by decide) (by decide)
  refine pm_R_lo pm_M13 (pc_q := 17) (ls_q := [.ref 29, .int (-1), .int 2, .int 4]) (st_q := []) rfl rfl rfl ?_
  refine pm_R_br pm_M13 (pc_q := 5) rfl rfl ?_
  refine pm_R_lo pm_M13 (pc_q := 6) rfl rfl rfl ?_
  refine pm_R_lo pm_M13 (pc_q := 7) rfl rfl rfl ?_
  refine pm_R_br pm_M13 (pc_q := 10) (st_q := []) rfl rfl ?_
  refine pm_R_lo pm_M13 (pc_q := 11) rfl rfl rfl ?_
  refine pm_R_lo pm_M13 (pc_q := 12) rfl rfl rfl ?_
  refine pm_R_lo pm_M13 (pc_q := 13) rfl rfl rfl ?_
  refine cl_R_ist G pm_M13 T44 (pc_q := 14) rfl e46 (by decide) ⟨_, rfl⟩ rfl rfl (fun h49 T50 F51 e52 => ?_)
  have F53 := F51.cl (ck := ck) T44.1
  have F54 := F48.trans (N := 0) (S := 0) F53 (by decide) (by decide) (by decide)
  refine pm_R_lo pm_M13 (pc_q := 17) (ls_q := [.ref 29, .int (-1), .int 3, .int 4]) (st_q := []) rfl rfl rfl ?_
  refine pm_R_br pm_M13 (pc_q := 5) rfl rfl ?_
  refine pm_R_lo pm_M13 (pc_q := 6) rfl rfl rfl ?_
  refine pm_R_lo pm_M13 (pc_q := 7) rfl rfl rfl ?_
  refine pm_R_br pm_M13 (pc_q := 10) (st_q := []) rfl rfl ?_
  refine pm_R_lo pm_M13 (pc_q := 11) rfl rfl rfl ?_
  refine pm_R_lo pm_M13 (pc_q := 12) rfl rfl rfl ?_
  refine pm_R_lo pm_M13 (pc_q := 13) rfl rfl rfl ?_
  refine cl_R_ist G pm_M13 T50 (pc_q := 14) rfl e52 (by decide) ⟨_, rfl⟩ rfl rfl (fun h55 T56 F57 e58 => ?_)
  have F59 := F57.cl (ck := ck) T50.1
  have F60 := F54.trans (N := 0) (S := 0) F59 (by decide) (by decide) (by decide)
  refine pm_R_lo pm_M13 (pc_q := 17) (ls_q := [.ref 29, .int (-1), .int 4, .int 4]) (st_q := []) rfl rfl rfl ?_
  refine pm_R_br pm_M13 (pc_q := 5) rfl rfl ?_
  refine pm_R_lo pm_M13 (pc_q := 6) rfl rfl rfl ?_
  refine pm_R_lo pm_M13 (pc_q := 7) rfl rfl rfl ?_
  refine pm_R_br pm_M13 (pc_q := 20) (st_q := []) rfl rfl ?_
  refine pm_R_ret pm_M13 (r := none) rfl rfl ?_
  show pm_R _ 37 20 [.ref 25, .int 2, pm_no] [] _ _
  refine pm_R_op pm_M37 (pc_q := 21) (st_q := [.int 0]) rfl rfl rfl ?_
  refine pm_R_lo pm_M37 (pc_q := 22) (ls_q := [.ref 25, .int 2, .int 0]) (st_q := []) rfl rfl rfl ?_
  refine pm_R_lo pm_M37 (pc_q := 23) rfl rfl rfl ?_
  refine pm_R_stat pm_M37 (pc_q := 26) rfl rfl rfl ?_
  refine pm_R_lo pm_M37 (pc_q := 27) rfl rfl rfl ?_
  refine pm_R_iald pm_M37 (pc_q := 28) (v := 2) rfl ((T56.old (by decide)).trans G.tb2) (T56.lt (by decide)) rfl rfl rfl ?_
  refine pm_R_br pm_M37 (pc_q := 31) (st_q := []) rfl rfl ?_
  refine pm_R_lo pm_M37 (pc_q := 32) rfl rfl rfl ?_
  refine pm_R_get pm_M37 (pc_q := 35) (v := .ref 30) rfl rfl T56.e25 (by decide) (T56.lt (by decide)) rfl rfl ?_
  refine pm_R_cv pm_M37 (pc_q := 38) (a := 30) (ra := []) (rest := []) (ls_q := [.ref 30]) rfl rfl (Or.inl rfl) pm_M16 T56.e30 rfl (by decide) (T56.lt (by decide)) rfl rfl (Nat.le_of_ble_eq_true rfl) rfl rfl ?_
  refine cl_c16 (d := d + 4) G T56  (fun m66 h67 T68 F69 W70 => ?_)
  have F71 := F60.trans (N := 0) (S := 0) F69 (by decide) (by decide) (by decide)
  have B72 : sf_B 0 50 (m66 5) := by rw [W70 5 (by decide)]; exact B24
  have ek73 : (m66 5).toInt = ((m 5)).toInt := by rw [W70 5 (by decide)]; exact ek25
  have B74 : sf_B 0 16 (m66 6) := by rw [W70 6 (by decide)]; exact B26
  have ek75 : (m66 6).toInt = ((m 6)).toInt := by rw [W70 6 (by decide)]; exact ek27
  have B76 : sf_B 0 99 (m66 7) := by rw [W70 7 (by decide)]; exact B28
  have ek77 : (m66 7).toInt = ((m 7)).toInt := by rw [W70 7 (by decide)]; exact ek29
  have B78 : sf_B (-1) 99 (m66 8) := by rw [W70 8 (by decide)]; exact B30
  have ek79 : (m66 8).toInt = ((m 8)).toInt := by rw [W70 8 (by decide)]; exact ek31
  have B80 : sf_B 0 4 (m66 3) := by rw [W70 3 (by decide)]; exact B33
  have ek81 : (m66 3).toInt = ((m17 3)).toInt := by rw [W70 3 (by decide)]
  have W82 : rf_W [3, 4, 5, 6, 7, 8, 10, 11, 12, 13] m m66 := W32.trans W70 (by decide)
  show pm_R _ 37 38 [.ref 25, .int 2, .int 0] [] _ _
  refine pm_R_lo pm_M37 (pc_q := 39) rfl rfl rfl ?_
  refine pm_R_get pm_M37 (pc_q := 42) (v := .ref 30) rfl rfl T68.e25 (by decide) (T68.lt (by decide)) rfl rfl ?_
  have B83 : sf_B 0 4 (m66 12) := T68.B 12
  refine pm_R_get pm_M37 (pc_q := 45) (v := .int (m66 12)) rfl rfl T68.e30 (by decide) (T68.lt (by decide)) rfl rfl ?_
  refine pm_R_op pm_M37 (pc_q := 46) (st_q := [.int 2, .int (m66 12)]) rfl rfl rfl ?_
  refine pm_R_icmp pm_M37 (t := 51) (pc_q := 49) rfl rfl rfl (fun c84 => ?_) (fun c84 => ?_)
  · have B85 : sf_B 2 2 (m66 12) := sf_eqL c84 sf_k2
    refine pm_R_lo pm_M37 (pc_q := 52) rfl rfl rfl ?_
    refine pm_R_get pm_M37 (pc_q := 55) (v := .ref 29) rfl rfl T68.e25 (by decide) (T68.lt (by decide)) rfl rfl ?_
    refine pm_R_lo pm_M37 (pc_q := 56) rfl rfl rfl ?_
    refine pm_R_lo pm_M37 (pc_q := 57) rfl rfl rfl ?_
    refine pm_R_get pm_M37 (pc_q := 60) (v := .ref 30) rfl rfl T68.e25 (by decide) (T68.lt (by decide)) rfl rfl ?_
    have B86 : sf_B 0 99 (m66 13) := T68.B 13
    refine pm_R_get pm_M37 (pc_q := 63) (v := .int (m66 13)) rfl rfl T68.e30 (by decide) (T68.lt (by decide)) rfl rfl ?_
    have e87 := (F69.cell G (by decide) (by decide) e58)
    refine cl_R_ist G pm_M37 T68 (pc_q := 64) rfl e87 (by decide) ⟨_, rfl⟩ rfl rfl (fun h88 T89 F90 e91 => ?_)
    have F92 := F90.cl (ck := ck) T68.1
    have F93 := F71.trans (N := 0) (S := 0) F92 (by decide) (by decide) (by decide)
    refine pm_R_lo pm_M37 (pc_q := 65) rfl rfl rfl ?_
    refine pm_R_lo pm_M37 (pc_q := 66) rfl rfl rfl ?_
    refine pm_R_lo pm_M37 (pc_q := 67) rfl rfl rfl ?_
    refine pm_R_cv pm_M37 (pc_q := 70) (a := 25) (ra := [.int 0, .int 2]) (rest := []) (ls_q := [.ref 25, .int 2, .int 0, pm_no, pm_no, pm_no]) rfl rfl (Or.inl rfl) pm_M39 T89.e25 rfl (by decide) (T89.lt (by decide)) rfl rfl (Nat.le_of_ble_eq_true rfl) rfl rfl ?_
    refine cl_c39_2_0 (d := d + 5) G T89  (fun m96 h97 T98 F99 W100 X101 => ?_)
    have F102 := F93.trans (N := 0) (S := 0) F99 (by decide) (by decide) (by decide)
    have B103 : sf_B 0 50 (m96 5) := by rw [W100 5 (by decide)]; exact B72
    have ek104 : (m96 5).toInt = ((m 5)).toInt := by rw [W100 5 (by decide)]; exact ek73
    have B105 : sf_B 0 16 (m96 6) := by rw [W100 6 (by decide)]; exact B74
    have ek106 : (m96 6).toInt = ((m 6)).toInt := by rw [W100 6 (by decide)]; exact ek75
    have B107 : sf_B 0 99 (m96 7) := by rw [W100 7 (by decide)]; exact B76
    have ek108 : (m96 7).toInt = ((m 7)).toInt := by rw [W100 7 (by decide)]; exact ek77
    have B109 : sf_B (-1) 99 (m96 8) := by rw [W100 8 (by decide)]; exact B78
    have ek110 : (m96 8).toInt = ((m 8)).toInt := by rw [W100 8 (by decide)]; exact ek79
    have B111 : sf_B 2 2 (m96 12) := by rw [W100 12 (by decide)]; exact B85
    have W112 : rf_W [3, 4, 5, 6, 7, 8, 10, 11, 12, 13] m m96 := W82.trans W100 (by decide)
    have B113 : sf_B 0 4 (m96 3) := T98.B 3
    show pm_R _ 37 70 [.ref 25, .int 2, .int 0] [] _ _
    have q114 := X101 _ e91
    refine pm_R_lo pm_M37 (pc_q := 73) (ls_q := [.ref 25, .int 2, .int 1]) (st_q := []) rfl rfl rfl ?_
    refine pm_R_br pm_M37 (pc_q := 22) rfl rfl ?_
    refine pm_R_lo pm_M37 (pc_q := 23) rfl rfl rfl ?_
    refine pm_R_stat pm_M37 (pc_q := 26) rfl rfl rfl ?_
    refine pm_R_lo pm_M37 (pc_q := 27) rfl rfl rfl ?_
    refine pm_R_iald pm_M37 (pc_q := 28) (v := 2) rfl ((T98.old (by decide)).trans G.tb2) (T98.lt (by decide)) rfl rfl rfl ?_
    refine pm_R_br pm_M37 (pc_q := 31) (st_q := []) rfl rfl ?_
    refine pm_R_lo pm_M37 (pc_q := 32) rfl rfl rfl ?_
    refine pm_R_get pm_M37 (pc_q := 35) (v := .ref 30) rfl rfl T98.e25 (by decide) (T98.lt (by decide)) rfl rfl ?_
    refine pm_R_cv pm_M37 (pc_q := 38) (a := 30) (ra := []) (rest := []) (ls_q := [.ref 30]) rfl rfl (Or.inl rfl) pm_M16 T98.e30 rfl (by decide) (T98.lt (by decide)) rfl rfl (Nat.le_of_ble_eq_true rfl) rfl rfl ?_
    refine cl_c16 (d := d + 4) G T98  (fun m120 h121 T122 F123 W124 => ?_)
    have F125 := F102.trans (N := 0) (S := 0) F123 (by decide) (by decide) (by decide)
    have B126 : sf_B 0 50 (m120 5) := by rw [W124 5 (by decide)]; exact B103
    have ek127 : (m120 5).toInt = ((m 5)).toInt := by rw [W124 5 (by decide)]; exact ek104
    have B128 : sf_B 0 16 (m120 6) := by rw [W124 6 (by decide)]; exact B105
    have ek129 : (m120 6).toInt = ((m 6)).toInt := by rw [W124 6 (by decide)]; exact ek106
    have B130 : sf_B 0 99 (m120 7) := by rw [W124 7 (by decide)]; exact B107
    have ek131 : (m120 7).toInt = ((m 7)).toInt := by rw [W124 7 (by decide)]; exact ek108
    have B132 : sf_B (-1) 99 (m120 8) := by rw [W124 8 (by decide)]; exact B109
    have ek133 : (m120 8).toInt = ((m 8)).toInt := by rw [W124 8 (by decide)]; exact ek110
    have B134 : sf_B 0 4 (m120 3) := by rw [W124 3 (by decide)]; exact B113
    have ek135 : (m120 3).toInt = ((m96 3)).toInt := by rw [W124 3 (by decide)]
    have W136 : rf_W [3, 4, 5, 6, 7, 8, 10, 11, 12, 13] m m120 := W112.trans W124 (by decide)
    show pm_R _ 37 38 [.ref 25, .int 2, .int 1] [] _ _
    refine pm_R_lo pm_M37 (pc_q := 39) rfl rfl rfl ?_
    refine pm_R_get pm_M37 (pc_q := 42) (v := .ref 30) rfl rfl T122.e25 (by decide) (T122.lt (by decide)) rfl rfl ?_
    have B137 : sf_B 0 4 (m120 12) := T122.B 12
    refine pm_R_get pm_M37 (pc_q := 45) (v := .int (m120 12)) rfl rfl T122.e30 (by decide) (T122.lt (by decide)) rfl rfl ?_
    refine pm_R_op pm_M37 (pc_q := 46) (st_q := [.int 2, .int (m120 12)]) rfl rfl rfl ?_
    refine pm_R_icmp pm_M37 (t := 51) (pc_q := 49) rfl rfl rfl (fun c138 => ?_) (fun c138 => ?_)
    · have B139 : sf_B 2 2 (m120 12) := sf_eqL c138 sf_k2
      refine pm_R_lo pm_M37 (pc_q := 52) rfl rfl rfl ?_
      refine pm_R_get pm_M37 (pc_q := 55) (v := .ref 29) rfl rfl T122.e25 (by decide) (T122.lt (by decide)) rfl rfl ?_
      refine pm_R_lo pm_M37 (pc_q := 56) rfl rfl rfl ?_
      refine pm_R_lo pm_M37 (pc_q := 57) rfl rfl rfl ?_
      refine pm_R_get pm_M37 (pc_q := 60) (v := .ref 30) rfl rfl T122.e25 (by decide) (T122.lt (by decide)) rfl rfl ?_
      have B140 : sf_B 0 99 (m120 13) := T122.B 13
      refine pm_R_get pm_M37 (pc_q := 63) (v := .int (m120 13)) rfl rfl T122.e30 (by decide) (T122.lt (by decide)) rfl rfl ?_
      have e141 := (F123.cell G (by decide) (by decide) (F99.cell G (by decide) (by decide) e91))
      refine cl_R_ist G pm_M37 T122 (pc_q := 64) rfl e141 (by decide) ⟨_, rfl⟩ rfl rfl (fun h142 T143 F144 e145 => ?_)
      have F146 := F144.cl (ck := ck) T122.1
      have F147 := F125.trans (N := 0) (S := 0) F146 (by decide) (by decide) (by decide)
      refine pm_R_lo pm_M37 (pc_q := 65) rfl rfl rfl ?_
      refine pm_R_lo pm_M37 (pc_q := 66) rfl rfl rfl ?_
      refine pm_R_lo pm_M37 (pc_q := 67) rfl rfl rfl ?_
      refine pm_R_cv pm_M37 (pc_q := 70) (a := 25) (ra := [.int 1, .int 2]) (rest := []) (ls_q := [.ref 25, .int 2, .int 1, pm_no, pm_no, pm_no]) rfl rfl (Or.inl rfl) pm_M39 T143.e25 rfl (by decide) (T143.lt (by decide)) rfl rfl (Nat.le_of_ble_eq_true rfl) rfl rfl ?_
      refine cl_c39_2_1 (d := d + 5) G T143  (fun m150 h151 T152 F153 W154 X155 => ?_)
      have F156 := F147.trans (N := 0) (S := 0) F153 (by decide) (by decide) (by decide)
      have B157 : sf_B 0 50 (m150 5) := by rw [W154 5 (by decide)]; exact B126
      have ek158 : (m150 5).toInt = ((m 5)).toInt := by rw [W154 5 (by decide)]; exact ek127
      have B159 : sf_B 0 16 (m150 6) := by rw [W154 6 (by decide)]; exact B128
      have ek160 : (m150 6).toInt = ((m 6)).toInt := by rw [W154 6 (by decide)]; exact ek129
      have B161 : sf_B 0 99 (m150 7) := by rw [W154 7 (by decide)]; exact B130
      have ek162 : (m150 7).toInt = ((m 7)).toInt := by rw [W154 7 (by decide)]; exact ek131
      have B163 : sf_B (-1) 99 (m150 8) := by rw [W154 8 (by decide)]; exact B132
      have ek164 : (m150 8).toInt = ((m 8)).toInt := by rw [W154 8 (by decide)]; exact ek133
      have B165 : sf_B 2 2 (m150 12) := by rw [W154 12 (by decide)]; exact B139
      have W166 : rf_W [3, 4, 5, 6, 7, 8, 10, 11, 12, 13] m m150 := W136.trans W154 (by decide)
      have B167 : sf_B 0 4 (m150 3) := T152.B 3
      show pm_R _ 37 70 [.ref 25, .int 2, .int 1] [] _ _
      have q168 := X155 _ e145
      refine pm_R_lo pm_M37 (pc_q := 73) (ls_q := [.ref 25, .int 2, .int 2]) (st_q := []) rfl rfl rfl ?_
      refine pm_R_br pm_M37 (pc_q := 22) rfl rfl ?_
      refine pm_R_lo pm_M37 (pc_q := 23) rfl rfl rfl ?_
      refine pm_R_stat pm_M37 (pc_q := 26) rfl rfl rfl ?_
      refine pm_R_lo pm_M37 (pc_q := 27) rfl rfl rfl ?_
      refine pm_R_iald pm_M37 (pc_q := 28) (v := 2) rfl ((T152.old (by decide)).trans G.tb2) (T152.lt (by decide)) rfl rfl rfl ?_
      refine pm_R_br pm_M37 (pc_q := 76) (st_q := []) rfl rfl ?_
      refine pm_R_lo pm_M37 (pc_q := 77) rfl rfl rfl ?_
      refine pm_R_br pm_M37 (pc_q := 114) (st_q := []) rfl rfl ?_
      refine pm_R_lo pm_M37 (pc_q := 115) (pm_q37_1 (Nat.le_of_ble_eq_true rfl)) rfl rfl ?_
      refine pm_R_get pm_M37 (pc_q := 118) (v := .ref 30) (pm_q37_1 (Nat.le_of_ble_eq_true rfl)) rfl T152.e25 (by decide) (T152.lt (by decide)) rfl rfl ?_
      refine pm_R_cv pm_M37 (pc_q := 121) (a := 30) (ra := []) (rest := []) (ls_q := [.ref 30]) (pm_q37_1 (Nat.le_of_ble_eq_true rfl)) rfl (Or.inl rfl) pm_M16 T152.e30 rfl (by decide) (T152.lt (by decide)) rfl rfl (Nat.le_of_ble_eq_true rfl) rfl rfl ?_
      refine cl_c16 (d := d + 4) G T152  (fun m174 h175 T176 F177 W178 => ?_)
      have F179 := F156.trans (N := 0) (S := 0) F177 (by decide) (by decide) (by decide)
      have B180 : sf_B 0 50 (m174 5) := by rw [W178 5 (by decide)]; exact B157
      have ek181 : (m174 5).toInt = ((m 5)).toInt := by rw [W178 5 (by decide)]; exact ek158
      have B182 : sf_B 0 16 (m174 6) := by rw [W178 6 (by decide)]; exact B159
      have ek183 : (m174 6).toInt = ((m 6)).toInt := by rw [W178 6 (by decide)]; exact ek160
      have B184 : sf_B 0 99 (m174 7) := by rw [W178 7 (by decide)]; exact B161
      have ek185 : (m174 7).toInt = ((m 7)).toInt := by rw [W178 7 (by decide)]; exact ek162
      have B186 : sf_B (-1) 99 (m174 8) := by rw [W178 8 (by decide)]; exact B163
      have ek187 : (m174 8).toInt = ((m 8)).toInt := by rw [W178 8 (by decide)]; exact ek164
      have B188 : sf_B 0 4 (m174 3) := by rw [W178 3 (by decide)]; exact B167
      have ek189 : (m174 3).toInt = ((m150 3)).toInt := by rw [W178 3 (by decide)]
      have W190 : rf_W [3, 4, 5, 6, 7, 8, 10, 11, 12, 13] m m174 := W166.trans W178 (by decide)
      show pm_R _ 37 121 [.ref 25, .int 2, .int 2] [] _ _
      refine pm_R_lo pm_M37 (pc_q := 122) (pm_q37_1 (Nat.le_of_ble_eq_true rfl)) rfl rfl ?_
      refine pm_R_get pm_M37 (pc_q := 125) (v := .ref 30) (pm_q37_1 (Nat.le_of_ble_eq_true rfl)) rfl T176.e25 (by decide) (T176.lt (by decide)) rfl rfl ?_
      have B191 : sf_B 0 4 (m174 12) := T176.B 12
      refine pm_R_get pm_M37 (pc_q := 128) (v := .int (m174 12)) (pm_q37_1 (Nat.le_of_ble_eq_true rfl)) rfl T176.e30 (by decide) (T176.lt (by decide)) rfl rfl ?_
      refine pm_R_op pm_M37 (pc_q := 129) (st_q := [.int 3, .int (m174 12)]) (pm_q37_1 (Nat.le_of_ble_eq_true rfl)) rfl rfl ?_
      refine pm_R_icmp pm_M37 (t := 134) (pc_q := 132) (pm_q37_1 (Nat.le_of_ble_eq_true rfl)) rfl rfl (fun c192 => ?_) (fun c192 => ?_)
      · have B193 : sf_B 3 3 (m174 12) := sf_eqL c192 sf_k3
        refine pm_R_lo pm_M37 (pc_q := 135) (pm_q37_1 (Nat.le_of_ble_eq_true rfl)) rfl rfl ?_
        refine pm_R_lo pm_M37 (pc_q := 136) (pm_q37_1 (Nat.le_of_ble_eq_true rfl)) rfl rfl ?_
        refine pm_R_cv pm_M37 (pc_q := 139) (a := 25) (ra := [.int 2]) (rest := []) (ls_q := [.ref 25, .int 2]) (pm_q37_1 (Nat.le_of_ble_eq_true rfl)) rfl (Or.inl rfl) pm_M40 T176.e25 rfl (by decide) (T176.lt (by decide)) rfl rfl (Nat.le_of_ble_eq_true rfl) rfl rfl ?_
        refine pm_R_lo pm_M40 (pc_q := 1) rfl rfl rfl ?_
        refine pm_R_get pm_M40 (pc_q := 4) (v := .int (m150 3)) rfl rfl T176.e25 (by decide) (T176.lt (by decide)) (congrArg (fun z => some (Value.int z)) (Int32.toInt_inj.mp (cl_aux3 _ _ ek189))) rfl ?_
        refine pm_R_ifc pm_M40 (t := 8) (pc_q := 7) rfl rfl rfl (fun c194 => ?_) (fun c194 => ?_)
        · have y195 := q168 (cl_aux67 _ (congrArg Int32.toInt c194))
          have y196 := q114 (cl_aux68 _ _ ek135 y195.1)
          have y197 := X22 (cl_aux68 _ _ ek81 y196.1)
          have B198 : sf_B 0 9 (m120 13) := ⟨B140.1, cl_upE (P := fun x => x.toInt ≤ 9) y195.2.2⟩
          have B199 : sf_B 0 9 (m66 13) := ⟨B86.1, cl_upE (P := fun x => x.toInt ≤ 9) y196.2.2⟩
          have B200 : sf_B 0 0 (m150 3) := sf_eqL c194 sf_k0
          refine pm_R_lo pm_M40 (pc_q := 9) rfl rfl rfl ?_
          refine pm_R_br pm_M40 (pc_q := 80) (st_q := []) rfl rfl ?_
          refine pm_R_lo pm_M40 (pc_q := 81) rfl rfl rfl ?_
          refine pm_R_get pm_M40 (pc_q := 84) (v := .ref 28) rfl rfl T176.e25 (by decide) (T176.lt (by decide)) rfl rfl ?_
          refine pm_R_lo pm_M40 (pc_q := 85) rfl rfl rfl ?_
          refine pm_R_get pm_M40 (pc_q := 88) (v := .ref 29) rfl rfl T176.e25 (by decide) (T176.lt (by decide)) rfl rfl ?_
          refine pm_R_op pm_M40 (pc_q := 89) (st_q := [.int 0, .ref 29, .ref 28]) rfl rfl rfl ?_
          have e204 := (F177.cell G (by decide) (by decide) (F153.cell G (by decide) (by decide) e145))
          refine pm_R_iald pm_M40 (pc_q := 90) (v := (m66 13)) rfl e204 (T176.lt (by decide)) rfl (Eq.trans (sf_upd_nec (k := Int32.toNatClampNeg 1) (j := Int32.toNatClampNeg 0) (by decide)) sf_upd_eq) rfl ?_
          refine pm_R_op pm_M40 (pc_q := 91) (st_q := [.int (m66 13), .ref 28, .int (m66 13), .ref 28]) rfl rfl rfl ?_
          have e208 := (F177.cell G (by decide) (by decide) (F153.cell G (by decide) (by decide) (F146.cell G (by decide) (by decide) (F123.cell G (by decide) (by decide) (F99.cell G (by decide) (by decide) (F92.cell G (by decide) (by decide) (F69.cell G (by decide) (by decide) (F59.cell G (by decide) (by decide) (F53.cell G (by decide) (by decide) (F47.cell G (by decide) (by decide) (F41.cell G (by decide) (by decide) (F20.cell G (by decide) (by decide) e2))))))))))))
          obtain ⟨z205, ez206⟩ : ∃ y, f1 (Int32.toNatClampNeg (m66 13)) = y := ⟨_, rfl⟩
          have B207 : sf_B 0 1023 z205 := ez206 ▸ b3 _
          refine pm_R_iald pm_M40 (pc_q := 92) (v := z205) rfl e208 (T176.lt (by decide)) (sf_in B199 (by decide) (by decide)) ez206 rfl ?_
          refine pm_R_op pm_M40 (pc_q := 93) (st_q := [.int 1, .int z205, .int (m66 13), .ref 28]) rfl rfl rfl ?_
          refine pm_R_lo pm_M40 (pc_q := 94) rfl rfl rfl ?_
          refine pm_R_get pm_M40 (pc_q := 97) (v := .ref 29) rfl rfl T176.e25 (by decide) (T176.lt (by decide)) rfl rfl ?_
          refine pm_R_op pm_M40 (pc_q := 98) (st_q := [.int 1, .ref 29, .int 1, .int z205, .int (m66 13), .ref 28]) rfl rfl rfl ?_
          refine pm_R_iald pm_M40 (pc_q := 99) (v := (m120 13)) rfl e204 (T176.lt (by decide)) rfl sf_upd_eq rfl ?_
          refine sf_R_shl10 pm_M40 (pc_q := 100) rfl rfl B198 (fun z212 B214 => ?_)
          refine sf_R_ior10 pm_M40 (pc_q := 101) rfl rfl B207 B214 (fun z215 B217 => ?_)
          refine cl_R_ist G pm_M40 T176 (pc_q := 102) rfl e208 (by decide) ⟨_, rfl⟩ (sf_in B199 (by decide) (by decide)) rfl (fun h218 T219 F220 e221 => ?_)
          have F222 := F220.cl (ck := ck) T176.1
          have F223 := F179.trans (N := 0) (S := 0) F222 (by decide) (by decide) (by decide)
          refine pm_R_br pm_M40 (pc_q := 123) rfl rfl ?_
          refine pm_R_ret pm_M40 (r := none) rfl rfl ?_
          show pm_R _ 37 139 [.ref 25, .int 2, .int 2] [] _ _
          refine pm_R_op pm_M37 (pc_q := 140) (st_q := [.int 1]) (pm_q37_1 (Nat.le_of_ble_eq_true rfl)) rfl rfl ?_
          have e224 := (F222.cell G (by decide) (by decide) (F177.cell G (by decide) (by decide) (F153.cell G (by decide) (by decide) (F146.cell G (by decide) (by decide) (F123.cell G (by decide) (by decide) (F99.cell G (by decide) (by decide) (F92.cell G (by decide) (by decide) (F69.cell G (by decide) (by decide) (F59.cell G (by decide) (by decide) (F53.cell G (by decide) (by decide) (F47.cell G (by decide) (by decide) (F41.cell G (by decide) (by decide) (F20.cell G (by decide) (by decide) e5)))))))))))))
          have e225 := (F222.cell G (by decide) (by decide) (F177.cell G (by decide) (by decide) (F153.cell G (by decide) (by decide) (F146.cell G (by decide) (by decide) (F123.cell G (by decide) (by decide) (F99.cell G (by decide) (by decide) (F92.cell G (by decide) (by decide) (F69.cell G (by decide) (by decide) (F59.cell G (by decide) (by decide) (F53.cell G (by decide) (by decide) (F47.cell G (by decide) (by decide) (F41.cell G (by decide) (by decide) (F20.cell G (by decide) (by decide) e8)))))))))))))
          exact pm_R_ret pm_M37 (r := some (.int 1)) (pm_q37_1 (Nat.le_of_ble_eq_true rfl)) rfl (K 1 m174 h218 T219 F223 W190 (fun z => ⟨_, _, e224, e225, (R.at (cl_aux67 _ (X22 (cl_aux68 _ _ ek81 (q114 (cl_aux68 _ _ ek135 (q168 (cl_aux68 _ _ ek189 z)).1)).1)).1) e5 e8).keep (cl_aux3 _ _ ek181) (cl_aux3 _ _ ek183) (cl_aux3 _ _ ek185) (cl_aux3 _ _ ek187)⟩) ⟨_, e221, (sf_upd b3 B217 _)⟩ (sf_weak sf_k1 (by decide) (by decide)))
        · have B226 : sf_B 1 4 (m150 3) := sf_neL0 c194 sf_k0 B167
          refine pm_R_ret pm_M40 (r := none) rfl rfl ?_
          show pm_R _ 37 139 [.ref 25, .int 2, .int 2] [] _ _
          refine pm_R_op pm_M37 (pc_q := 140) (st_q := [.int 1]) (pm_q37_1 (Nat.le_of_ble_eq_true rfl)) rfl rfl ?_
          have e227 := (F177.cell G (by decide) (by decide) (F153.cell G (by decide) (by decide) (F146.cell G (by decide) (by decide) (F123.cell G (by decide) (by decide) (F99.cell G (by decide) (by decide) (F92.cell G (by decide) (by decide) (F69.cell G (by decide) (by decide) (F59.cell G (by decide) (by decide) (F53.cell G (by decide) (by decide) (F47.cell G (by decide) (by decide) (F41.cell G (by decide) (by decide) (F20.cell G (by decide) (by decide) e2))))))))))))
          have e228 := (F177.cell G (by decide) (by decide) (F153.cell G (by decide) (by decide) (F146.cell G (by decide) (by decide) (F123.cell G (by decide) (by decide) (F99.cell G (by decide) (by decide) (F92.cell G (by decide) (by decide) (F69.cell G (by decide) (by decide) (F59.cell G (by decide) (by decide) (F53.cell G (by decide) (by decide) (F47.cell G (by decide) (by decide) (F41.cell G (by decide) (by decide) (F20.cell G (by decide) (by decide) e5))))))))))))
          have e229 := (F177.cell G (by decide) (by decide) (F153.cell G (by decide) (by decide) (F146.cell G (by decide) (by decide) (F123.cell G (by decide) (by decide) (F99.cell G (by decide) (by decide) (F92.cell G (by decide) (by decide) (F69.cell G (by decide) (by decide) (F59.cell G (by decide) (by decide) (F53.cell G (by decide) (by decide) (F47.cell G (by decide) (by decide) (F41.cell G (by decide) (by decide) (F20.cell G (by decide) (by decide) e8))))))))))))
          exact pm_R_ret pm_M37 (r := some (.int 1)) (pm_q37_1 (Nat.le_of_ble_eq_true rfl)) rfl (K 1 m174 h175 T176 F179 W190 (fun z => ⟨_, _, e228, e229, (R.at (cl_aux67 _ (X22 (cl_aux68 _ _ ek81 (q114 (cl_aux68 _ _ ek135 (q168 (cl_aux68 _ _ ek189 z)).1)).1)).1) e5 e8).keep (cl_aux3 _ _ ek181) (cl_aux3 _ _ ek183) (cl_aux3 _ _ ek185) (cl_aux3 _ _ ek187)⟩) ⟨_, e227, b3⟩ (sf_weak sf_k1 (by decide) (by decide)))
      · skip
        refine pm_R_op pm_M37 (pc_q := 133) (st_q := [.int 0]) (pm_q37_1 (Nat.le_of_ble_eq_true rfl)) rfl rfl ?_
        have e230 := (F177.cell G (by decide) (by decide) (F153.cell G (by decide) (by decide) (F146.cell G (by decide) (by decide) (F123.cell G (by decide) (by decide) (F99.cell G (by decide) (by decide) (F92.cell G (by decide) (by decide) (F69.cell G (by decide) (by decide) (F59.cell G (by decide) (by decide) (F53.cell G (by decide) (by decide) (F47.cell G (by decide) (by decide) (F41.cell G (by decide) (by decide) (F20.cell G (by decide) (by decide) e2))))))))))))
        have e231 := (F177.cell G (by decide) (by decide) (F153.cell G (by decide) (by decide) (F146.cell G (by decide) (by decide) (F123.cell G (by decide) (by decide) (F99.cell G (by decide) (by decide) (F92.cell G (by decide) (by decide) (F69.cell G (by decide) (by decide) (F59.cell G (by decide) (by decide) (F53.cell G (by decide) (by decide) (F47.cell G (by decide) (by decide) (F41.cell G (by decide) (by decide) (F20.cell G (by decide) (by decide) e5))))))))))))
        have e232 := (F177.cell G (by decide) (by decide) (F153.cell G (by decide) (by decide) (F146.cell G (by decide) (by decide) (F123.cell G (by decide) (by decide) (F99.cell G (by decide) (by decide) (F92.cell G (by decide) (by decide) (F69.cell G (by decide) (by decide) (F59.cell G (by decide) (by decide) (F53.cell G (by decide) (by decide) (F47.cell G (by decide) (by decide) (F41.cell G (by decide) (by decide) (F20.cell G (by decide) (by decide) e8))))))))))))
        exact pm_R_ret pm_M37 (r := some (.int 0)) (pm_q37_1 (Nat.le_of_ble_eq_true rfl)) rfl (K 0 m174 h175 T176 F179 W190 (fun z => ⟨_, _, e231, e232, (R.at (cl_aux67 _ (X22 (cl_aux68 _ _ ek81 (q114 (cl_aux68 _ _ ek135 (q168 (cl_aux68 _ _ ek189 z)).1)).1)).1) e5 e8).keep (cl_aux3 _ _ ek181) (cl_aux3 _ _ ek183) (cl_aux3 _ _ ek185) (cl_aux3 _ _ ek187)⟩) ⟨_, e230, b3⟩ (sf_weak sf_k0 (by decide) (by decide)))
    · skip
      refine pm_R_op pm_M37 (pc_q := 50) (st_q := [.int 0]) rfl rfl rfl ?_
      have e233 := (F123.cell G (by decide) (by decide) (F99.cell G (by decide) (by decide) (F92.cell G (by decide) (by decide) (F69.cell G (by decide) (by decide) (F59.cell G (by decide) (by decide) (F53.cell G (by decide) (by decide) (F47.cell G (by decide) (by decide) (F41.cell G (by decide) (by decide) (F20.cell G (by decide) (by decide) e2)))))))))
      have e234 := (F123.cell G (by decide) (by decide) (F99.cell G (by decide) (by decide) (F92.cell G (by decide) (by decide) (F69.cell G (by decide) (by decide) (F59.cell G (by decide) (by decide) (F53.cell G (by decide) (by decide) (F47.cell G (by decide) (by decide) (F41.cell G (by decide) (by decide) (F20.cell G (by decide) (by decide) e5)))))))))
      have e235 := (F123.cell G (by decide) (by decide) (F99.cell G (by decide) (by decide) (F92.cell G (by decide) (by decide) (F69.cell G (by decide) (by decide) (F59.cell G (by decide) (by decide) (F53.cell G (by decide) (by decide) (F47.cell G (by decide) (by decide) (F41.cell G (by decide) (by decide) (F20.cell G (by decide) (by decide) e8)))))))))
      exact pm_R_ret pm_M37 (r := some (.int 0)) rfl rfl (K 0 m120 h121 T122 F125 W136 (fun z => ⟨_, _, e234, e235, (R.at (cl_aux67 _ (X22 (cl_aux68 _ _ ek81 (q114 (cl_aux68 _ _ ek135 z)).1)).1) e5 e8).keep (cl_aux3 _ _ ek127) (cl_aux3 _ _ ek129) (cl_aux3 _ _ ek131) (cl_aux3 _ _ ek133)⟩) ⟨_, e233, b3⟩ (sf_weak sf_k0 (by decide) (by decide)))
  · skip
    refine pm_R_op pm_M37 (pc_q := 50) (st_q := [.int 0]) rfl rfl rfl ?_
    have e236 := (F69.cell G (by decide) (by decide) (F59.cell G (by decide) (by decide) (F53.cell G (by decide) (by decide) (F47.cell G (by decide) (by decide) (F41.cell G (by decide) (by decide) (F20.cell G (by decide) (by decide) e2))))))
    have e237 := (F69.cell G (by decide) (by decide) (F59.cell G (by decide) (by decide) (F53.cell G (by decide) (by decide) (F47.cell G (by decide) (by decide) (F41.cell G (by decide) (by decide) (F20.cell G (by decide) (by decide) e5))))))
    have e238 := (F69.cell G (by decide) (by decide) (F59.cell G (by decide) (by decide) (F53.cell G (by decide) (by decide) (F47.cell G (by decide) (by decide) (F41.cell G (by decide) (by decide) (F20.cell G (by decide) (by decide) e8))))))
    exact pm_R_ret pm_M37 (r := some (.int 0)) rfl rfl (K 0 m66 h67 T68 F71 W82 (fun z => ⟨_, _, e237, e238, (R.at (cl_aux67 _ (X22 (cl_aux68 _ _ ek81 z)).1) e5 e8).keep (cl_aux3 _ _ ek73) (cl_aux3 _ _ ek75) (cl_aux3 _ _ ek77) (cl_aux3 _ _ ek79)⟩) ⟨_, e236, b3⟩ (sf_weak sf_k0 (by decide) (by decide)))

set_option maxRecDepth 100000 in
set_option maxHeartbeats 4000000 in
/-- SilentTable$TextReader.readLine -/
theorem cl_c37_3 {d : Nat} {ck : cl_K} {E : Nat → pm_E} {m : Nat → Int32} {o : Nat → Option Nat} {h : pm_H} {Q : Option Value → pm_H → Prop}  (G : cl_G ck E) (T : cl_T ck E m o h) (R : cl_Rd 2 m h) (Y : cl_Y h) (K : ∀ (r : Int32) (m_q : Nat → Int32) (h_q : pm_H), cl_T ck E m_q o h_q → cl_F ck [25, 29, 30] 0 0 h h_q → rf_W [3, 4, 5, 6, 7, 8, 10, 11, 12, 13] m m_q → cl_Rd 2 m_q h_q → cl_Y h_q → sf_B 0 1 r → Q (some (.int r)) h_q) : pm_R (d + 7) 37 0 [.ref 25, .int 3, pm_no] [] h Q := by
  obtain ⟨f1, e2, b3⟩ := Y
  obtain ⟨f4, e5⟩ := T.C 26 (by decide) (by decide)
  obtain ⟨f7, e8⟩ := T.C 27 (by decide) (by decide)
  have B10 : sf_B 0 4 (m 3) := T.B 3
  have B11 : sf_B 0 50 (m 5) := T.B 5
  have B12 : sf_B 0 16 (m 6) := T.B 6
  have B13 : sf_B 0 99 (m 7) := T.B 7
  have B14 : sf_B (-1) 99 (m 8) := T.B 8
  refine pm_R_lo pm_M37 (pc_q := 1) rfl rfl rfl ?_
  refine pm_R_op pm_M37 (pc_q := 2) (st_q := [.int (-1), .int 3]) rfl rfl rfl ?_
  refine pm_R_br pm_M37 (pc_q := 7) (st_q := []) rfl rfl ?_
  refine pm_R_lo pm_M37 (pc_q := 8) rfl rfl rfl ?_
  refine pm_R_lo pm_M37 (pc_q := 9) rfl rfl rfl ?_
  refine pm_R_cv pm_M37 (pc_q := 12) (a := 25) (ra := [.int 3]) (rest := []) (ls_q := [.ref 25, .int 3, pm_no, pm_no]) rfl rfl (Or.inl rfl) pm_M38 T.e25 rfl (by decide) (T.lt (by decide)) rfl rfl (Nat.le_of_ble_eq_true rfl) rfl rfl ?_
  refine cl_c38_3 (d := d + 5) G T  (fun m17 h18 T19 F20 W21 X22 => ?_)
  have F23 := (cl_F.refl (ck := ck) (A := [25, 29, 30]) (n := 0) (s := 0) T.1).trans (N := 0) (S := 0) F20 (by decide) (by decide) (by decide)
  have B24 : sf_B 0 50 (m17 5) := by rw [W21 5 (by decide)]; exact B11
  have ek25 : (m17 5).toInt = ((m 5)).toInt := by rw [W21 5 (by decide)]
  have B26 : sf_B 0 16 (m17 6) := by rw [W21 6 (by decide)]; exact B12
  have ek27 : (m17 6).toInt = ((m 6)).toInt := by rw [W21 6 (by decide)]
  have B28 : sf_B 0 99 (m17 7) := by rw [W21 7 (by decide)]; exact B13
  have ek29 : (m17 7).toInt = ((m 7)).toInt := by rw [W21 7 (by decide)]
  have B30 : sf_B (-1) 99 (m17 8) := by rw [W21 8 (by decide)]; exact B14
  have ek31 : (m17 8).toInt = ((m 8)).toInt := by rw [W21 8 (by decide)]
  have W32 : rf_W [3, 4, 5, 6, 7, 8, 10, 11, 12, 13] m m17 := (rf_W.refl [3, 4, 5, 6, 7, 8, 10, 11, 12, 13] m).trans W21 (by decide)
  have B33 : sf_B 0 4 (m17 3) := T19.B 3
  show pm_R _ 37 12 [.ref 25, .int 3, pm_no] [] _ _
  refine pm_R_lo pm_M37 (pc_q := 13) rfl rfl rfl ?_
  refine pm_R_get pm_M37 (pc_q := 16) (v := .ref 29) rfl rfl T19.e25 (by decide) (T19.lt (by decide)) rfl rfl ?_
  refine pm_R_op pm_M37 (pc_q := 17) (st_q := [.int (-1), .ref 29]) rfl rfl rfl ?_
  refine pm_R_cs pm_M37 (pc_q := 20) (ra := [.int (-1), .ref 29]) (rest := []) (ls_q := [.ref 29, .int (-1), pm_no, pm_no]) rfl rfl (Or.inl rfl) pm_M13 rfl rfl (Nat.le_of_ble_eq_true rfl) rfl rfl ?_
  refine pm_R_op pm_M13 (pc_q := 1) (st_q := [.int 0]) rfl rfl rfl ?_
  refine pm_R_lo pm_M13 (pc_q := 2) (ls_q := [.ref 29, .int (-1), .int 0, pm_no]) (st_q := []) rfl rfl rfl ?_
  refine pm_R_lo pm_M13 (pc_q := 3) rfl rfl rfl ?_
  obtain ⟨f34, e35⟩ := T19.C 29 (by decide) (by decide)
  refine pm_R_alen pm_M13 (pc_q := 4) (v := 4) rfl e35 (by decide) (T19.lt (by decide)) (by decide) rfl rfl ?_
  refine pm_R_lo pm_M13 (pc_q := 5) (ls_q := [.ref 29, .int (-1), .int 0, .int 4]) (st_q := []) rfl rfl rfl ?_
  refine pm_R_lo pm_M13 (pc_q := 6) rfl rfl rfl ?_
  refine pm_R_lo pm_M13 (pc_q := 7) rfl rfl rfl ?_
  refine pm_R_br pm_M13 (pc_q := 10) (st_q := []) rfl rfl ?_
  refine pm_R_lo pm_M13 (pc_q := 11) rfl rfl rfl ?_
  refine pm_R_lo pm_M13 (pc_q := 12) rfl rfl rfl ?_
  refine pm_R_lo pm_M13 (pc_q := 13) rfl rfl rfl ?_
  refine cl_R_ist G pm_M13 T19 (pc_q := 14) rfl e35 (by decide) ⟨_, rfl⟩ rfl rfl (fun h37 T38 F39 e40 => ?_)
  have F41 := F39.cl (ck := ck) T19.1
  have F42 := F23.trans (N := 0) (S := 0) F41 (by decide) (by decide) (by decide)
  refine pm_R_lo pm_M13 (pc_q := 17) (ls_q := [.ref 29, .int (-1), .int 1, .int 4]) (st_q := []) rfl rfl rfl ?_
  refine pm_R_br pm_M13 (pc_q := 5) rfl rfl ?_
  refine pm_R_lo pm_M13 (pc_q := 6) rfl rfl rfl ?_
  refine pm_R_lo pm_M13 (pc_q := 7) rfl rfl rfl ?_
  refine pm_R_br pm_M13 (pc_q := 10) (st_q := []) rfl rfl ?_
  refine pm_R_lo pm_M13 (pc_q := 11) rfl rfl rfl ?_
  refine pm_R_lo pm_M13 (pc_q := 12) rfl rfl rfl ?_
  refine pm_R_lo pm_M13 (pc_q := 13) rfl rfl rfl ?_
  refine cl_R_ist G pm_M13 T38 (pc_q := 14) rfl e40 (by decide) ⟨_, rfl⟩ rfl rfl (fun h43 T44 F45 e46 => ?_)
  have F47 := F45.cl (ck := ck) T38.1
  have F48 := F42.trans (N := 0) (S := 0) F47 (by decide) (by decide) (by decide)
  refine pm_R_lo pm_M13 (pc_q := 17) (ls_q := [.ref 29, .int (-1), .int 2, .int 4]) (st_q := []) rfl rfl rfl ?_
  refine pm_R_br pm_M13 (pc_q := 5) rfl rfl ?_
  refine pm_R_lo pm_M13 (pc_q := 6) rfl rfl rfl ?_
  refine pm_R_lo pm_M13 (pc_q := 7) rfl rfl rfl ?_
  refine pm_R_br pm_M13 (pc_q := 10) (st_q := []) rfl rfl ?_
  refine pm_R_lo pm_M13 (pc_q := 11) rfl rfl rfl ?_
  refine pm_R_lo pm_M13 (pc_q := 12) rfl rfl rfl ?_
  refine pm_R_lo pm_M13 (pc_q := 13) rfl rfl rfl ?_
  refine cl_R_ist G pm_M13 T44 (pc_q := 14) rfl e46 (by decide) ⟨_, rfl⟩ rfl rfl (fun h49 T50 F51 e52 => ?_)
  have F53 := F51.cl (ck := ck) T44.1
  have F54 := F48.trans (N := 0) (S := 0) F53 (by decide) (by decide) (by decide)
  refine pm_R_lo pm_M13 (pc_q := 17) (ls_q := [.ref 29, .int (-1), .int 3, .int 4]) (st_q := []) rfl rfl rfl ?_
  refine pm_R_br pm_M13 (pc_q := 5) rfl rfl ?_
  refine pm_R_lo pm_M13 (pc_q := 6) rfl rfl rfl ?_
  refine pm_R_lo pm_M13 (pc_q := 7) rfl rfl rfl ?_
  refine pm_R_br pm_M13 (pc_q := 10) (st_q := []) rfl rfl ?_
  refine pm_R_lo pm_M13 (pc_q := 11) rfl rfl rfl ?_
  refine pm_R_lo pm_M13 (pc_q := 12) rfl rfl rfl ?_
  refine pm_R_lo pm_M13 (pc_q := 13) rfl rfl rfl ?_
  refine cl_R_ist G pm_M13 T50 (pc_q := 14) rfl e52 (by decide) ⟨_, rfl⟩ rfl rfl (fun h55 T56 F57 e58 => ?_)
  have F59 := F57.cl (ck := ck) T50.1
  have F60 := F54.trans (N := 0) (S := 0) F59 (by decide) (by decide) (by decide)
  refine pm_R_lo pm_M13 (pc_q := 17) (ls_q := [.ref 29, .int (-1), .int 4, .int 4]) (st_q := []) rfl rfl rfl ?_
  refine pm_R_br pm_M13 (pc_q := 5) rfl rfl ?_
  refine pm_R_lo pm_M13 (pc_q := 6) rfl rfl rfl ?_
  refine pm_R_lo pm_M13 (pc_q := 7) rfl rfl rfl ?_
  refine pm_R_br pm_M13 (pc_q := 20) (st_q := []) rfl rfl ?_
  refine pm_R_ret pm_M13 (r := none) rfl rfl ?_
  show pm_R _ 37 20 [.ref 25, .int 3, pm_no] [] _ _
  refine pm_R_op pm_M37 (pc_q := 21) (st_q := [.int 0]) rfl rfl rfl ?_
  refine pm_R_lo pm_M37 (pc_q := 22) (ls_q := [.ref 25, .int 3, .int 0]) (st_q := []) rfl rfl rfl ?_
  refine pm_R_lo pm_M37 (pc_q := 23) rfl rfl rfl ?_
  refine pm_R_stat pm_M37 (pc_q := 26) rfl rfl rfl ?_
  refine pm_R_lo pm_M37 (pc_q := 27) rfl rfl rfl ?_
  refine pm_R_iald pm_M37 (pc_q := 28) (v := 1) rfl ((T56.old (by decide)).trans G.tb2) (T56.lt (by decide)) rfl rfl rfl ?_
  refine pm_R_br pm_M37 (pc_q := 31) (st_q := []) rfl rfl ?_
  refine pm_R_lo pm_M37 (pc_q := 32) rfl rfl rfl ?_
  refine pm_R_get pm_M37 (pc_q := 35) (v := .ref 30) rfl rfl T56.e25 (by decide) (T56.lt (by decide)) rfl rfl ?_
  refine pm_R_cv pm_M37 (pc_q := 38) (a := 30) (ra := []) (rest := []) (ls_q := [.ref 30]) rfl rfl (Or.inl rfl) pm_M16 T56.e30 rfl (by decide) (T56.lt (by decide)) rfl rfl (Nat.le_of_ble_eq_true rfl) rfl rfl ?_
  refine cl_c16 (d := d + 4) G T56  (fun m66 h67 T68 F69 W70 => ?_)
  have F71 := F60.trans (N := 0) (S := 0) F69 (by decide) (by decide) (by decide)
  have B72 : sf_B 0 50 (m66 5) := by rw [W70 5 (by decide)]; exact B24
  have ek73 : (m66 5).toInt = ((m 5)).toInt := by rw [W70 5 (by decide)]; exact ek25
  have B74 : sf_B 0 16 (m66 6) := by rw [W70 6 (by decide)]; exact B26
  have ek75 : (m66 6).toInt = ((m 6)).toInt := by rw [W70 6 (by decide)]; exact ek27
  have B76 : sf_B 0 99 (m66 7) := by rw [W70 7 (by decide)]; exact B28
  have ek77 : (m66 7).toInt = ((m 7)).toInt := by rw [W70 7 (by decide)]; exact ek29
  have B78 : sf_B (-1) 99 (m66 8) := by rw [W70 8 (by decide)]; exact B30
  have ek79 : (m66 8).toInt = ((m 8)).toInt := by rw [W70 8 (by decide)]; exact ek31
  have B80 : sf_B 0 4 (m66 3) := by rw [W70 3 (by decide)]; exact B33
  have ek81 : (m66 3).toInt = ((m17 3)).toInt := by rw [W70 3 (by decide)]
  have W82 : rf_W [3, 4, 5, 6, 7, 8, 10, 11, 12, 13] m m66 := W32.trans W70 (by decide)
  show pm_R _ 37 38 [.ref 25, .int 3, .int 0] [] _ _
  refine pm_R_lo pm_M37 (pc_q := 39) rfl rfl rfl ?_
  refine pm_R_get pm_M37 (pc_q := 42) (v := .ref 30) rfl rfl T68.e25 (by decide) (T68.lt (by decide)) rfl rfl ?_
  have B83 : sf_B 0 4 (m66 12) := T68.B 12
  refine pm_R_get pm_M37 (pc_q := 45) (v := .int (m66 12)) rfl rfl T68.e30 (by decide) (T68.lt (by decide)) rfl rfl ?_
  refine pm_R_op pm_M37 (pc_q := 46) (st_q := [.int 2, .int (m66 12)]) rfl rfl rfl ?_
  refine pm_R_icmp pm_M37 (t := 51) (pc_q := 49) rfl rfl rfl (fun c84 => ?_) (fun c84 => ?_)
  · have B85 : sf_B 2 2 (m66 12) := sf_eqL c84 sf_k2
    refine pm_R_lo pm_M37 (pc_q := 52) rfl rfl rfl ?_
    refine pm_R_get pm_M37 (pc_q := 55) (v := .ref 29) rfl rfl T68.e25 (by decide) (T68.lt (by decide)) rfl rfl ?_
    refine pm_R_lo pm_M37 (pc_q := 56) rfl rfl rfl ?_
    refine pm_R_lo pm_M37 (pc_q := 57) rfl rfl rfl ?_
    refine pm_R_get pm_M37 (pc_q := 60) (v := .ref 30) rfl rfl T68.e25 (by decide) (T68.lt (by decide)) rfl rfl ?_
    have B86 : sf_B 0 99 (m66 13) := T68.B 13
    refine pm_R_get pm_M37 (pc_q := 63) (v := .int (m66 13)) rfl rfl T68.e30 (by decide) (T68.lt (by decide)) rfl rfl ?_
    have e87 := (F69.cell G (by decide) (by decide) e58)
    refine cl_R_ist G pm_M37 T68 (pc_q := 64) rfl e87 (by decide) ⟨_, rfl⟩ rfl rfl (fun h88 T89 F90 e91 => ?_)
    have F92 := F90.cl (ck := ck) T68.1
    have F93 := F71.trans (N := 0) (S := 0) F92 (by decide) (by decide) (by decide)
    refine pm_R_lo pm_M37 (pc_q := 65) rfl rfl rfl ?_
    refine pm_R_lo pm_M37 (pc_q := 66) rfl rfl rfl ?_
    refine pm_R_lo pm_M37 (pc_q := 67) rfl rfl rfl ?_
    refine pm_R_cv pm_M37 (pc_q := 70) (a := 25) (ra := [.int 0, .int 3]) (rest := []) (ls_q := [.ref 25, .int 3, .int 0, pm_no, pm_no, pm_no]) rfl rfl (Or.inl rfl) pm_M39 T89.e25 rfl (by decide) (T89.lt (by decide)) rfl rfl (Nat.le_of_ble_eq_true rfl) rfl rfl ?_
    refine cl_c39_3_0 (d := d + 5) G T89  (fun m96 h97 T98 F99 W100 X101 => ?_)
    have F102 := F93.trans (N := 0) (S := 0) F99 (by decide) (by decide) (by decide)
    have B103 : sf_B 0 50 (m96 5) := by rw [W100 5 (by decide)]; exact B72
    have ek104 : (m96 5).toInt = ((m 5)).toInt := by rw [W100 5 (by decide)]; exact ek73
    have B105 : sf_B 0 16 (m96 6) := by rw [W100 6 (by decide)]; exact B74
    have ek106 : (m96 6).toInt = ((m 6)).toInt := by rw [W100 6 (by decide)]; exact ek75
    have B107 : sf_B 0 99 (m96 7) := by rw [W100 7 (by decide)]; exact B76
    have ek108 : (m96 7).toInt = ((m 7)).toInt := by rw [W100 7 (by decide)]; exact ek77
    have B109 : sf_B (-1) 99 (m96 8) := by rw [W100 8 (by decide)]; exact B78
    have ek110 : (m96 8).toInt = ((m 8)).toInt := by rw [W100 8 (by decide)]; exact ek79
    have B111 : sf_B 2 2 (m96 12) := by rw [W100 12 (by decide)]; exact B85
    have W112 : rf_W [3, 4, 5, 6, 7, 8, 10, 11, 12, 13] m m96 := W82.trans W100 (by decide)
    have B113 : sf_B 0 4 (m96 3) := T98.B 3
    show pm_R _ 37 70 [.ref 25, .int 3, .int 0] [] _ _
    have q114 := X101 _ e91
    refine pm_R_lo pm_M37 (pc_q := 73) (ls_q := [.ref 25, .int 3, .int 1]) (st_q := []) rfl rfl rfl ?_
    refine pm_R_br pm_M37 (pc_q := 22) rfl rfl ?_
    refine pm_R_lo pm_M37 (pc_q := 23) rfl rfl rfl ?_
    refine pm_R_stat pm_M37 (pc_q := 26) rfl rfl rfl ?_
    refine pm_R_lo pm_M37 (pc_q := 27) rfl rfl rfl ?_
    refine pm_R_iald pm_M37 (pc_q := 28) (v := 1) rfl ((T98.old (by decide)).trans G.tb2) (T98.lt (by decide)) rfl rfl rfl ?_
    refine pm_R_br pm_M37 (pc_q := 76) (st_q := []) rfl rfl ?_
    refine pm_R_lo pm_M37 (pc_q := 77) rfl rfl rfl ?_
    refine pm_R_br pm_M37 (pc_q := 114) (st_q := []) rfl rfl ?_
    refine pm_R_lo pm_M37 (pc_q := 115) (pm_q37_1 (Nat.le_of_ble_eq_true rfl)) rfl rfl ?_
    refine pm_R_get pm_M37 (pc_q := 118) (v := .ref 30) (pm_q37_1 (Nat.le_of_ble_eq_true rfl)) rfl T98.e25 (by decide) (T98.lt (by decide)) rfl rfl ?_
    refine pm_R_cv pm_M37 (pc_q := 121) (a := 30) (ra := []) (rest := []) (ls_q := [.ref 30]) (pm_q37_1 (Nat.le_of_ble_eq_true rfl)) rfl (Or.inl rfl) pm_M16 T98.e30 rfl (by decide) (T98.lt (by decide)) rfl rfl (Nat.le_of_ble_eq_true rfl) rfl rfl ?_
    refine cl_c16 (d := d + 4) G T98  (fun m120 h121 T122 F123 W124 => ?_)
    have F125 := F102.trans (N := 0) (S := 0) F123 (by decide) (by decide) (by decide)
    have B126 : sf_B 0 50 (m120 5) := by rw [W124 5 (by decide)]; exact B103
    have ek127 : (m120 5).toInt = ((m 5)).toInt := by rw [W124 5 (by decide)]; exact ek104
    have B128 : sf_B 0 16 (m120 6) := by rw [W124 6 (by decide)]; exact B105
    have ek129 : (m120 6).toInt = ((m 6)).toInt := by rw [W124 6 (by decide)]; exact ek106
    have B130 : sf_B 0 99 (m120 7) := by rw [W124 7 (by decide)]; exact B107
    have ek131 : (m120 7).toInt = ((m 7)).toInt := by rw [W124 7 (by decide)]; exact ek108
    have B132 : sf_B (-1) 99 (m120 8) := by rw [W124 8 (by decide)]; exact B109
    have ek133 : (m120 8).toInt = ((m 8)).toInt := by rw [W124 8 (by decide)]; exact ek110
    have B134 : sf_B 0 4 (m120 3) := by rw [W124 3 (by decide)]; exact B113
    have ek135 : (m120 3).toInt = ((m96 3)).toInt := by rw [W124 3 (by decide)]
    have W136 : rf_W [3, 4, 5, 6, 7, 8, 10, 11, 12, 13] m m120 := W112.trans W124 (by decide)
    show pm_R _ 37 121 [.ref 25, .int 3, .int 1] [] _ _
    refine pm_R_lo pm_M37 (pc_q := 122) (pm_q37_1 (Nat.le_of_ble_eq_true rfl)) rfl rfl ?_
    refine pm_R_get pm_M37 (pc_q := 125) (v := .ref 30) (pm_q37_1 (Nat.le_of_ble_eq_true rfl)) rfl T122.e25 (by decide) (T122.lt (by decide)) rfl rfl ?_
    have B137 : sf_B 0 4 (m120 12) := T122.B 12
    refine pm_R_get pm_M37 (pc_q := 128) (v := .int (m120 12)) (pm_q37_1 (Nat.le_of_ble_eq_true rfl)) rfl T122.e30 (by decide) (T122.lt (by decide)) rfl rfl ?_
    refine pm_R_op pm_M37 (pc_q := 129) (st_q := [.int 3, .int (m120 12)]) (pm_q37_1 (Nat.le_of_ble_eq_true rfl)) rfl rfl ?_
    refine pm_R_icmp pm_M37 (t := 134) (pc_q := 132) (pm_q37_1 (Nat.le_of_ble_eq_true rfl)) rfl rfl (fun c138 => ?_) (fun c138 => ?_)
    · have B139 : sf_B 3 3 (m120 12) := sf_eqL c138 sf_k3
      refine pm_R_lo pm_M37 (pc_q := 135) (pm_q37_1 (Nat.le_of_ble_eq_true rfl)) rfl rfl ?_
      refine pm_R_lo pm_M37 (pc_q := 136) (pm_q37_1 (Nat.le_of_ble_eq_true rfl)) rfl rfl ?_
      refine pm_R_cv pm_M37 (pc_q := 139) (a := 25) (ra := [.int 3]) (rest := []) (ls_q := [.ref 25, .int 3]) (pm_q37_1 (Nat.le_of_ble_eq_true rfl)) rfl (Or.inl rfl) pm_M40 T122.e25 rfl (by decide) (T122.lt (by decide)) rfl rfl (Nat.le_of_ble_eq_true rfl) rfl rfl ?_
      refine pm_R_lo pm_M40 (pc_q := 1) rfl rfl rfl ?_
      refine pm_R_get pm_M40 (pc_q := 4) (v := .int (m96 3)) rfl rfl T122.e25 (by decide) (T122.lt (by decide)) (congrArg (fun z => some (Value.int z)) (Int32.toInt_inj.mp (cl_aux3 _ _ ek135))) rfl ?_
      refine pm_R_ifc pm_M40 (t := 8) (pc_q := 7) rfl rfl rfl (fun c140 => ?_) (fun c140 => ?_)
      · have y141 := q114 (cl_aux67 _ (congrArg Int32.toInt c140))
        have y142 := X22 (cl_aux68 _ _ ek81 y141.1)
        have B143 : sf_B 1 6 (m66 13) := ⟨cl_upE (P := fun x => 1 ≤ x.toInt) y141.2.1, cl_upE (P := fun x => x.toInt ≤ 6) y141.2.2⟩
        have B144 : sf_B 0 0 (m96 3) := sf_eqL c140 sf_k0
        refine pm_R_lo pm_M40 (pc_q := 9) rfl rfl rfl ?_
        refine pm_R_br pm_M40 (pc_q := 105) (st_q := []) rfl rfl ?_
        refine pm_R_lo pm_M40 (pc_q := 106) rfl rfl rfl ?_
        refine pm_R_lo pm_M40 (pc_q := 107) rfl rfl rfl ?_
        refine pm_R_get pm_M40 (pc_q := 110) (v := .ref 29) rfl rfl T122.e25 (by decide) (T122.lt (by decide)) rfl rfl ?_
        refine pm_R_op pm_M40 (pc_q := 111) (st_q := [.int 0, .ref 29, .ref 25]) rfl rfl rfl ?_
        have e148 := (F123.cell G (by decide) (by decide) (F99.cell G (by decide) (by decide) e91))
        refine pm_R_iald pm_M40 (pc_q := 112) (v := (m66 13)) rfl e148 (T122.lt (by decide)) rfl sf_upd_eq rfl ?_
        refine cl_R_put25 G pm_M40 T122 (k := 7) (pc_q := 115) rfl rfl rfl (by decide) rfl rfl (sf_weak B143 (by decide) (by decide)) rfl rfl rfl rfl rfl (fun h149 m152 em153 T150 F151 => ?_)
        have F154 := F151.cl (ck := ck) T122.1
        have F155 := F125.trans (N := 0) (S := 0) F154 (by decide) (by decide) (by decide)
        have B156 : sf_B 0 50 (m152 5) := by rw [em153]; exact B126
        have ek157 : (m152 5).toInt = ((m 5)).toInt := by rw [em153]; exact ek127
        have B158 : sf_B 0 16 (m152 6) := by rw [em153]; exact B128
        have ek159 : (m152 6).toInt = ((m 6)).toInt := by rw [em153]; exact ek129
        have B160 : sf_B (-1) 99 (m152 8) := by rw [em153]; exact B132
        have ek161 : (m152 8).toInt = ((m 8)).toInt := by rw [em153]; exact ek133
        have B162 : sf_B 0 4 (m152 3) := by rw [em153]; exact B134
        have ek163 : (m152 3).toInt = ((m96 3)).toInt := by rw [em153]; exact ek135
        have B164 : sf_B 3 3 (m152 12) := by rw [em153]; exact B139
        have B165 : sf_B 1 6 (m152 7) := by rw [em153]; exact B143
        have ek166 : (m152 7).toInt = ((m66 13)).toInt := by rw [em153]; rfl
        have W167 : rf_W [3, 4, 5, 6, 7, 8, 10, 11, 12, 13] m m152 := by rw [em153]; exact W136.put (by decide)
        refine pm_R_br pm_M40 (pc_q := 123) rfl rfl ?_
        refine pm_R_ret pm_M40 (r := none) rfl rfl ?_
        show pm_R _ 37 139 [.ref 25, .int 3, .int 1] [] _ _
        refine pm_R_op pm_M37 (pc_q := 140) (st_q := [.int 1]) (pm_q37_1 (Nat.le_of_ble_eq_true rfl)) rfl rfl ?_
        have e168 := (F154.cell G (by decide) (by decide) (F123.cell G (by decide) (by decide) (F99.cell G (by decide) (by decide) (F92.cell G (by decide) (by decide) (F69.cell G (by decide) (by decide) (F59.cell G (by decide) (by decide) (F53.cell G (by decide) (by decide) (F47.cell G (by decide) (by decide) (F41.cell G (by decide) (by decide) (F20.cell G (by decide) (by decide) e2))))))))))
        have e169 := (F154.cell G (by decide) (by decide) (F123.cell G (by decide) (by decide) (F99.cell G (by decide) (by decide) (F92.cell G (by decide) (by decide) (F69.cell G (by decide) (by decide) (F59.cell G (by decide) (by decide) (F53.cell G (by decide) (by decide) (F47.cell G (by decide) (by decide) (F41.cell G (by decide) (by decide) (F20.cell G (by decide) (by decide) e5))))))))))
        have e170 := (F154.cell G (by decide) (by decide) (F123.cell G (by decide) (by decide) (F99.cell G (by decide) (by decide) (F92.cell G (by decide) (by decide) (F69.cell G (by decide) (by decide) (F59.cell G (by decide) (by decide) (F53.cell G (by decide) (by decide) (F47.cell G (by decide) (by decide) (F41.cell G (by decide) (by decide) (F20.cell G (by decide) (by decide) e8))))))))))
        exact pm_R_ret pm_M37 (r := some (.int 1)) (pm_q37_1 (Nat.le_of_ble_eq_true rfl)) rfl (K 1 m152 h149 T150 F155 W167 (fun z => ⟨_, _, e169, e170, (R.at (cl_aux67 _ (X22 (cl_aux68 _ _ ek81 (q114 (cl_aux68 _ _ ek163 z)).1)).1) e5 e8).seats B165.1 B165.2 (cl_aux3 _ _ ek157) (cl_aux3 _ _ ek161)⟩) ⟨_, e168, b3⟩ (sf_weak sf_k1 (by decide) (by decide)))
      · have B171 : sf_B 1 4 (m96 3) := sf_neL0 c140 sf_k0 B113
        refine pm_R_ret pm_M40 (r := none) rfl rfl ?_
        show pm_R _ 37 139 [.ref 25, .int 3, .int 1] [] _ _
        refine pm_R_op pm_M37 (pc_q := 140) (st_q := [.int 1]) (pm_q37_1 (Nat.le_of_ble_eq_true rfl)) rfl rfl ?_
        have e172 := (F123.cell G (by decide) (by decide) (F99.cell G (by decide) (by decide) (F92.cell G (by decide) (by decide) (F69.cell G (by decide) (by decide) (F59.cell G (by decide) (by decide) (F53.cell G (by decide) (by decide) (F47.cell G (by decide) (by decide) (F41.cell G (by decide) (by decide) (F20.cell G (by decide) (by decide) e2)))))))))
        have e173 := (F123.cell G (by decide) (by decide) (F99.cell G (by decide) (by decide) (F92.cell G (by decide) (by decide) (F69.cell G (by decide) (by decide) (F59.cell G (by decide) (by decide) (F53.cell G (by decide) (by decide) (F47.cell G (by decide) (by decide) (F41.cell G (by decide) (by decide) (F20.cell G (by decide) (by decide) e5)))))))))
        have e174 := (F123.cell G (by decide) (by decide) (F99.cell G (by decide) (by decide) (F92.cell G (by decide) (by decide) (F69.cell G (by decide) (by decide) (F59.cell G (by decide) (by decide) (F53.cell G (by decide) (by decide) (F47.cell G (by decide) (by decide) (F41.cell G (by decide) (by decide) (F20.cell G (by decide) (by decide) e8)))))))))
        exact pm_R_ret pm_M37 (r := some (.int 1)) (pm_q37_1 (Nat.le_of_ble_eq_true rfl)) rfl (K 1 m120 h121 T122 F125 W136 (fun z => ⟨_, _, e173, e174, (R.at (cl_aux67 _ (X22 (cl_aux68 _ _ ek81 (q114 (cl_aux68 _ _ ek135 z)).1)).1) e5 e8).keep (cl_aux3 _ _ ek127) (cl_aux3 _ _ ek129) (cl_aux3 _ _ ek131) (cl_aux3 _ _ ek133)⟩) ⟨_, e172, b3⟩ (sf_weak sf_k1 (by decide) (by decide)))
    · skip
      refine pm_R_op pm_M37 (pc_q := 133) (st_q := [.int 0]) (pm_q37_1 (Nat.le_of_ble_eq_true rfl)) rfl rfl ?_
      have e175 := (F123.cell G (by decide) (by decide) (F99.cell G (by decide) (by decide) (F92.cell G (by decide) (by decide) (F69.cell G (by decide) (by decide) (F59.cell G (by decide) (by decide) (F53.cell G (by decide) (by decide) (F47.cell G (by decide) (by decide) (F41.cell G (by decide) (by decide) (F20.cell G (by decide) (by decide) e2)))))))))
      have e176 := (F123.cell G (by decide) (by decide) (F99.cell G (by decide) (by decide) (F92.cell G (by decide) (by decide) (F69.cell G (by decide) (by decide) (F59.cell G (by decide) (by decide) (F53.cell G (by decide) (by decide) (F47.cell G (by decide) (by decide) (F41.cell G (by decide) (by decide) (F20.cell G (by decide) (by decide) e5)))))))))
      have e177 := (F123.cell G (by decide) (by decide) (F99.cell G (by decide) (by decide) (F92.cell G (by decide) (by decide) (F69.cell G (by decide) (by decide) (F59.cell G (by decide) (by decide) (F53.cell G (by decide) (by decide) (F47.cell G (by decide) (by decide) (F41.cell G (by decide) (by decide) (F20.cell G (by decide) (by decide) e8)))))))))
      exact pm_R_ret pm_M37 (r := some (.int 0)) (pm_q37_1 (Nat.le_of_ble_eq_true rfl)) rfl (K 0 m120 h121 T122 F125 W136 (fun z => ⟨_, _, e176, e177, (R.at (cl_aux67 _ (X22 (cl_aux68 _ _ ek81 (q114 (cl_aux68 _ _ ek135 z)).1)).1) e5 e8).keep (cl_aux3 _ _ ek127) (cl_aux3 _ _ ek129) (cl_aux3 _ _ ek131) (cl_aux3 _ _ ek133)⟩) ⟨_, e175, b3⟩ (sf_weak sf_k0 (by decide) (by decide)))
  · skip
    refine pm_R_op pm_M37 (pc_q := 50) (st_q := [.int 0]) rfl rfl rfl ?_
    have e178 := (F69.cell G (by decide) (by decide) (F59.cell G (by decide) (by decide) (F53.cell G (by decide) (by decide) (F47.cell G (by decide) (by decide) (F41.cell G (by decide) (by decide) (F20.cell G (by decide) (by decide) e2))))))
    have e179 := (F69.cell G (by decide) (by decide) (F59.cell G (by decide) (by decide) (F53.cell G (by decide) (by decide) (F47.cell G (by decide) (by decide) (F41.cell G (by decide) (by decide) (F20.cell G (by decide) (by decide) e5))))))
    have e180 := (F69.cell G (by decide) (by decide) (F59.cell G (by decide) (by decide) (F53.cell G (by decide) (by decide) (F47.cell G (by decide) (by decide) (F41.cell G (by decide) (by decide) (F20.cell G (by decide) (by decide) e8))))))
    exact pm_R_ret pm_M37 (r := some (.int 0)) rfl rfl (K 0 m66 h67 T68 F71 W82 (fun z => ⟨_, _, e179, e180, (R.at (cl_aux67 _ (X22 (cl_aux68 _ _ ek81 z)).1) e5 e8).keep (cl_aux3 _ _ ek73) (cl_aux3 _ _ ek75) (cl_aux3 _ _ ek77) (cl_aux3 _ _ ek79)⟩) ⟨_, e178, b3⟩ (sf_weak sf_k0 (by decide) (by decide)))
