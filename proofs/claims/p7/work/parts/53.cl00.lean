theorem cl_aux58 (v0 : Int) (q0 : v0 < 10) (q1 : 0 ≤ v0) (q2 : v0 ≤ 9) : v0 < 10 := by omega
set_option maxRecDepth 100000 in
set_option maxHeartbeats 4000000 in
/-- SilentTable$TextReader.noteMany -/
theorem cl_c38_0 {d : Nat} {ck : cl_K} {E : Nat → pm_E} {m : Nat → Int32} {o : Nat → Option Nat} {h : pm_H} {Q : Option Value → pm_H → Prop}  (G : cl_G ck E) (T : cl_T ck E m o h)  (K : ∀ (m_q : Nat → Int32) (h_q : pm_H), cl_T ck E m_q o h_q → cl_F ck [25] 0 0 h h_q → rf_W [3, 4] m m_q → ((m_q 3).toInt = 0 → (m 3).toInt = 0 ∧ (m 5).toInt < 10) → Q none h_q) : pm_R (d + 1) 38 0 [.ref 25, .int 0, pm_no, pm_no] [] h Q := by
  have B1 : sf_B 0 4 (m 3) := T.B 3
  have B2 : sf_B 0 50 (m 5) := T.B 5
  have B3 : sf_B 0 16 (m 6) := T.B 6
  refine pm_R_stat pm_M38 (pc_q := 3) rfl rfl rfl ?_
  refine pm_R_lo pm_M38 (pc_q := 4) rfl rfl rfl ?_
  refine pm_R_iald pm_M38 (pc_q := 5) (v := 10) rfl ((T.old (by decide)).trans G.tb4) (T.lt (by decide)) rfl rfl rfl ?_
  refine pm_R_lo pm_M38 (pc_q := 6) (ls_q := [.ref 25, .int 0, .int 10, pm_no]) (st_q := []) rfl rfl rfl ?_
  refine pm_R_lo pm_M38 (pc_q := 7) rfl rfl rfl ?_
  refine pm_R_op pm_M38 (pc_q := 8) (st_q := [.int 1, .int 0]) rfl rfl rfl ?_
  refine pm_R_br pm_M38 (pc_q := 18) (st_q := []) rfl rfl ?_
  refine pm_R_lo pm_M38 (pc_q := 19) rfl rfl rfl ?_
  refine pm_R_get pm_M38 (pc_q := 22) (v := .int (m 5)) rfl rfl T.e25 (by decide) (T.lt (by decide)) rfl rfl ?_
  refine pm_R_lo pm_M38 (pc_q := 23) (ls_q := [.ref 25, .int 0, .int 10, .int (m 5)]) (st_q := []) rfl rfl rfl ?_
  refine pm_R_lo pm_M38 (pc_q := 24) rfl rfl rfl ?_
  refine pm_R_br pm_M38 (pc_q := 27) (st_q := []) rfl rfl ?_
  refine pm_R_lo pm_M38 (pc_q := 28) rfl rfl rfl ?_
  refine pm_R_lo pm_M38 (pc_q := 29) rfl rfl rfl ?_
  refine pm_R_icmp pm_M38 (t := 44) (pc_q := 32) rfl rfl rfl (fun c7 => ?_) (fun c7 => ?_)
  · have B8 : sf_B 0 9 (m 5) := sf_ltL c7 B2 sf_k10
    exact pm_R_ret pm_M38 (r := none) rfl rfl (K m h T (cl_F.refl (ck := ck) (A := [25]) (n := 0) (s := 0) T.1) (rf_W.refl [3, 4] m) (fun z => ⟨z, (cl_aux58 _ (Int32.lt_iff_toInt_lt.mp c7) B8.1 B8.2)⟩))
  · have B9 : sf_B 10 50 (m 5) := sf_leR (Int32.not_lt.mp c7) sf_k10 B2
    refine pm_R_lo pm_M38 (pc_q := 33) rfl rfl rfl ?_
    refine pm_R_op pm_M38 (pc_q := 34) (st_q := [.int 3, .ref 25]) rfl rfl rfl ?_
    refine pm_R_lo pm_M38 (pc_q := 35) rfl rfl rfl ?_
    refine pm_R_get pm_M38 (pc_q := 38) (v := .ref 30) rfl rfl T.e25 (by decide) (T.lt (by decide)) rfl rfl ?_
    have B10 : sf_B 0 600 (m 11) := T.B 11
    refine pm_R_get pm_M38 (pc_q := 41) (v := .int (m 11)) rfl rfl T.e30 (by decide) (T.lt (by decide)) rfl rfl ?_
    refine pm_R_cv pm_M38 (pc_q := 44) (a := 25) (ra := [.int (m 11), .int 3]) (rest := []) (ls_q := [.ref 25, .int 3, .int (m 11)]) rfl rfl (Or.inl rfl) pm_M21 T.e25 rfl (by decide) (T.lt (by decide)) rfl rfl (Nat.le_of_ble_eq_true rfl) rfl rfl ?_
    refine pm_R_lo pm_M21 (pc_q := 1) rfl rfl rfl ?_
    refine pm_R_get pm_M21 (pc_q := 4) (v := .int (m 3)) rfl rfl T.e25 (by decide) (T.lt (by decide)) rfl rfl ?_
    refine pm_R_ifc pm_M21 (t := 17) (pc_q := 7) rfl rfl rfl (fun c11 => ?_) (fun c11 => ?_)
    · have B12 : sf_B 1 4 (m 3) := sf_neL0 c11 sf_k0 B1
      refine pm_R_ret pm_M21 (r := none) rfl rfl ?_
      show pm_R _ 38 44 [.ref 25, .int 0, .int 10, .int (m 5)] [] _ _
      exact pm_R_ret pm_M38 (r := none) rfl rfl (K m h T (cl_F.refl (ck := ck) (A := [25]) (n := 0) (s := 0) T.1) (rf_W.refl [3, 4] m) (fun z => sf_pos B12 (by decide) z))
    · have B13 : sf_B 0 0 (m 3) := sf_eqL (Classical.not_not.mp c11) sf_k0
      refine pm_R_lo pm_M21 (pc_q := 8) rfl rfl rfl ?_
      refine pm_R_lo pm_M21 (pc_q := 9) rfl rfl rfl ?_
      refine cl_R_put25 G pm_M21 T (k := 3) (pc_q := 12) rfl rfl rfl (by decide) rfl rfl (sf_weak sf_k3 (by decide) (by decide)) rfl rfl rfl rfl rfl (fun h14 m17 em18 T15 F16 => ?_)
      have F19 := F16.cl (ck := ck) T.1
      have F20 := (cl_F.refl (ck := ck) (A := [25]) (n := 0) (s := 0) T.1).trans (N := 0) (S := 0) F19 (by decide) (by decide) (by decide)
      have B21 : sf_B 10 50 (m17 5) := by rw [em18]; exact B9
      have B22 : sf_B 3 3 (m17 3) := by rw [em18]; exact sf_k3
      have W24 : rf_W [3, 4] m m17 := by rw [em18]; exact (rf_W.refl [3, 4] m).put (by decide)
      refine pm_R_lo pm_M21 (pc_q := 13) rfl rfl rfl ?_
      refine pm_R_lo pm_M21 (pc_q := 14) rfl rfl rfl ?_
      refine cl_R_put25 G pm_M21 T15 (k := 4) (pc_q := 17) rfl rfl rfl (by decide) rfl rfl (sf_weak B10 (by decide) (by decide)) rfl rfl rfl rfl rfl (fun h25 m28 em29 T26 F27 => ?_)
      have F30 := F27.cl (ck := ck) T15.1
      have F31 := F20.trans (N := 0) (S := 0) F30 (by decide) (by decide) (by decide)
      have B32 : sf_B 10 50 (m28 5) := by rw [em29]; exact B21
      have B33 : sf_B 3 3 (m28 3) := by rw [em29]; exact B22
      have ek34 : (m28 3).toInt = ((m17 3)).toInt := by rw [em29]; rfl
      have B35 : sf_B 0 600 (m28 4) := by rw [em29]; exact B10
      have ek36 : (m28 4).toInt = ((m 11)).toInt := by rw [em29]; rfl
      have W37 : rf_W [3, 4] m m28 := by rw [em29]; exact W24.put (by decide)
      refine pm_R_ret pm_M21 (r := none) rfl rfl ?_
      show pm_R _ 38 44 [.ref 25, .int 0, .int 10, .int (m 5)] [] _ _
      exact pm_R_ret pm_M38 (r := none) rfl rfl (K m28 h25 T26 F31 W37 (fun z => sf_pos B33 (by decide) z))

theorem cl_aux59 (v0 : Int) (q0 : v0 < 16) (q1 : 0 ≤ v0) (q2 : v0 ≤ 15) : v0 < 16 := by omega
set_option maxRecDepth 100000 in
set_option maxHeartbeats 4000000 in
/-- SilentTable$TextReader.noteMany -/
theorem cl_c38_1 {d : Nat} {ck : cl_K} {E : Nat → pm_E} {m : Nat → Int32} {o : Nat → Option Nat} {h : pm_H} {Q : Option Value → pm_H → Prop}  (G : cl_G ck E) (T : cl_T ck E m o h)  (K : ∀ (m_q : Nat → Int32) (h_q : pm_H), cl_T ck E m_q o h_q → cl_F ck [25] 0 0 h h_q → rf_W [3, 4] m m_q → ((m_q 3).toInt = 0 → (m 3).toInt = 0 ∧ (m 6).toInt < 16) → Q none h_q) : pm_R (d + 1) 38 0 [.ref 25, .int 1, pm_no, pm_no] [] h Q := by
  have B1 : sf_B 0 4 (m 3) := T.B 3
  have B2 : sf_B 0 50 (m 5) := T.B 5
  have B3 : sf_B 0 16 (m 6) := T.B 6
  refine pm_R_stat pm_M38 (pc_q := 3) rfl rfl rfl ?_
  refine pm_R_lo pm_M38 (pc_q := 4) rfl rfl rfl ?_
  refine pm_R_iald pm_M38 (pc_q := 5) (v := 16) rfl ((T.old (by decide)).trans G.tb4) (T.lt (by decide)) rfl rfl rfl ?_
  refine pm_R_lo pm_M38 (pc_q := 6) (ls_q := [.ref 25, .int 1, .int 16, pm_no]) (st_q := []) rfl rfl rfl ?_
  refine pm_R_lo pm_M38 (pc_q := 7) rfl rfl rfl ?_
  refine pm_R_op pm_M38 (pc_q := 8) (st_q := [.int 1, .int 1]) rfl rfl rfl ?_
  refine pm_R_br pm_M38 (pc_q := 11) (st_q := []) rfl rfl ?_
  refine pm_R_lo pm_M38 (pc_q := 12) rfl rfl rfl ?_
  refine pm_R_get pm_M38 (pc_q := 15) (v := .int (m 6)) rfl rfl T.e25 (by decide) (T.lt (by decide)) rfl rfl ?_
  refine pm_R_br pm_M38 (pc_q := 22) rfl rfl ?_
  refine pm_R_lo pm_M38 (pc_q := 23) (ls_q := [.ref 25, .int 1, .int 16, .int (m 6)]) (st_q := []) rfl rfl rfl ?_
  refine pm_R_lo pm_M38 (pc_q := 24) rfl rfl rfl ?_
  refine pm_R_br pm_M38 (pc_q := 27) (st_q := []) rfl rfl ?_
  refine pm_R_lo pm_M38 (pc_q := 28) rfl rfl rfl ?_
  refine pm_R_lo pm_M38 (pc_q := 29) rfl rfl rfl ?_
  refine pm_R_icmp pm_M38 (t := 44) (pc_q := 32) rfl rfl rfl (fun c7 => ?_) (fun c7 => ?_)
  · have B8 : sf_B 0 15 (m 6) := sf_ltL c7 B3 sf_k16
    exact pm_R_ret pm_M38 (r := none) rfl rfl (K m h T (cl_F.refl (ck := ck) (A := [25]) (n := 0) (s := 0) T.1) (rf_W.refl [3, 4] m) (fun z => ⟨z, (cl_aux59 _ (Int32.lt_iff_toInt_lt.mp c7) B8.1 B8.2)⟩))
  · have B9 : sf_B 16 16 (m 6) := sf_leR (Int32.not_lt.mp c7) sf_k16 B3
    refine pm_R_lo pm_M38 (pc_q := 33) rfl rfl rfl ?_
    refine pm_R_op pm_M38 (pc_q := 34) (st_q := [.int 3, .ref 25]) rfl rfl rfl ?_
    refine pm_R_lo pm_M38 (pc_q := 35) rfl rfl rfl ?_
    refine pm_R_get pm_M38 (pc_q := 38) (v := .ref 30) rfl rfl T.e25 (by decide) (T.lt (by decide)) rfl rfl ?_
    have B10 : sf_B 0 600 (m 11) := T.B 11
    refine pm_R_get pm_M38 (pc_q := 41) (v := .int (m 11)) rfl rfl T.e30 (by decide) (T.lt (by decide)) rfl rfl ?_
    refine pm_R_cv pm_M38 (pc_q := 44) (a := 25) (ra := [.int (m 11), .int 3]) (rest := []) (ls_q := [.ref 25, .int 3, .int (m 11)]) rfl rfl (Or.inl rfl) pm_M21 T.e25 rfl (by decide) (T.lt (by decide)) rfl rfl (Nat.le_of_ble_eq_true rfl) rfl rfl ?_
    refine pm_R_lo pm_M21 (pc_q := 1) rfl rfl rfl ?_
    refine pm_R_get pm_M21 (pc_q := 4) (v := .int (m 3)) rfl rfl T.e25 (by decide) (T.lt (by decide)) rfl rfl ?_
    refine pm_R_ifc pm_M21 (t := 17) (pc_q := 7) rfl rfl rfl (fun c11 => ?_) (fun c11 => ?_)
    · have B12 : sf_B 1 4 (m 3) := sf_neL0 c11 sf_k0 B1
      refine pm_R_ret pm_M21 (r := none) rfl rfl ?_
      show pm_R _ 38 44 [.ref 25, .int 1, .int 16, .int (m 6)] [] _ _
      exact pm_R_ret pm_M38 (r := none) rfl rfl (K m h T (cl_F.refl (ck := ck) (A := [25]) (n := 0) (s := 0) T.1) (rf_W.refl [3, 4] m) (fun z => sf_pos B12 (by decide) z))
    · have B13 : sf_B 0 0 (m 3) := sf_eqL (Classical.not_not.mp c11) sf_k0
      refine pm_R_lo pm_M21 (pc_q := 8) rfl rfl rfl ?_
      refine pm_R_lo pm_M21 (pc_q := 9) rfl rfl rfl ?_
      refine cl_R_put25 G pm_M21 T (k := 3) (pc_q := 12) rfl rfl rfl (by decide) rfl rfl (sf_weak sf_k3 (by decide) (by decide)) rfl rfl rfl rfl rfl (fun h14 m17 em18 T15 F16 => ?_)
      have F19 := F16.cl (ck := ck) T.1
      have F20 := (cl_F.refl (ck := ck) (A := [25]) (n := 0) (s := 0) T.1).trans (N := 0) (S := 0) F19 (by decide) (by decide) (by decide)
      have B21 : sf_B 16 16 (m17 6) := by rw [em18]; exact B9
      have B22 : sf_B 3 3 (m17 3) := by rw [em18]; exact sf_k3
      have W24 : rf_W [3, 4] m m17 := by rw [em18]; exact (rf_W.refl [3, 4] m).put (by decide)
      refine pm_R_lo pm_M21 (pc_q := 13) rfl rfl rfl ?_
      refine pm_R_lo pm_M21 (pc_q := 14) rfl rfl rfl ?_
      refine cl_R_put25 G pm_M21 T15 (k := 4) (pc_q := 17) rfl rfl rfl (by decide) rfl rfl (sf_weak B10 (by decide) (by decide)) rfl rfl rfl rfl rfl (fun h25 m28 em29 T26 F27 => ?_)
      have F30 := F27.cl (ck := ck) T15.1
      have F31 := F20.trans (N := 0) (S := 0) F30 (by decide) (by decide) (by decide)
      have B32 : sf_B 16 16 (m28 6) := by rw [em29]; exact B21
      have B33 : sf_B 3 3 (m28 3) := by rw [em29]; exact B22
      have ek34 : (m28 3).toInt = ((m17 3)).toInt := by rw [em29]; rfl
      have B35 : sf_B 0 600 (m28 4) := by rw [em29]; exact B10
      have ek36 : (m28 4).toInt = ((m 11)).toInt := by rw [em29]; rfl
      have W37 : rf_W [3, 4] m m28 := by rw [em29]; exact W24.put (by decide)
      refine pm_R_ret pm_M21 (r := none) rfl rfl ?_
      show pm_R _ 38 44 [.ref 25, .int 1, .int 16, .int (m 6)] [] _ _
      exact pm_R_ret pm_M38 (r := none) rfl rfl (K m28 h25 T26 F31 W37 (fun z => sf_pos B33 (by decide) z))

set_option maxRecDepth 100000 in
set_option maxHeartbeats 4000000 in
/-- SilentTable$TextReader.noteMany -/
theorem cl_c38_2 {d : Nat} {ck : cl_K} {E : Nat → pm_E} {m : Nat → Int32} {o : Nat → Option Nat} {h : pm_H} {Q : Option Value → pm_H → Prop}  (G : cl_G ck E) (T : cl_T ck E m o h)  (K : ∀ (m_q : Nat → Int32) (h_q : pm_H), cl_T ck E m_q o h_q → cl_F ck [] 0 0 h h_q → rf_W [3, 4] m m_q → ((m_q 3).toInt = 0 → (m 3).toInt = 0 ∧ True) → Q none h_q) : pm_R (d + 1) 38 0 [.ref 25, .int 2, pm_no, pm_no] [] h Q := by
  have B1 : sf_B 0 4 (m 3) := T.B 3
  have B2 : sf_B 0 50 (m 5) := T.B 5
  have B3 : sf_B 0 16 (m 6) := T.B 6
  refine pm_R_stat pm_M38 (pc_q := 3) rfl rfl rfl ?_
  refine pm_R_lo pm_M38 (pc_q := 4) rfl rfl rfl ?_
  refine pm_R_iald pm_M38 (pc_q := 5) (v := 0) rfl ((T.old (by decide)).trans G.tb4) (T.lt (by decide)) rfl rfl rfl ?_
  refine pm_R_lo pm_M38 (pc_q := 6) (ls_q := [.ref 25, .int 2, .int 0, pm_no]) (st_q := []) rfl rfl rfl ?_
  refine pm_R_lo pm_M38 (pc_q := 7) rfl rfl rfl ?_
  refine pm_R_op pm_M38 (pc_q := 8) (st_q := [.int 1, .int 2]) rfl rfl rfl ?_
  refine pm_R_br pm_M38 (pc_q := 18) (st_q := []) rfl rfl ?_
  refine pm_R_lo pm_M38 (pc_q := 19) rfl rfl rfl ?_
  refine pm_R_get pm_M38 (pc_q := 22) (v := .int (m 5)) rfl rfl T.e25 (by decide) (T.lt (by decide)) rfl rfl ?_
  refine pm_R_lo pm_M38 (pc_q := 23) (ls_q := [.ref 25, .int 2, .int 0, .int (m 5)]) (st_q := []) rfl rfl rfl ?_
  refine pm_R_lo pm_M38 (pc_q := 24) rfl rfl rfl ?_
  refine pm_R_br pm_M38 (pc_q := 44) (st_q := []) rfl rfl ?_
  exact pm_R_ret pm_M38 (r := none) rfl rfl (K m h T (cl_F.refl (ck := ck) (A := []) (n := 0) (s := 0) T.1) (rf_W.refl [3, 4] m) (fun z => ⟨z, trivial⟩))

set_option maxRecDepth 100000 in
set_option maxHeartbeats 4000000 in
/-- SilentTable$TextReader.noteMany -/
theorem cl_c38_3 {d : Nat} {ck : cl_K} {E : Nat → pm_E} {m : Nat → Int32} {o : Nat → Option Nat} {h : pm_H} {Q : Option Value → pm_H → Prop}  (G : cl_G ck E) (T : cl_T ck E m o h)  (K : ∀ (m_q : Nat → Int32) (h_q : pm_H), cl_T ck E m_q o h_q → cl_F ck [] 0 0 h h_q → rf_W [3, 4] m m_q → ((m_q 3).toInt = 0 → (m 3).toInt = 0 ∧ True) → Q none h_q) : pm_R (d + 1) 38 0 [.ref 25, .int 3, pm_no, pm_no] [] h Q := by
  have B1 : sf_B 0 4 (m 3) := T.B 3
  have B2 : sf_B 0 50 (m 5) := T.B 5
  have B3 : sf_B 0 16 (m 6) := T.B 6
  refine pm_R_stat pm_M38 (pc_q := 3) rfl rfl rfl ?_
  refine pm_R_lo pm_M38 (pc_q := 4) rfl rfl rfl ?_
  refine pm_R_iald pm_M38 (pc_q := 5) (v := 0) rfl ((T.old (by decide)).trans G.tb4) (T.lt (by decide)) rfl rfl rfl ?_
  refine pm_R_lo pm_M38 (pc_q := 6) (ls_q := [.ref 25, .int 3, .int 0, pm_no]) (st_q := []) rfl rfl rfl ?_
  refine pm_R_lo pm_M38 (pc_q := 7) rfl rfl rfl ?_
  refine pm_R_op pm_M38 (pc_q := 8) (st_q := [.int 1, .int 3]) rfl rfl rfl ?_
  refine pm_R_br pm_M38 (pc_q := 18) (st_q := []) rfl rfl ?_
  refine pm_R_lo pm_M38 (pc_q := 19) rfl rfl rfl ?_
  refine pm_R_get pm_M38 (pc_q := 22) (v := .int (m 5)) rfl rfl T.e25 (by decide) (T.lt (by decide)) rfl rfl ?_
  refine pm_R_lo pm_M38 (pc_q := 23) (ls_q := [.ref 25, .int 3, .int 0, .int (m 5)]) (st_q := []) rfl rfl rfl ?_
  refine pm_R_lo pm_M38 (pc_q := 24) rfl rfl rfl ?_
  refine pm_R_br pm_M38 (pc_q := 44) (st_q := []) rfl rfl ?_
  exact pm_R_ret pm_M38 (r := none) rfl rfl (K m h T (cl_F.refl (ck := ck) (A := []) (n := 0) (s := 0) T.1) (rf_W.refl [3, 4] m) (fun z => ⟨z, trivial⟩))

theorem cl_aux60 (v0 : Int) (q0 : v0 < 50) (q1 : 0 ≤ v0) (q2 : v0 ≤ 49) : v0 < 50 := by omega
set_option maxRecDepth 100000 in
set_option maxHeartbeats 4000000 in
/-- SilentTable$TextReader.noteMany -/
theorem cl_c38_4 {d : Nat} {ck : cl_K} {E : Nat → pm_E} {m : Nat → Int32} {o : Nat → Option Nat} {h : pm_H} {Q : Option Value → pm_H → Prop}  (G : cl_G ck E) (T : cl_T ck E m o h)  (K : ∀ (m_q : Nat → Int32) (h_q : pm_H), cl_T ck E m_q o h_q → cl_F ck [25] 0 0 h h_q → rf_W [3, 4] m m_q → ((m_q 3).toInt = 0 → (m 3).toInt = 0 ∧ (m 5).toInt < 50) → Q none h_q) : pm_R (d + 1) 38 0 [.ref 25, .int 4, pm_no, pm_no] [] h Q := by
  have B1 : sf_B 0 4 (m 3) := T.B 3
  have B2 : sf_B 0 50 (m 5) := T.B 5
  have B3 : sf_B 0 16 (m 6) := T.B 6
  refine pm_R_stat pm_M38 (pc_q := 3) rfl rfl rfl ?_
  refine pm_R_lo pm_M38 (pc_q := 4) rfl rfl rfl ?_
  refine pm_R_iald pm_M38 (pc_q := 5) (v := 50) rfl ((T.old (by decide)).trans G.tb4) (T.lt (by decide)) rfl rfl rfl ?_
  refine pm_R_lo pm_M38 (pc_q := 6) (ls_q := [.ref 25, .int 4, .int 50, pm_no]) (st_q := []) rfl rfl rfl ?_
  refine pm_R_lo pm_M38 (pc_q := 7) rfl rfl rfl ?_
  refine pm_R_op pm_M38 (pc_q := 8) (st_q := [.int 1, .int 4]) rfl rfl rfl ?_
  refine pm_R_br pm_M38 (pc_q := 18) (st_q := []) rfl rfl ?_
  refine pm_R_lo pm_M38 (pc_q := 19) rfl rfl rfl ?_
  refine pm_R_get pm_M38 (pc_q := 22) (v := .int (m 5)) rfl rfl T.e25 (by decide) (T.lt (by decide)) rfl rfl ?_
  refine pm_R_lo pm_M38 (pc_q := 23) (ls_q := [.ref 25, .int 4, .int 50, .int (m 5)]) (st_q := []) rfl rfl rfl ?_
  refine pm_R_lo pm_M38 (pc_q := 24) rfl rfl rfl ?_
  refine pm_R_br pm_M38 (pc_q := 27) (st_q := []) rfl rfl ?_
  refine pm_R_lo pm_M38 (pc_q := 28) rfl rfl rfl ?_
  refine pm_R_lo pm_M38 (pc_q := 29) rfl rfl rfl ?_
  refine pm_R_icmp pm_M38 (t := 44) (pc_q := 32) rfl rfl rfl (fun c7 => ?_) (fun c7 => ?_)
  · have B8 : sf_B 0 49 (m 5) := sf_ltL c7 B2 sf_k50
    exact pm_R_ret pm_M38 (r := none) rfl rfl (K m h T (cl_F.refl (ck := ck) (A := [25]) (n := 0) (s := 0) T.1) (rf_W.refl [3, 4] m) (fun z => ⟨z, (cl_aux60 _ (Int32.lt_iff_toInt_lt.mp c7) B8.1 B8.2)⟩))
  · have B9 : sf_B 50 50 (m 5) := sf_leR (Int32.not_lt.mp c7) sf_k50 B2
    refine pm_R_lo pm_M38 (pc_q := 33) rfl rfl rfl ?_
    refine pm_R_op pm_M38 (pc_q := 34) (st_q := [.int 3, .ref 25]) rfl rfl rfl ?_
    refine pm_R_lo pm_M38 (pc_q := 35) rfl rfl rfl ?_
    refine pm_R_get pm_M38 (pc_q := 38) (v := .ref 30) rfl rfl T.e25 (by decide) (T.lt (by decide)) rfl rfl ?_
    have B10 : sf_B 0 600 (m 11) := T.B 11
    refine pm_R_get pm_M38 (pc_q := 41) (v := .int (m 11)) rfl rfl T.e30 (by decide) (T.lt (by decide)) rfl rfl ?_
    refine pm_R_cv pm_M38 (pc_q := 44) (a := 25) (ra := [.int (m 11), .int 3]) (rest := []) (ls_q := [.ref 25, .int 3, .int (m 11)]) rfl rfl (Or.inl rfl) pm_M21 T.e25 rfl (by decide) (T.lt (by decide)) rfl rfl (Nat.le_of_ble_eq_true rfl) rfl rfl ?_
    refine pm_R_lo pm_M21 (pc_q := 1) rfl rfl rfl ?_
    refine pm_R_get pm_M21 (pc_q := 4) (v := .int (m 3)) rfl rfl T.e25 (by decide) (T.lt (by decide)) rfl rfl ?_
    refine pm_R_ifc pm_M21 (t := 17) (pc_q := 7) rfl rfl rfl (fun c11 => ?_) (fun c11 => ?_)
    · have B12 : sf_B 1 4 (m 3) := sf_neL0 c11 sf_k0 B1
      refine pm_R_ret pm_M21 (r := none) rfl rfl ?_
      show pm_R _ 38 44 [.ref 25, .int 4, .int 50, .int (m 5)] [] _ _
      exact pm_R_ret pm_M38 (r := none) rfl rfl (K m h T (cl_F.refl (ck := ck) (A := [25]) (n := 0) (s := 0) T.1) (rf_W.refl [3, 4] m) (fun z => sf_pos B12 (by decide) z))
    · have B13 : sf_B 0 0 (m 3) := sf_eqL (Classical.not_not.mp c11) sf_k0
      refine pm_R_lo pm_M21 (pc_q := 8) rfl rfl rfl ?_
      refine pm_R_lo pm_M21 (pc_q := 9) rfl rfl rfl ?_
      refine cl_R_put25 G pm_M21 T (k := 3) (pc_q := 12) rfl rfl rfl (by decide) rfl rfl (sf_weak sf_k3 (by decide) (by decide)) rfl rfl rfl rfl rfl (fun h14 m17 em18 T15 F16 => ?_)
      have F19 := F16.cl (ck := ck) T.1
      have F20 := (cl_F.refl (ck := ck) (A := [25]) (n := 0) (s := 0) T.1).trans (N := 0) (S := 0) F19 (by decide) (by decide) (by decide)
      have B21 : sf_B 50 50 (m17 5) := by rw [em18]; exact B9
      have B22 : sf_B 3 3 (m17 3) := by rw [em18]; exact sf_k3
      have W24 : rf_W [3, 4] m m17 := by rw [em18]; exact (rf_W.refl [3, 4] m).put (by decide)
      refine pm_R_lo pm_M21 (pc_q := 13) rfl rfl rfl ?_
      refine pm_R_lo pm_M21 (pc_q := 14) rfl rfl rfl ?_
      refine cl_R_put25 G pm_M21 T15 (k := 4) (pc_q := 17) rfl rfl rfl (by decide) rfl rfl (sf_weak B10 (by decide) (by decide)) rfl rfl rfl rfl rfl (fun h25 m28 em29 T26 F27 => ?_)
      have F30 := F27.cl (ck := ck) T15.1
      have F31 := F20.trans (N := 0) (S := 0) F30 (by decide) (by decide) (by decide)
      have B32 : sf_B 50 50 (m28 5) := by rw [em29]; exact B21
      have B33 : sf_B 3 3 (m28 3) := by rw [em29]; exact B22
      have ek34 : (m28 3).toInt = ((m17 3)).toInt := by rw [em29]; rfl
      have B35 : sf_B 0 600 (m28 4) := by rw [em29]; exact B10
      have ek36 : (m28 4).toInt = ((m 11)).toInt := by rw [em29]; rfl
      have W37 : rf_W [3, 4] m m28 := by rw [em29]; exact W24.put (by decide)
      refine pm_R_ret pm_M21 (r := none) rfl rfl ?_
      show pm_R _ 38 44 [.ref 25, .int 4, .int 50, .int (m 5)] [] _ _
      exact pm_R_ret pm_M38 (r := none) rfl rfl (K m28 h25 T26 F31 W37 (fun z => sf_pos B33 (by decide) z))

set_option maxRecDepth 100000 in
set_option maxHeartbeats 4000000 in
/-- SilentTable$TextReader.noteMany -/
theorem cl_c38_5 {d : Nat} {ck : cl_K} {E : Nat → pm_E} {m : Nat → Int32} {o : Nat → Option Nat} {h : pm_H} {Q : Option Value → pm_H → Prop}  (G : cl_G ck E) (T : cl_T ck E m o h)  (K : ∀ (m_q : Nat → Int32) (h_q : pm_H), cl_T ck E m_q o h_q → cl_F ck [25] 0 0 h h_q → rf_W [3, 4] m m_q → ((m_q 3).toInt = 0 → (m 3).toInt = 0 ∧ (m 5).toInt < 50) → Q none h_q) : pm_R (d + 1) 38 0 [.ref 25, .int 5, pm_no, pm_no] [] h Q := by
  have B1 : sf_B 0 4 (m 3) := T.B 3
  have B2 : sf_B 0 50 (m 5) := T.B 5
  have B3 : sf_B 0 16 (m 6) := T.B 6
  refine pm_R_stat pm_M38 (pc_q := 3) rfl rfl rfl ?_
  refine pm_R_lo pm_M38 (pc_q := 4) rfl rfl rfl ?_
  refine pm_R_iald pm_M38 (pc_q := 5) (v := 50) rfl ((T.old (by decide)).trans G.tb4) (T.lt (by decide)) rfl rfl rfl ?_
  refine pm_R_lo pm_M38 (pc_q := 6) (ls_q := [.ref 25, .int 5, .int 50, pm_no]) (st_q := []) rfl rfl rfl ?_
  refine pm_R_lo pm_M38 (pc_q := 7) rfl rfl rfl ?_
  refine pm_R_op pm_M38 (pc_q := 8) (st_q := [.int 1, .int 5]) rfl rfl rfl ?_
  refine pm_R_br pm_M38 (pc_q := 18) (st_q := []) rfl rfl ?_
  refine pm_R_lo pm_M38 (pc_q := 19) rfl rfl rfl ?_
  refine pm_R_get pm_M38 (pc_q := 22) (v := .int (m 5)) rfl rfl T.e25 (by decide) (T.lt (by decide)) rfl rfl ?_
  refine pm_R_lo pm_M38 (pc_q := 23) (ls_q := [.ref 25, .int 5, .int 50, .int (m 5)]) (st_q := []) rfl rfl rfl ?_
  refine pm_R_lo pm_M38 (pc_q := 24) rfl rfl rfl ?_
  refine pm_R_br pm_M38 (pc_q := 27) (st_q := []) rfl rfl ?_
  refine pm_R_lo pm_M38 (pc_q := 28) rfl rfl rfl ?_
  refine pm_R_lo pm_M38 (pc_q := 29) rfl rfl rfl ?_
  refine pm_R_icmp pm_M38 (t := 44) (pc_q := 32) rfl rfl rfl (fun c7 => ?_) (fun c7 => ?_)
  · have B8 : sf_B 0 49 (m 5) := sf_ltL c7 B2 sf_k50
    exact pm_R_ret pm_M38 (r := none) rfl rfl (K m h T (cl_F.refl (ck := ck) (A := [25]) (n := 0) (s := 0) T.1) (rf_W.refl [3, 4] m) (fun z => ⟨z, (cl_aux60 _ (Int32.lt_iff_toInt_lt.mp c7) B8.1 B8.2)⟩))
  · have B9 : sf_B 50 50 (m 5) := sf_leR (Int32.not_lt.mp c7) sf_k50 B2
    refine pm_R_lo pm_M38 (pc_q := 33) rfl rfl rfl ?_
    refine pm_R_op pm_M38 (pc_q := 34) (st_q := [.int 3, .ref 25]) rfl rfl rfl ?_
    refine pm_R_lo pm_M38 (pc_q := 35) rfl rfl rfl ?_
    refine pm_R_get pm_M38 (pc_q := 38) (v := .ref 30) rfl rfl T.e25 (by decide) (T.lt (by decide)) rfl rfl ?_
    have B10 : sf_B 0 600 (m 11) := T.B 11
    refine pm_R_get pm_M38 (pc_q := 41) (v := .int (m 11)) rfl rfl T.e30 (by decide) (T.lt (by decide)) rfl rfl ?_
    refine pm_R_cv pm_M38 (pc_q := 44) (a := 25) (ra := [.int (m 11), .int 3]) (rest := []) (ls_q := [.ref 25, .int 3, .int (m 11)]) rfl rfl (Or.inl rfl) pm_M21 T.e25 rfl (by decide) (T.lt (by decide)) rfl rfl (Nat.le_of_ble_eq_true rfl) rfl rfl ?_
    refine pm_R_lo pm_M21 (pc_q := 1) rfl rfl rfl ?_
    refine pm_R_get pm_M21 (pc_q := 4) (v := .int (m 3)) rfl rfl T.e25 (by decide) (T.lt (by decide)) rfl rfl ?_
    refine pm_R_ifc pm_M21 (t := 17) (pc_q := 7) rfl rfl rfl (fun c11 => ?_) (fun c11 => ?_)
    · have B12 : sf_B 1 4 (m 3) := sf_neL0 c11 sf_k0 B1
      refine pm_R_ret pm_M21 (r := none) rfl rfl ?_
      show pm_R _ 38 44 [.ref 25, .int 5, .int 50, .int (m 5)] [] _ _
      exact pm_R_ret pm_M38 (r := none) rfl rfl (K m h T (cl_F.refl (ck := ck) (A := [25]) (n := 0) (s := 0) T.1) (rf_W.refl [3, 4] m) (fun z => sf_pos B12 (by decide) z))
    · have B13 : sf_B 0 0 (m 3) := sf_eqL (Classical.not_not.mp c11) sf_k0
      refine pm_R_lo pm_M21 (pc_q := 8) rfl rfl rfl ?_
      refine pm_R_lo pm_M21 (pc_q := 9) rfl rfl rfl ?_
      refine cl_R_put25 G pm_M21 T (k := 3) (pc_q := 12) rfl rfl rfl (by decide) rfl rfl (sf_weak sf_k3 (by decide) (by decide)) rfl rfl rfl rfl rfl (fun h14 m17 em18 T15 F16 => ?_)
      have F19 := F16.cl (ck := ck) T.1
      have F20 := (cl_F.refl (ck := ck) (A := [25]) (n := 0) (s := 0) T.1).trans (N := 0) (S := 0) F19 (by decide) (by decide) (by decide)
      have B21 : sf_B 50 50 (m17 5) := by rw [em18]; exact B9
      have B22 : sf_B 3 3 (m17 3) := by rw [em18]; exact sf_k3
      have W24 : rf_W [3, 4] m m17 := by rw [em18]; exact (rf_W.refl [3, 4] m).put (by decide)
      refine pm_R_lo pm_M21 (pc_q := 13) rfl rfl rfl ?_
      refine pm_R_lo pm_M21 (pc_q := 14) rfl rfl rfl ?_
      refine cl_R_put25 G pm_M21 T15 (k := 4) (pc_q := 17) rfl rfl rfl (by decide) rfl rfl (sf_weak B10 (by decide) (by decide)) rfl rfl rfl rfl rfl (fun h25 m28 em29 T26 F27 => ?_)
      have F30 := F27.cl (ck := ck) T15.1
      have F31 := F20.trans (N := 0) (S := 0) F30 (by decide) (by decide) (by decide)
      have B32 : sf_B 50 50 (m28 5) := by rw [em29]; exact B21
      have B33 : sf_B 3 3 (m28 3) := by rw [em29]; exact B22
      have ek34 : (m28 3).toInt = ((m17 3)).toInt := by rw [em29]; rfl
      have B35 : sf_B 0 600 (m28 4) := by rw [em29]; exact B10
      have ek36 : (m28 4).toInt = ((m 11)).toInt := by rw [em29]; rfl
      have W37 : rf_W [3, 4] m m28 := by rw [em29]; exact W24.put (by decide)
      refine pm_R_ret pm_M21 (r := none) rfl rfl ?_
      show pm_R _ 38 44 [.ref 25, .int 5, .int 50, .int (m 5)] [] _ _
      exact pm_R_ret pm_M38 (r := none) rfl rfl (K m28 h25 T26 F31 W37 (fun z => sf_pos B33 (by decide) z))

set_option maxRecDepth 100000 in
set_option maxHeartbeats 4000000 in
/-- SilentTable$TextReader.noteMany -/
theorem cl_c38_6 {d : Nat} {ck : cl_K} {E : Nat → pm_E} {m : Nat → Int32} {o : Nat → Option Nat} {h : pm_H} {Q : Option Value → pm_H → Prop}  (G : cl_G ck E) (T : cl_T ck E m o h)  (K : ∀ (m_q : Nat → Int32) (h_q : pm_H), cl_T ck E m_q o h_q → cl_F ck [25] 0 0 h h_q → rf_W [3, 4] m m_q → ((m_q 3).toInt = 0 → (m 3).toInt = 0 ∧ (m 5).toInt < 50) → Q none h_q) : pm_R (d + 1) 38 0 [.ref 25, .int 6, pm_no, pm_no] [] h Q := by
  have B1 : sf_B 0 4 (m 3) := T.B 3
  have B2 : sf_B 0 50 (m 5) := T.B 5
  have B3 : sf_B 0 16 (m 6) := T.B 6
  refine pm_R_stat pm_M38 (pc_q := 3) rfl rfl rfl ?_
  refine pm_R_lo pm_M38 (pc_q := 4) rfl rfl rfl ?_
  refine pm_R_iald pm_M38 (pc_q := 5) (v := 50) rfl ((T.old (by decide)).trans G.tb4) (T.lt (by decide)) rfl rfl rfl ?_
  refine pm_R_lo pm_M38 (pc_q := 6) (ls_q := [.ref 25, .int 6, .int 50, pm_no]) (st_q := []) rfl rfl rfl ?_
  refine pm_R_lo pm_M38 (pc_q := 7) rfl rfl rfl ?_
  refine pm_R_op pm_M38 (pc_q := 8) (st_q := [.int 1, .int 6]) rfl rfl rfl ?_
  refine pm_R_br pm_M38 (pc_q := 18) (st_q := []) rfl rfl ?_
  refine pm_R_lo pm_M38 (pc_q := 19) rfl rfl rfl ?_
  refine pm_R_get pm_M38 (pc_q := 22) (v := .int (m 5)) rfl rfl T.e25 (by decide) (T.lt (by decide)) rfl rfl ?_
  refine pm_R_lo pm_M38 (pc_q := 23) (ls_q := [.ref 25, .int 6, .int 50, .int (m 5)]) (st_q := []) rfl rfl rfl ?_
  refine pm_R_lo pm_M38 (pc_q := 24) rfl rfl rfl ?_
  refine pm_R_br pm_M38 (pc_q := 27) (st_q := []) rfl rfl ?_
  refine pm_R_lo pm_M38 (pc_q := 28) rfl rfl rfl ?_
  refine pm_R_lo pm_M38 (pc_q := 29) rfl rfl rfl ?_
  refine pm_R_icmp pm_M38 (t := 44) (pc_q := 32) rfl rfl rfl (fun c7 => ?_) (fun c7 => ?_)
  · have B8 : sf_B 0 49 (m 5) := sf_ltL c7 B2 sf_k50
    exact pm_R_ret pm_M38 (r := none) rfl rfl (K m h T (cl_F.refl (ck := ck) (A := [25]) (n := 0) (s := 0) T.1) (rf_W.refl [3, 4] m) (fun z => ⟨z, (cl_aux60 _ (Int32.lt_iff_toInt_lt.mp c7) B8.1 B8.2)⟩))
  · have B9 : sf_B 50 50 (m 5) := sf_leR (Int32.not_lt.mp c7) sf_k50 B2
    refine pm_R_lo pm_M38 (pc_q := 33) rfl rfl rfl ?_
    refine pm_R_op pm_M38 (pc_q := 34) (st_q := [.int 3, .ref 25]) rfl rfl rfl ?_
    refine pm_R_lo pm_M38 (pc_q := 35) rfl rfl rfl ?_
    refine pm_R_get pm_M38 (pc_q := 38) (v := .ref 30) rfl rfl T.e25 (by decide) (T.lt (by decide)) rfl rfl ?_
    have B10 : sf_B 0 600 (m 11) := T.B 11
    refine pm_R_get pm_M38 (pc_q := 41) (v := .int (m 11)) rfl rfl T.e30 (by decide) (T.lt (by decide)) rfl rfl ?_
    refine pm_R_cv pm_M38 (pc_q := 44) (a := 25) (ra := [.int (m 11), .int 3]) (rest := []) (ls_q := [.ref 25, .int 3, .int (m 11)]) rfl rfl (Or.inl rfl) pm_M21 T.e25 rfl (by decide) (T.lt (by decide)) rfl rfl (Nat.le_of_ble_eq_true rfl) rfl rfl ?_
    refine pm_R_lo pm_M21 (pc_q := 1) rfl rfl rfl ?_
    refine pm_R_get pm_M21 (pc_q := 4) (v := .int (m 3)) rfl rfl T.e25 (by decide) (T.lt (by decide)) rfl rfl ?_
    refine pm_R_ifc pm_M21 (t := 17) (pc_q := 7) rfl rfl rfl (fun c11 => ?_) (fun c11 => ?_)
    · have B12 : sf_B 1 4 (m 3) := sf_neL0 c11 sf_k0 B1
      refine pm_R_ret pm_M21 (r := none) rfl rfl ?_
      show pm_R _ 38 44 [.ref 25, .int 6, .int 50, .int (m 5)] [] _ _
      exact pm_R_ret pm_M38 (r := none) rfl rfl (K m h T (cl_F.refl (ck := ck) (A := [25]) (n := 0) (s := 0) T.1) (rf_W.refl [3, 4] m) (fun z => sf_pos B12 (by decide) z))
    · have B13 : sf_B 0 0 (m 3) := sf_eqL (Classical.not_not.mp c11) sf_k0
      refine pm_R_lo pm_M21 (pc_q := 8) rfl rfl rfl ?_
      refine pm_R_lo pm_M21 (pc_q := 9) rfl rfl rfl ?_
      refine cl_R_put25 G pm_M21 T (k := 3) (pc_q := 12) rfl rfl rfl (by decide) rfl rfl (sf_weak sf_k3 (by decide) (by decide)) rfl rfl rfl rfl rfl (fun h14 m17 em18 T15 F16 => ?_)
      have F19 := F16.cl (ck := ck) T.1
      have F20 := (cl_F.refl (ck := ck) (A := [25]) (n := 0) (s := 0) T.1).trans (N := 0) (S := 0) F19 (by decide) (by decide) (by decide)
      have B21 : sf_B 50 50 (m17 5) := by rw [em18]; exact B9
      have B22 : sf_B 3 3 (m17 3) := by rw [em18]; exact sf_k3
      have W24 : rf_W [3, 4] m m17 := by rw [em18]; exact (rf_W.refl [3, 4] m).put (by decide)
      refine pm_R_lo pm_M21 (pc_q := 13) rfl rfl rfl ?_
      refine pm_R_lo pm_M21 (pc_q := 14) rfl rfl rfl ?_
      refine cl_R_put25 G pm_M21 T15 (k := 4) (pc_q := 17) rfl rfl rfl (by decide) rfl rfl (sf_weak B10 (by decide) (by decide)) rfl rfl rfl rfl rfl (fun h25 m28 em29 T26 F27 => ?_)
      have F30 := F27.cl (ck := ck) T15.1
      have F31 := F20.trans (N := 0) (S := 0) F30 (by decide) (by decide) (by decide)
      have B32 : sf_B 50 50 (m28 5) := by rw [em29]; exact B21
      have B33 : sf_B 3 3 (m28 3) := by rw [em29]; exact B22
      have ek34 : (m28 3).toInt = ((m17 3)).toInt := by rw [em29]; rfl
      have B35 : sf_B 0 600 (m28 4) := by rw [em29]; exact B10
      have ek36 : (m28 4).toInt = ((m 11)).toInt := by rw [em29]; rfl
      have W37 : rf_W [3, 4] m m28 := by rw [em29]; exact W24.put (by decide)
      refine pm_R_ret pm_M21 (r := none) rfl rfl ?_
      show pm_R _ 38 44 [.ref 25, .int 6, .int 50, .int (m 5)] [] _ _
      exact pm_R_ret pm_M38 (r := none) rfl rfl (K m28 h25 T26 F31 W37 (fun z => sf_pos B33 (by decide) z))

theorem cl_aux61 (v0 : Int) (q0 : v0 < 8) (q1 : 0 ≤ v0) (q2 : v0 ≤ 7) : v0 < 8 := by omega
set_option maxRecDepth 100000 in
set_option maxHeartbeats 4000000 in
/-- SilentTable$TextReader.noteMany -/
theorem cl_c38_7 {d : Nat} {ck : cl_K} {E : Nat → pm_E} {m : Nat → Int32} {o : Nat → Option Nat} {h : pm_H} {Q : Option Value → pm_H → Prop}  (G : cl_G ck E) (T : cl_T ck E m o h)  (K : ∀ (m_q : Nat → Int32) (h_q : pm_H), cl_T ck E m_q o h_q → cl_F ck [25] 0 0 h h_q → rf_W [3, 4] m m_q → ((m_q 3).toInt = 0 → (m 3).toInt = 0 ∧ (m 5).toInt < 8) → Q none h_q) : pm_R (d + 1) 38 0 [.ref 25, .int 7, pm_no, pm_no] [] h Q := by
  have B1 : sf_B 0 4 (m 3) := T.B 3
  have B2 : sf_B 0 50 (m 5) := T.B 5
  have B3 : sf_B 0 16 (m 6) := T.B 6
  refine pm_R_stat pm_M38 (pc_q := 3) rfl rfl rfl ?_
  refine pm_R_lo pm_M38 (pc_q := 4) rfl rfl rfl ?_
  refine pm_R_iald pm_M38 (pc_q := 5) (v := 8) rfl ((T.old (by decide)).trans G.tb4) (T.lt (by decide)) rfl rfl rfl ?_
  refine pm_R_lo pm_M38 (pc_q := 6) (ls_q := [.ref 25, .int 7, .int 8, pm_no]) (st_q := []) rfl rfl rfl ?_
  refine pm_R_lo pm_M38 (pc_q := 7) rfl rfl rfl ?_
  refine pm_R_op pm_M38 (pc_q := 8) (st_q := [.int 1, .int 7]) rfl rfl rfl ?_
  refine pm_R_br pm_M38 (pc_q := 18) (st_q := []) rfl rfl ?_
  refine pm_R_lo pm_M38 (pc_q := 19) rfl rfl rfl ?_
  refine pm_R_get pm_M38 (pc_q := 22) (v := .int (m 5)) rfl rfl T.e25 (by decide) (T.lt (by decide)) rfl rfl ?_
  refine pm_R_lo pm_M38 (pc_q := 23) (ls_q := [.ref 25, .int 7, .int 8, .int (m 5)]) (st_q := []) rfl rfl rfl ?_
  refine pm_R_lo pm_M38 (pc_q := 24) rfl rfl rfl ?_
  refine pm_R_br pm_M38 (pc_q := 27) (st_q := []) rfl rfl ?_
  refine pm_R_lo pm_M38 (pc_q := 28) rfl rfl rfl ?_
  refine pm_R_lo pm_M38 (pc_q := 29) rfl rfl rfl ?_
  refine pm_R_icmp pm_M38 (t := 44) (pc_q := 32) rfl rfl rfl (fun c7 => ?_) (fun c7 => ?_)
  · have B8 : sf_B 0 7 (m 5) := sf_ltL c7 B2 sf_k8
    exact pm_R_ret pm_M38 (r := none) rfl rfl (K m h T (cl_F.refl (ck := ck) (A := [25]) (n := 0) (s := 0) T.1) (rf_W.refl [3, 4] m) (fun z => ⟨z, (cl_aux61 _ (Int32.lt_iff_toInt_lt.mp c7) B8.1 B8.2)⟩))
  · have B9 : sf_B 8 50 (m 5) := sf_leR (Int32.not_lt.mp c7) sf_k8 B2
    refine pm_R_lo pm_M38 (pc_q := 33) rfl rfl rfl ?_
    refine pm_R_op pm_M38 (pc_q := 34) (st_q := [.int 3, .ref 25]) rfl rfl rfl ?_
    refine pm_R_lo pm_M38 (pc_q := 35) rfl rfl rfl ?_
    refine pm_R_get pm_M38 (pc_q := 38) (v := .ref 30) rfl rfl T.e25 (by decide) (T.lt (by decide)) rfl rfl ?_
    have B10 : sf_B 0 600 (m 11) := T.B 11
    refine pm_R_get pm_M38 (pc_q := 41) (v := .int (m 11)) rfl rfl T.e30 (by decide) (T.lt (by decide)) rfl rfl ?_
    refine pm_R_cv pm_M38 (pc_q := 44) (a := 25) (ra := [.int (m 11), .int 3]) (rest := []) (ls_q := [.ref 25, .int 3, .int (m 11)]) rfl rfl (Or.inl rfl) pm_M21 T.e25 rfl (by decide) (T.lt (by decide)) rfl rfl (Nat.le_of_ble_eq_true rfl) rfl rfl ?_
    refine pm_R_lo pm_M21 (pc_q := 1) rfl rfl rfl ?_
    refine pm_R_get pm_M21 (pc_q := 4) (v := .int (m 3)) rfl rfl T.e25 (by decide) (T.lt (by decide)) rfl rfl ?_
    refine pm_R_ifc pm_M21 (t := 17) (pc_q := 7) rfl rfl rfl (fun c11 => ?_) (fun c11 => ?_)
    · have B12 : sf_B 1 4 (m 3) := sf_neL0 c11 sf_k0 B1
      refine pm_R_ret pm_M21 (r := none) rfl rfl ?_
      show pm_R _ 38 44 [.ref 25, .int 7, .int 8, .int (m 5)] [] _ _
      exact pm_R_ret pm_M38 (r := none) rfl rfl (K m h T (cl_F.refl (ck := ck) (A := [25]) (n := 0) (s := 0) T.1) (rf_W.refl [3, 4] m) (fun z => sf_pos B12 (by decide) z))
    · have B13 : sf_B 0 0 (m 3) := sf_eqL (Classical.not_not.mp c11) sf_k0
      refine pm_R_lo pm_M21 (pc_q := 8) rfl rfl rfl ?_
      refine pm_R_lo pm_M21 (pc_q := 9) rfl rfl rfl ?_
      refine cl_R_put25 G pm_M21 T (k := 3) (pc_q := 12) rfl rfl rfl (by decide) rfl rfl (sf_weak sf_k3 (by decide) (by decide)) rfl rfl rfl rfl rfl (fun h14 m17 em18 T15 F16 => ?_)
      have F19 := F16.cl (ck := ck) T.1
      have F20 := (cl_F.refl (ck := ck) (A := [25]) (n := 0) (s := 0) T.1).trans (N := 0) (S := 0) F19 (by decide) (by decide) (by decide)
      have B21 : sf_B 8 50 (m17 5) := by rw [em18]; exact B9
      have B22 : sf_B 3 3 (m17 3) := by rw [em18]; exact sf_k3
      have W24 : rf_W [3, 4] m m17 := by rw [em18]; exact (rf_W.refl [3, 4] m).put (by decide)
      refine pm_R_lo pm_M21 (pc_q := 13) rfl rfl rfl ?_
      refine pm_R_lo pm_M21 (pc_q := 14) rfl rfl rfl ?_
      refine cl_R_put25 G pm_M21 T15 (k := 4) (pc_q := 17) rfl rfl rfl (by decide) rfl rfl (sf_weak B10 (by decide) (by decide)) rfl rfl rfl rfl rfl (fun h25 m28 em29 T26 F27 => ?_)
      have F30 := F27.cl (ck := ck) T15.1
      have F31 := F20.trans (N := 0) (S := 0) F30 (by decide) (by decide) (by decide)
      have B32 : sf_B 8 50 (m28 5) := by rw [em29]; exact B21
      have B33 : sf_B 3 3 (m28 3) := by rw [em29]; exact B22
      have ek34 : (m28 3).toInt = ((m17 3)).toInt := by rw [em29]; rfl
      have B35 : sf_B 0 600 (m28 4) := by rw [em29]; exact B10
      have ek36 : (m28 4).toInt = ((m 11)).toInt := by rw [em29]; rfl
      have W37 : rf_W [3, 4] m m28 := by rw [em29]; exact W24.put (by decide)
      refine pm_R_ret pm_M21 (r := none) rfl rfl ?_
      show pm_R _ 38 44 [.ref 25, .int 7, .int 8, .int (m 5)] [] _ _
      exact pm_R_ret pm_M38 (r := none) rfl rfl (K m28 h25 T26 F31 W37 (fun z => sf_pos B33 (by decide) z))

set_option maxRecDepth 100000 in
set_option maxHeartbeats 4000000 in
/-- SilentTable$TextReader.noteMany -/
theorem cl_c38_8 {d : Nat} {ck : cl_K} {E : Nat → pm_E} {m : Nat → Int32} {o : Nat → Option Nat} {h : pm_H} {Q : Option Value → pm_H → Prop}  (G : cl_G ck E) (T : cl_T ck E m o h)  (K : ∀ (m_q : Nat → Int32) (h_q : pm_H), cl_T ck E m_q o h_q → cl_F ck [25] 0 0 h h_q → rf_W [3, 4] m m_q → ((m_q 3).toInt = 0 → (m 3).toInt = 0 ∧ (m 5).toInt < 8) → Q none h_q) : pm_R (d + 1) 38 0 [.ref 25, .int 8, pm_no, pm_no] [] h Q := by
  have B1 : sf_B 0 4 (m 3) := T.B 3
  have B2 : sf_B 0 50 (m 5) := T.B 5
  have B3 : sf_B 0 16 (m 6) := T.B 6
  refine pm_R_stat pm_M38 (pc_q := 3) rfl rfl rfl ?_
  refine pm_R_lo pm_M38 (pc_q := 4) rfl rfl rfl ?_
  refine pm_R_iald pm_M38 (pc_q := 5) (v := 8) rfl ((T.old (by decide)).trans G.tb4) (T.lt (by decide)) rfl rfl rfl ?_
  refine pm_R_lo pm_M38 (pc_q := 6) (ls_q := [.ref 25, .int 8, .int 8, pm_no]) (st_q := []) rfl rfl rfl ?_
  refine pm_R_lo pm_M38 (pc_q := 7) rfl rfl rfl ?_
  refine pm_R_op pm_M38 (pc_q := 8) (st_q := [.int 1, .int 8]) rfl rfl rfl ?_
  refine pm_R_br pm_M38 (pc_q := 18) (st_q := []) rfl rfl ?_
  refine pm_R_lo pm_M38 (pc_q := 19) rfl rfl rfl ?_
  refine pm_R_get pm_M38 (pc_q := 22) (v := .int (m 5)) rfl rfl T.e25 (by decide) (T.lt (by decide)) rfl rfl ?_
  refine pm_R_lo pm_M38 (pc_q := 23) (ls_q := [.ref 25, .int 8, .int 8, .int (m 5)]) (st_q := []) rfl rfl rfl ?_
  refine pm_R_lo pm_M38 (pc_q := 24) rfl rfl rfl ?_
  refine pm_R_br pm_M38 (pc_q := 27) (st_q := []) rfl rfl ?_
  refine pm_R_lo pm_M38 (pc_q := 28) rfl rfl rfl ?_
  refine pm_R_lo pm_M38 (pc_q := 29) rfl rfl rfl ?_
  refine pm_R_icmp pm_M38 (t := 44) (pc_q := 32) rfl rfl rfl (fun c7 => ?_) (fun c7 => ?_)
  · have B8 : sf_B 0 7 (m 5) := sf_ltL c7 B2 sf_k8
    exact pm_R_ret pm_M38 (r := none) rfl rfl (K m h T (cl_F.refl (ck := ck) (A := [25]) (n := 0) (s := 0) T.1) (rf_W.refl [3, 4] m) (fun z => ⟨z, (cl_aux61 _ (Int32.lt_iff_toInt_lt.mp c7) B8.1 B8.2)⟩))
  · have B9 : sf_B 8 50 (m 5) := sf_leR (Int32.not_lt.mp c7) sf_k8 B2
    refine pm_R_lo pm_M38 (pc_q := 33) rfl rfl rfl ?_
    refine pm_R_op pm_M38 (pc_q := 34) (st_q := [.int 3, .ref 25]) rfl rfl rfl ?_
    refine pm_R_lo pm_M38 (pc_q := 35) rfl rfl rfl ?_
    refine pm_R_get pm_M38 (pc_q := 38) (v := .ref 30) rfl rfl T.e25 (by decide) (T.lt (by decide)) rfl rfl ?_
    have B10 : sf_B 0 600 (m 11) := T.B 11
    refine pm_R_get pm_M38 (pc_q := 41) (v := .int (m 11)) rfl rfl T.e30 (by decide) (T.lt (by decide)) rfl rfl ?_
    refine pm_R_cv pm_M38 (pc_q := 44) (a := 25) (ra := [.int (m 11), .int 3]) (rest := []) (ls_q := [.ref 25, .int 3, .int (m 11)]) rfl rfl (Or.inl rfl) pm_M21 T.e25 rfl (by decide) (T.lt (by decide)) rfl rfl (Nat.le_of_ble_eq_true rfl) rfl rfl ?_
    refine pm_R_lo pm_M21 (pc_q := 1) rfl rfl rfl ?_
    refine pm_R_get pm_M21 (pc_q := 4) (v := .int (m 3)) rfl rfl T.e25 (by decide) (T.lt (by decide)) rfl rfl ?_
    refine pm_R_ifc pm_M21 (t := 17) (pc_q := 7) rfl rfl rfl (fun c11 => ?_) (fun c11 => ?_)
    · have B12 : sf_B 1 4 (m 3) := sf_neL0 c11 sf_k0 B1
      refine pm_R_ret pm_M21 (r := none) rfl rfl ?_
      show pm_R _ 38 44 [.ref 25, .int 8, .int 8, .int (m 5)] [] _ _
      exact pm_R_ret pm_M38 (r := none) rfl rfl (K m h T (cl_F.refl (ck := ck) (A := [25]) (n := 0) (s := 0) T.1) (rf_W.refl [3, 4] m) (fun z => sf_pos B12 (by decide) z))
    · have B13 : sf_B 0 0 (m 3) := sf_eqL (Classical.not_not.mp c11) sf_k0
      refine pm_R_lo pm_M21 (pc_q := 8) rfl rfl rfl ?_
      refine pm_R_lo pm_M21 (pc_q := 9) rfl rfl rfl ?_
      refine cl_R_put25 G pm_M21 T (k := 3) (pc_q := 12) rfl rfl rfl (by decide) rfl rfl (sf_weak sf_k3 (by decide) (by decide)) rfl rfl rfl rfl rfl (fun h14 m17 em18 T15 F16 => ?_)
      have F19 := F16.cl (ck := ck) T.1
      have F20 := (cl_F.refl (ck := ck) (A := [25]) (n := 0) (s := 0) T.1).trans (N := 0) (S := 0) F19 (by decide) (by decide) (by decide)
      have B21 : sf_B 8 50 (m17 5) := by rw [em18]; exact B9
      have B22 : sf_B 3 3 (m17 3) := by rw [em18]; exact sf_k3
      have W24 : rf_W [3, 4] m m17 := by rw [em18]; exact (rf_W.refl [3, 4] m).put (by decide)
      refine pm_R_lo pm_M21 (pc_q := 13) rfl rfl rfl ?_
      refine pm_R_lo pm_M21 (pc_q := 14) rfl rfl rfl ?_
      refine cl_R_put25 G pm_M21 T15 (k := 4) (pc_q := 17) rfl rfl rfl (by decide) rfl rfl (sf_weak B10 (by decide) (by decide)) rfl rfl rfl rfl rfl (fun h25 m28 em29 T26 F27 => ?_)
      have F30 := F27.cl (ck := ck) T15.1
      have F31 := F20.trans (N := 0) (S := 0) F30 (by decide) (by decide) (by decide)
      have B32 : sf_B 8 50 (m28 5) := by rw [em29]; exact B21
      have B33 : sf_B 3 3 (m28 3) := by rw [em29]; exact B22
      have ek34 : (m28 3).toInt = ((m17 3)).toInt := by rw [em29]; rfl
      have B35 : sf_B 0 600 (m28 4) := by rw [em29]; exact B10
      have ek36 : (m28 4).toInt = ((m 11)).toInt := by rw [em29]; rfl
      have W37 : rf_W [3, 4] m m28 := by rw [em29]; exact W24.put (by decide)
      refine pm_R_ret pm_M21 (r := none) rfl rfl ?_
      show pm_R _ 38 44 [.ref 25, .int 8, .int 8, .int (m 5)] [] _ _
      exact pm_R_ret pm_M38 (r := none) rfl rfl (K m28 h25 T26 F31 W37 (fun z => sf_pos B33 (by decide) z))

set_option maxRecDepth 100000 in
set_option maxHeartbeats 4000000 in
/-- SilentTable$TextReader.noteMany -/
theorem cl_c38_9 {d : Nat} {ck : cl_K} {E : Nat → pm_E} {m : Nat → Int32} {o : Nat → Option Nat} {h : pm_H} {Q : Option Value → pm_H → Prop}  (G : cl_G ck E) (T : cl_T ck E m o h)  (K : ∀ (m_q : Nat → Int32) (h_q : pm_H), cl_T ck E m_q o h_q → cl_F ck [25] 0 0 h h_q → rf_W [3, 4] m m_q → ((m_q 3).toInt = 0 → (m 3).toInt = 0 ∧ (m 5).toInt < 8) → Q none h_q) : pm_R (d + 1) 38 0 [.ref 25, .int 9, pm_no, pm_no] [] h Q := by
  have B1 : sf_B 0 4 (m 3) := T.B 3
  have B2 : sf_B 0 50 (m 5) := T.B 5
  have B3 : sf_B 0 16 (m 6) := T.B 6
  refine pm_R_stat pm_M38 (pc_q := 3) rfl rfl rfl ?_
  refine pm_R_lo pm_M38 (pc_q := 4) rfl rfl rfl ?_
  refine pm_R_iald pm_M38 (pc_q := 5) (v := 8) rfl ((T.old (by decide)).trans G.tb4) (T.lt (by decide)) rfl rfl rfl ?_
  refine pm_R_lo pm_M38 (pc_q := 6) (ls_q := [.ref 25, .int 9, .int 8, pm_no]) (st_q := []) rfl rfl rfl ?_
  refine pm_R_lo pm_M38 (pc_q := 7) rfl rfl rfl ?_
  refine pm_R_op pm_M38 (pc_q := 8) (st_q := [.int 1, .int 9]) rfl rfl rfl ?_
  refine pm_R_br pm_M38 (pc_q := 18) (st_q := []) rfl rfl ?_
  refine pm_R_lo pm_M38 (pc_q := 19) rfl rfl rfl ?_
  refine pm_R_get pm_M38 (pc_q := 22) (v := .int (m 5)) rfl rfl T.e25 (by decide) (T.lt (by decide)) rfl rfl ?_
  refine pm_R_lo pm_M38 (pc_q := 23) (ls_q := [.ref 25, .int 9, .int 8, .int (m 5)]) (st_q := []) rfl rfl rfl ?_
  refine pm_R_lo pm_M38 (pc_q := 24) rfl rfl rfl ?_
  refine pm_R_br pm_M38 (pc_q := 27) (st_q := []) rfl rfl ?_
  refine pm_R_lo pm_M38 (pc_q := 28) rfl rfl rfl ?_
  refine pm_R_lo pm_M38 (pc_q := 29) rfl rfl rfl ?_
  refine pm_R_icmp pm_M38 (t := 44) (pc_q := 32) rfl rfl rfl (fun c7 => ?_) (fun c7 => ?_)
  · have B8 : sf_B 0 7 (m 5) := sf_ltL c7 B2 sf_k8
    exact pm_R_ret pm_M38 (r := none) rfl rfl (K m h T (cl_F.refl (ck := ck) (A := [25]) (n := 0) (s := 0) T.1) (rf_W.refl [3, 4] m) (fun z => ⟨z, (cl_aux61 _ (Int32.lt_iff_toInt_lt.mp c7) B8.1 B8.2)⟩))
  · have B9 : sf_B 8 50 (m 5) := sf_leR (Int32.not_lt.mp c7) sf_k8 B2
    refine pm_R_lo pm_M38 (pc_q := 33) rfl rfl rfl ?_
    refine pm_R_op pm_M38 (pc_q := 34) (st_q := [.int 3, .ref 25]) rfl rfl rfl ?_
    refine pm_R_lo pm_M38 (pc_q := 35) rfl rfl rfl ?_
    refine pm_R_get pm_M38 (pc_q := 38) (v := .ref 30) rfl rfl T.e25 (by decide) (T.lt (by decide)) rfl rfl ?_
    have B10 : sf_B 0 600 (m 11) := T.B 11
    refine pm_R_get pm_M38 (pc_q := 41) (v := .int (m 11)) rfl rfl T.e30 (by decide) (T.lt (by decide)) rfl rfl ?_
    refine pm_R_cv pm_M38 (pc_q := 44) (a := 25) (ra := [.int (m 11), .int 3]) (rest := []) (ls_q := [.ref 25, .int 3, .int (m 11)]) rfl rfl (Or.inl rfl) pm_M21 T.e25 rfl (by decide) (T.lt (by decide)) rfl rfl (Nat.le_of_ble_eq_true rfl) rfl rfl ?_
    refine pm_R_lo pm_M21 (pc_q := 1) rfl rfl rfl ?_
    refine pm_R_get pm_M21 (pc_q := 4) (v := .int (m 3)) rfl rfl T.e25 (by decide) (T.lt (by decide)) rfl rfl ?_
    refine pm_R_ifc pm_M21 (t := 17) (pc_q := 7) rfl rfl rfl (fun c11 => ?_) (fun c11 => ?_)
    · have B12 : sf_B 1 4 (m 3) := sf_neL0 c11 sf_k0 B1
      refine pm_R_ret pm_M21 (r := none) rfl rfl ?_
      show pm_R _ 38 44 [.ref 25, .int 9, .int 8, .int (m 5)] [] _ _
      exact pm_R_ret pm_M38 (r := none) rfl rfl (K m h T (cl_F.refl (ck := ck) (A := [25]) (n := 0) (s := 0) T.1) (rf_W.refl [3, 4] m) (fun z => sf_pos B12 (by decide) z))
    · have B13 : sf_B 0 0 (m 3) := sf_eqL (Classical.not_not.mp c11) sf_k0
      refine pm_R_lo pm_M21 (pc_q := 8) rfl rfl rfl ?_
      refine pm_R_lo pm_M21 (pc_q := 9) rfl rfl rfl ?_
      refine cl_R_put25 G pm_M21 T (k := 3) (pc_q := 12) rfl rfl rfl (by decide) rfl rfl (sf_weak sf_k3 (by decide) (by decide)) rfl rfl rfl rfl rfl (fun h14 m17 em18 T15 F16 => ?_)
      have F19 := F16.cl (ck := ck) T.1
      have F20 := (cl_F.refl (ck := ck) (A := [25]) (n := 0) (s := 0) T.1).trans (N := 0) (S := 0) F19 (by decide) (by decide) (by decide)
      have B21 : sf_B 8 50 (m17 5) := by rw [em18]; exact B9
      have B22 : sf_B 3 3 (m17 3) := by rw [em18]; exact sf_k3
      have W24 : rf_W [3, 4] m m17 := by rw [em18]; exact (rf_W.refl [3, 4] m).put (by decide)
      refine pm_R_lo pm_M21 (pc_q := 13) rfl rfl rfl ?_
      refine pm_R_lo pm_M21 (pc_q := 14) rfl rfl rfl ?_
      refine cl_R_put25 G pm_M21 T15 (k := 4) (pc_q := 17) rfl rfl rfl (by decide) rfl rfl (sf_weak B10 (by decide) (by decide)) rfl rfl rfl rfl rfl (fun h25 m28 em29 T26 F27 => ?_)
      have F30 := F27.cl (ck := ck) T15.1
      have F31 := F20.trans (N := 0) (S := 0) F30 (by decide) (by decide) (by decide)
      have B32 : sf_B 8 50 (m28 5) := by rw [em29]; exact B21
      have B33 : sf_B 3 3 (m28 3) := by rw [em29]; exact B22
      have ek34 : (m28 3).toInt = ((m17 3)).toInt := by rw [em29]; rfl
      have B35 : sf_B 0 600 (m28 4) := by rw [em29]; exact B10
      have ek36 : (m28 4).toInt = ((m 11)).toInt := by rw [em29]; rfl
      have W37 : rf_W [3, 4] m m28 := by rw [em29]; exact W24.put (by decide)
      refine pm_R_ret pm_M21 (r := none) rfl rfl ?_
      show pm_R _ 38 44 [.ref 25, .int 9, .int 8, .int (m 5)] [] _ _
      exact pm_R_ret pm_M38 (r := none) rfl rfl (K m28 h25 T26 F31 W37 (fun z => sf_pos B33 (by decide) z))

set_option maxRecDepth 100000 in
set_option maxHeartbeats 4000000 in
/-- SilentTable$TextReader.noteMany -/
theorem cl_c38_10 {d : Nat} {ck : cl_K} {E : Nat → pm_E} {m : Nat → Int32} {o : Nat → Option Nat} {h : pm_H} {Q : Option Value → pm_H → Prop}  (G : cl_G ck E) (T : cl_T ck E m o h)  (K : ∀ (m_q : Nat → Int32) (h_q : pm_H), cl_T ck E m_q o h_q → cl_F ck [25] 0 0 h h_q → rf_W [3, 4] m m_q → ((m_q 3).toInt = 0 → (m 3).toInt = 0 ∧ (m 5).toInt < 8) → Q none h_q) : pm_R (d + 1) 38 0 [.ref 25, .int 10, pm_no, pm_no] [] h Q := by
  have B1 : sf_B 0 4 (m 3) := T.B 3
  have B2 : sf_B 0 50 (m 5) := T.B 5
  have B3 : sf_B 0 16 (m 6) := T.B 6
  refine pm_R_stat pm_M38 (pc_q := 3) rfl rfl rfl ?_
  refine pm_R_lo pm_M38 (pc_q := 4) rfl rfl rfl ?_
  refine pm_R_iald pm_M38 (pc_q := 5) (v := 8) rfl ((T.old (by decide)).trans G.tb4) (T.lt (by decide)) rfl rfl rfl ?_
  refine pm_R_lo pm_M38 (pc_q := 6) (ls_q := [.ref 25, .int 10, .int 8, pm_no]) (st_q := []) rfl rfl rfl ?_
  refine pm_R_lo pm_M38 (pc_q := 7) rfl rfl rfl ?_
  refine pm_R_op pm_M38 (pc_q := 8) (st_q := [.int 1, .int 10]) rfl rfl rfl ?_
  refine pm_R_br pm_M38 (pc_q := 18) (st_q := []) rfl rfl ?_
  refine pm_R_lo pm_M38 (pc_q := 19) rfl rfl rfl ?_
  refine pm_R_get pm_M38 (pc_q := 22) (v := .int (m 5)) rfl rfl T.e25 (by decide) (T.lt (by decide)) rfl rfl ?_
  refine pm_R_lo pm_M38 (pc_q := 23) (ls_q := [.ref 25, .int 10, .int 8, .int (m 5)]) (st_q := []) rfl rfl rfl ?_
  refine pm_R_lo pm_M38 (pc_q := 24) rfl rfl rfl ?_
  refine pm_R_br pm_M38 (pc_q := 27) (st_q := []) rfl rfl ?_
  refine pm_R_lo pm_M38 (pc_q := 28) rfl rfl rfl ?_
  refine pm_R_lo pm_M38 (pc_q := 29) rfl rfl rfl ?_
  refine pm_R_icmp pm_M38 (t := 44) (pc_q := 32) rfl rfl rfl (fun c7 => ?_) (fun c7 => ?_)
  · have B8 : sf_B 0 7 (m 5) := sf_ltL c7 B2 sf_k8
    exact pm_R_ret pm_M38 (r := none) rfl rfl (K m h T (cl_F.refl (ck := ck) (A := [25]) (n := 0) (s := 0) T.1) (rf_W.refl [3, 4] m) (fun z => ⟨z, (cl_aux61 _ (Int32.lt_iff_toInt_lt.mp c7) B8.1 B8.2)⟩))
  · have B9 : sf_B 8 50 (m 5) := sf_leR (Int32.not_lt.mp c7) sf_k8 B2
    refine pm_R_lo pm_M38 (pc_q := 33) rfl rfl rfl ?_
    refine pm_R_op pm_M38 (pc_q := 34) (st_q := [.int 3, .ref 25]) rfl rfl rfl ?_
    refine pm_R_lo pm_M38 (pc_q := 35) rfl rfl rfl ?_
    refine pm_R_get pm_M38 (pc_q := 38) (v := .ref 30) rfl rfl T.e25 (by decide) (T.lt (by decide)) rfl rfl ?_
    have B10 : sf_B 0 600 (m 11) := T.B 11
    refine pm_R_get pm_M38 (pc_q := 41) (v := .int (m 11)) rfl rfl T.e30 (by decide) (T.lt (by decide)) rfl rfl ?_
    refine pm_R_cv pm_M38 (pc_q := 44) (a := 25) (ra := [.int (m 11), .int 3]) (rest := []) (ls_q := [.ref 25, .int 3, .int (m 11)]) rfl rfl (Or.inl rfl) pm_M21 T.e25 rfl (by decide) (T.lt (by decide)) rfl rfl (Nat.le_of_ble_eq_true rfl) rfl rfl ?_
    refine pm_R_lo pm_M21 (pc_q := 1) rfl rfl rfl ?_
    refine pm_R_get pm_M21 (pc_q := 4) (v := .int (m 3)) rfl rfl T.e25 (by decide) (T.lt (by decide)) rfl rfl ?_
    refine pm_R_ifc pm_M21 (t := 17) (pc_q := 7) rfl rfl rfl (fun c11 => ?_) (fun c11 => ?_)
    · have B12 : sf_B 1 4 (m 3) := sf_neL0 c11 sf_k0 B1
      refine pm_R_ret pm_M21 (r := none) rfl rfl ?_
      show pm_R _ 38 44 [.ref 25, .int 10, .int 8, .int (m 5)] [] _ _
      exact pm_R_ret pm_M38 (r := none) rfl rfl (K m h T (cl_F.refl (ck := ck) (A := [25]) (n := 0) (s := 0) T.1) (rf_W.refl [3, 4] m) (fun z => sf_pos B12 (by decide) z))
    · have B13 : sf_B 0 0 (m 3) := sf_eqL (Classical.not_not.mp c11) sf_k0
      refine pm_R_lo pm_M21 (pc_q := 8) rfl rfl rfl ?_
      refine pm_R_lo pm_M21 (pc_q := 9) rfl rfl rfl ?_
      refine cl_R_put25 G pm_M21 T (k := 3) (pc_q := 12) rfl rfl rfl (by decide) rfl rfl (sf_weak sf_k3 (by decide) (by decide)) rfl rfl rfl rfl rfl (fun h14 m17 em18 T15 F16 => ?_)
      have F19 := F16.cl (ck := ck) T.1
      have F20 := (cl_F.refl (ck := ck) (A := [25]) (n := 0) (s := 0) T.1).trans (N := 0) (S := 0) F19 (by decide) (by decide) (by decide)
      have B21 : sf_B 8 50 (m17 5) := by rw [em18]; exact B9
      have B22 : sf_B 3 3 (m17 3) := by rw [em18]; exact sf_k3
      have W24 : rf_W [3, 4] m m17 := by rw [em18]; exact (rf_W.refl [3, 4] m).put (by decide)
      refine pm_R_lo pm_M21 (pc_q := 13) rfl rfl rfl ?_
      refine pm_R_lo pm_M21 (pc_q := 14) rfl rfl rfl ?_
      refine cl_R_put25 G pm_M21 T15 (k := 4) (pc_q := 17) rfl rfl rfl (by decide) rfl rfl (sf_weak B10 (by decide) (by decide)) rfl rfl rfl rfl rfl (fun h25 m28 em29 T26 F27 => ?_)
      have F30 := F27.cl (ck := ck) T15.1
      have F31 := F20.trans (N := 0) (S := 0) F30 (by decide) (by decide) (by decide)
      have B32 : sf_B 8 50 (m28 5) := by rw [em29]; exact B21
      have B33 : sf_B 3 3 (m28 3) := by rw [em29]; exact B22
      have ek34 : (m28 3).toInt = ((m17 3)).toInt := by rw [em29]; rfl
      have B35 : sf_B 0 600 (m28 4) := by rw [em29]; exact B10
      have ek36 : (m28 4).toInt = ((m 11)).toInt := by rw [em29]; rfl
      have W37 : rf_W [3, 4] m m28 := by rw [em29]; exact W24.put (by decide)
      refine pm_R_ret pm_M21 (r := none) rfl rfl ?_
      show pm_R _ 38 44 [.ref 25, .int 10, .int 8, .int (m 5)] [] _ _
      exact pm_R_ret pm_M38 (r := none) rfl rfl (K m28 h25 T26 F31 W37 (fun z => sf_pos B33 (by decide) z))

set_option maxRecDepth 100000 in
set_option maxHeartbeats 4000000 in
/-- SilentTable$TextReader.noteMany -/
theorem cl_c38_11 {d : Nat} {ck : cl_K} {E : Nat → pm_E} {m : Nat → Int32} {o : Nat → Option Nat} {h : pm_H} {Q : Option Value → pm_H → Prop}  (G : cl_G ck E) (T : cl_T ck E m o h)  (K : ∀ (m_q : Nat → Int32) (h_q : pm_H), cl_T ck E m_q o h_q → cl_F ck [25] 0 0 h h_q → rf_W [3, 4] m m_q → ((m_q 3).toInt = 0 → (m 3).toInt = 0 ∧ (m 5).toInt < 8) → Q none h_q) : pm_R (d + 1) 38 0 [.ref 25, .int 11, pm_no, pm_no] [] h Q := by
  have B1 : sf_B 0 4 (m 3) := T.B 3
  have B2 : sf_B 0 50 (m 5) := T.B 5
  have B3 : sf_B 0 16 (m 6) := T.B 6
  refine pm_R_stat pm_M38 (pc_q := 3) rfl rfl rfl ?_
  refine pm_R_lo pm_M38 (pc_q := 4) rfl rfl rfl ?_
  refine pm_R_iald pm_M38 (pc_q := 5) (v := 8) rfl ((T.old (by decide)).trans G.tb4) (T.lt (by decide)) rfl rfl rfl ?_
  refine pm_R_lo pm_M38 (pc_q := 6) (ls_q := [.ref 25, .int 11, .int 8, pm_no]) (st_q := []) rfl rfl rfl ?_
  refine pm_R_lo pm_M38 (pc_q := 7) rfl rfl rfl ?_
  refine pm_R_op pm_M38 (pc_q := 8) (st_q := [.int 1, .int 11]) rfl rfl rfl ?_
  refine pm_R_br pm_M38 (pc_q := 18) (st_q := []) rfl rfl ?_
  refine pm_R_lo pm_M38 (pc_q := 19) rfl rfl rfl ?_
  refine pm_R_get pm_M38 (pc_q := 22) (v := .int (m 5)) rfl rfl T.e25 (by decide) (T.lt (by decide)) rfl rfl ?_
  refine pm_R_lo pm_M38 (pc_q := 23) (ls_q := [.ref 25, .int 11, .int 8, .int (m 5)]) (st_q := []) rfl rfl rfl ?_
  refine pm_R_lo pm_M38 (pc_q := 24) rfl rfl rfl ?_
  refine pm_R_br pm_M38 (pc_q := 27) (st_q := []) rfl rfl ?_
  refine pm_R_lo pm_M38 (pc_q := 28) rfl rfl rfl ?_
  refine pm_R_lo pm_M38 (pc_q := 29) rfl rfl rfl ?_
  refine pm_R_icmp pm_M38 (t := 44) (pc_q := 32) rfl rfl rfl (fun c7 => ?_) (fun c7 => ?_)
  · have B8 : sf_B 0 7 (m 5) := sf_ltL c7 B2 sf_k8
    exact pm_R_ret pm_M38 (r := none) rfl rfl (K m h T (cl_F.refl (ck := ck) (A := [25]) (n := 0) (s := 0) T.1) (rf_W.refl [3, 4] m) (fun z => ⟨z, (cl_aux61 _ (Int32.lt_iff_toInt_lt.mp c7) B8.1 B8.2)⟩))
  · have B9 : sf_B 8 50 (m 5) := sf_leR (Int32.not_lt.mp c7) sf_k8 B2
    refine pm_R_lo pm_M38 (pc_q := 33) rfl rfl rfl ?_
    refine pm_R_op pm_M38 (pc_q := 34) (st_q := [.int 3, .ref 25]) rfl rfl rfl ?_
    refine pm_R_lo pm_M38 (pc_q := 35) rfl rfl rfl ?_
    refine pm_R_get pm_M38 (pc_q := 38) (v := .ref 30) rfl rfl T.e25 (by decide) (T.lt (by decide)) rfl rfl ?_
    have B10 : sf_B 0 600 (m 11) := T.B 11
    refine pm_R_get pm_M38 (pc_q := 41) (v := .int (m 11)) rfl rfl T.e30 (by decide) (T.lt (by decide)) rfl rfl ?_
    refine pm_R_cv pm_M38 (pc_q := 44) (a := 25) (ra := [.int (m 11), .int 3]) (rest := []) (ls_q := [.ref 25, .int 3, .int (m 11)]) rfl rfl (Or.inl rfl) pm_M21 T.e25 rfl (by decide) (T.lt (by decide)) rfl rfl (Nat.le_of_ble_eq_true rfl) rfl rfl ?_
    refine pm_R_lo pm_M21 (pc_q := 1) rfl rfl rfl ?_
    refine pm_R_get pm_M21 (pc_q := 4) (v := .int (m 3)) rfl rfl T.e25 (by decide) (T.lt (by decide)) rfl rfl ?_
    refine pm_R_ifc pm_M21 (t := 17) (pc_q := 7) rfl rfl rfl (fun c11 => ?_) (fun c11 => ?_)
    · have B12 : sf_B 1 4 (m 3) := sf_neL0 c11 sf_k0 B1
      refine pm_R_ret pm_M21 (r := none) rfl rfl ?_
      show pm_R _ 38 44 [.ref 25, .int 11, .int 8, .int (m 5)] [] _ _
      exact pm_R_ret pm_M38 (r := none) rfl rfl (K m h T (cl_F.refl (ck := ck) (A := [25]) (n := 0) (s := 0) T.1) (rf_W.refl [3, 4] m) (fun z => sf_pos B12 (by decide) z))
    · have B13 : sf_B 0 0 (m 3) := sf_eqL (Classical.not_not.mp c11) sf_k0
      refine pm_R_lo pm_M21 (pc_q := 8) rfl rfl rfl ?_
      refine pm_R_lo pm_M21 (pc_q := 9) rfl rfl rfl ?_
      refine cl_R_put25 G pm_M21 T (k := 3) (pc_q := 12) rfl rfl rfl (by decide) rfl rfl (sf_weak sf_k3 (by decide) (by decide)) rfl rfl rfl rfl rfl (fun h14 m17 em18 T15 F16 => ?_)
      have F19 := F16.cl (ck := ck) T.1
      have F20 := (cl_F.refl (ck := ck) (A := [25]) (n := 0) (s := 0) T.1).trans (N := 0) (S := 0) F19 (by decide) (by decide) (by decide)
      have B21 : sf_B 8 50 (m17 5) := by rw [em18]; exact B9
      have B22 : sf_B 3 3 (m17 3) := by rw [em18]; exact sf_k3
      have W24 : rf_W [3, 4] m m17 := by rw [em18]; exact (rf_W.refl [3, 4] m).put (by decide)
      refine pm_R_lo pm_M21 (pc_q := 13) rfl rfl rfl ?_
      refine pm_R_lo pm_M21 (pc_q := 14) rfl rfl rfl ?_
      refine cl_R_put25 G pm_M21 T15 (k := 4) (pc_q := 17) rfl rfl rfl (by decide) rfl rfl (sf_weak B10 (by decide) (by decide)) rfl rfl rfl rfl rfl (fun h25 m28 em29 T26 F27 => ?_)
      have F30 := F27.cl (ck := ck) T15.1
      have F31 := F20.trans (N := 0) (S := 0) F30 (by decide) (by decide) (by decide)
      have B32 : sf_B 8 50 (m28 5) := by rw [em29]; exact B21
      have B33 : sf_B 3 3 (m28 3) := by rw [em29]; exact B22
      have ek34 : (m28 3).toInt = ((m17 3)).toInt := by rw [em29]; rfl
      have B35 : sf_B 0 600 (m28 4) := by rw [em29]; exact B10
      have ek36 : (m28 4).toInt = ((m 11)).toInt := by rw [em29]; rfl
      have W37 : rf_W [3, 4] m m28 := by rw [em29]; exact W24.put (by decide)
      refine pm_R_ret pm_M21 (r := none) rfl rfl ?_
      show pm_R _ 38 44 [.ref 25, .int 11, .int 8, .int (m 5)] [] _ _
      exact pm_R_ret pm_M38 (r := none) rfl rfl (K m28 h25 T26 F31 W37 (fun z => sf_pos B33 (by decide) z))

set_option maxRecDepth 100000 in
set_option maxHeartbeats 4000000 in
/-- SilentTable$TextReader.noteMany -/
theorem cl_c38_12 {d : Nat} {ck : cl_K} {E : Nat → pm_E} {m : Nat → Int32} {o : Nat → Option Nat} {h : pm_H} {Q : Option Value → pm_H → Prop}  (G : cl_G ck E) (T : cl_T ck E m o h)  (K : ∀ (m_q : Nat → Int32) (h_q : pm_H), cl_T ck E m_q o h_q → cl_F ck [25] 0 0 h h_q → rf_W [3, 4] m m_q → ((m_q 3).toInt = 0 → (m 3).toInt = 0 ∧ (m 5).toInt < 8) → Q none h_q) : pm_R (d + 1) 38 0 [.ref 25, .int 12, pm_no, pm_no] [] h Q := by
  have B1 : sf_B 0 4 (m 3) := T.B 3
  have B2 : sf_B 0 50 (m 5) := T.B 5
  have B3 : sf_B 0 16 (m 6) := T.B 6
  refine pm_R_stat pm_M38 (pc_q := 3) rfl rfl rfl ?_
  refine pm_R_lo pm_M38 (pc_q := 4) rfl rfl rfl ?_
  refine pm_R_iald pm_M38 (pc_q := 5) (v := 8) rfl ((T.old (by decide)).trans G.tb4) (T.lt (by decide)) rfl rfl rfl ?_
  refine pm_R_lo pm_M38 (pc_q := 6) (ls_q := [.ref 25, .int 12, .int 8, pm_no]) (st_q := []) rfl rfl rfl ?_
  refine pm_R_lo pm_M38 (pc_q := 7) rfl rfl rfl ?_
  refine pm_R_op pm_M38 (pc_q := 8) (st_q := [.int 1, .int 12]) rfl rfl rfl ?_
  refine pm_R_br pm_M38 (pc_q := 18) (st_q := []) rfl rfl ?_
  refine pm_R_lo pm_M38 (pc_q := 19) rfl rfl rfl ?_
  refine pm_R_get pm_M38 (pc_q := 22) (v := .int (m 5)) rfl rfl T.e25 (by decide) (T.lt (by decide)) rfl rfl ?_
  refine pm_R_lo pm_M38 (pc_q := 23) (ls_q := [.ref 25, .int 12, .int 8, .int (m 5)]) (st_q := []) rfl rfl rfl ?_
  refine pm_R_lo pm_M38 (pc_q := 24) rfl rfl rfl ?_
  refine pm_R_br pm_M38 (pc_q := 27) (st_q := []) rfl rfl ?_
  refine pm_R_lo pm_M38 (pc_q := 28) rfl rfl rfl ?_
  refine pm_R_lo pm_M38 (pc_q := 29) rfl rfl rfl ?_
  refine pm_R_icmp pm_M38 (t := 44) (pc_q := 32) rfl rfl rfl (fun c7 => ?_) (fun c7 => ?_)
  · have B8 : sf_B 0 7 (m 5) := sf_ltL c7 B2 sf_k8
    exact pm_R_ret pm_M38 (r := none) rfl rfl (K m h T (cl_F.refl (ck := ck) (A := [25]) (n := 0) (s := 0) T.1) (rf_W.refl [3, 4] m) (fun z => ⟨z, (cl_aux61 _ (Int32.lt_iff_toInt_lt.mp c7) B8.1 B8.2)⟩))
  · have B9 : sf_B 8 50 (m 5) := sf_leR (Int32.not_lt.mp c7) sf_k8 B2
    refine pm_R_lo pm_M38 (pc_q := 33) rfl rfl rfl ?_
    refine pm_R_op pm_M38 (pc_q := 34) (st_q := [.int 3, .ref 25]) rfl rfl rfl ?_
    refine pm_R_lo pm_M38 (pc_q := 35) rfl rfl rfl ?_
    refine pm_R_get pm_M38 (pc_q := 38) (v := .ref 30) rfl rfl T.e25 (by decide) (T.lt (by decide)) rfl rfl ?_
    have B10 : sf_B 0 600 (m 11) := T.B 11
    refine pm_R_get pm_M38 (pc_q := 41) (v := .int (m 11)) rfl rfl T.e30 (by decide) (T.lt (by decide)) rfl rfl ?_
    refine pm_R_cv pm_M38 (pc_q := 44) (a := 25) (ra := [.int (m 11), .int 3]) (rest := []) (ls_q := [.ref 25, .int 3, .int (m 11)]) rfl rfl (Or.inl rfl) pm_M21 T.e25 rfl (by decide) (T.lt (by decide)) rfl rfl (Nat.le_of_ble_eq_true rfl) rfl rfl ?_
    refine pm_R_lo pm_M21 (pc_q := 1) rfl rfl rfl ?_
    refine pm_R_get pm_M21 (pc_q := 4) (v := .int (m 3)) rfl rfl T.e25 (by decide) (T.lt (by decide)) rfl rfl ?_
    refine pm_R_ifc pm_M21 (t := 17) (pc_q := 7) rfl rfl rfl (fun c11 => ?_) (fun c11 => ?_)
    · have B12 : sf_B 1 4 (m 3) := sf_neL0 c11 sf_k0 B1
      refine pm_R_ret pm_M21 (r := none) rfl rfl ?_
      show pm_R _ 38 44 [.ref 25, .int 12, .int 8, .int (m 5)] [] _ _
      exact pm_R_ret pm_M38 (r := none) rfl rfl (K m h T (cl_F.refl (ck := ck) (A := [25]) (n := 0) (s := 0) T.1) (rf_W.refl [3, 4] m) (fun z => sf_pos B12 (by decide) z))
    · have B13 : sf_B 0 0 (m 3) := sf_eqL (Classical.not_not.mp c11) sf_k0
      refine pm_R_lo pm_M21 (pc_q := 8) rfl rfl rfl ?_
      refine pm_R_lo pm_M21 (pc_q := 9) rfl rfl rfl ?_
      refine cl_R_put25 G pm_M21 T (k := 3) (pc_q := 12) rfl rfl rfl (by decide) rfl rfl (sf_weak sf_k3 (by decide) (by decide)) rfl rfl rfl rfl rfl (fun h14 m17 em18 T15 F16 => ?_)
      have F19 := F16.cl (ck := ck) T.1
      have F20 := (cl_F.refl (ck := ck) (A := [25]) (n := 0) (s := 0) T.1).trans (N := 0) (S := 0) F19 (by decide) (by decide) (by decide)
      have B21 : sf_B 8 50 (m17 5) := by rw [em18]; exact B9
      have B22 : sf_B 3 3 (m17 3) := by rw [em18]; exact sf_k3
      have W24 : rf_W [3, 4] m m17 := by rw [em18]; exact (rf_W.refl [3, 4] m).put (by decide)
      refine pm_R_lo pm_M21 (pc_q := 13) rfl rfl rfl ?_
      refine pm_R_lo pm_M21 (pc_q := 14) rfl rfl rfl ?_
      refine cl_R_put25 G pm_M21 T15 (k := 4) (pc_q := 17) rfl rfl rfl (by decide) rfl rfl (sf_weak B10 (by decide) (by decide)) rfl rfl rfl rfl rfl (fun h25 m28 em29 T26 F27 => ?_)
      have F30 := F27.cl (ck := ck) T15.1
      have F31 := F20.trans (N := 0) (S := 0) F30 (by decide) (by decide) (by decide)
      have B32 : sf_B 8 50 (m28 5) := by rw [em29]; exact B21
      have B33 : sf_B 3 3 (m28 3) := by rw [em29]; exact B22
      have ek34 : (m28 3).toInt = ((m17 3)).toInt := by rw [em29]; rfl
      have B35 : sf_B 0 600 (m28 4) := by rw [em29]; exact B10
      have ek36 : (m28 4).toInt = ((m 11)).toInt := by rw [em29]; rfl
      have W37 : rf_W [3, 4] m m28 := by rw [em29]; exact W24.put (by decide)
      refine pm_R_ret pm_M21 (r := none) rfl rfl ?_
      show pm_R _ 38 44 [.ref 25, .int 12, .int 8, .int (m 5)] [] _ _
      exact pm_R_ret pm_M38 (r := none) rfl rfl (K m28 h25 T26 F31 W37 (fun z => sf_pos B33 (by decide) z))

theorem cl_aux62 (v0 : Int) (q0 : v0 ≤ 5) : v0 ≤ 5 := by omega
set_option maxRecDepth 100000 in
set_option maxHeartbeats 4000000 in
/-- SilentTable$TextReader.noteNumber -/
theorem cl_c39_0_0 {d : Nat} {ck : cl_K} {E : Nat → pm_E} {m : Nat → Int32} {o : Nat → Option Nat} {h : pm_H} {Q : Option Value → pm_H → Prop}  (G : cl_G ck E) (T : cl_T ck E m o h)  (K : ∀ (m_q : Nat → Int32) (h_q : pm_H), cl_T ck E m_q o h_q → cl_F ck [25] 0 0 h h_q → rf_W [3, 4] m m_q → (∀ g : Nat → Int32, h.2.2 29 = .inl (0, 4, .inl g) → (m_q 3).toInt = 0 → (m 3).toInt = 0 ∧ True ∧ (g (Int32.toNatClampNeg 0)).toInt ≤ 5) → Q none h_q) : pm_R (d + 1) 39 0 [.ref 25, .int 0, .int 0, pm_no, pm_no, pm_no] [] h Q := by
  have B1 : sf_B 0 4 (m 3) := T.B 3
  obtain ⟨f2, e3⟩ := T.C 29 (by decide) (by decide)
  refine pm_R_lo pm_M39 (pc_q := 1) rfl rfl rfl ?_
  refine pm_R_get pm_M39 (pc_q := 4) (v := .ref 29) rfl rfl T.e25 (by decide) (T.lt (by decide)) rfl rfl ?_
  refine pm_R_lo pm_M39 (pc_q := 5) rfl rfl rfl ?_
  obtain ⟨z5, ez6⟩ : ∃ y, f2 (Int32.toNatClampNeg 0) = y := ⟨_, rfl⟩
  refine pm_R_iald pm_M39 (pc_q := 6) (v := z5) rfl e3 (T.lt (by decide)) rfl ez6 rfl ?_
  refine pm_R_stat pm_M39 (pc_q := 9) rfl rfl rfl ?_
  refine pm_R_lo pm_M39 (pc_q := 10) rfl rfl rfl ?_
  refine pm_R_op pm_M39 (pc_q := 11) (st_q := [.int 3, .int 0, .ref 3, .int z5]) rfl rfl rfl ?_
  refine pm_R_op pm_M39 (pc_q := 12) (st_q := [.int 0, .ref 3, .int z5]) rfl rfl rfl ?_
  refine pm_R_lo pm_M39 (pc_q := 13) rfl rfl rfl ?_
  refine pm_R_op pm_M39 (pc_q := 14) (st_q := [.int 0, .ref 3, .int z5]) rfl rfl rfl ?_
  refine pm_R_iald pm_M39 (pc_q := 15) (v := 5) rfl ((T.old (by decide)).trans G.tb3) (T.lt (by decide)) rfl rfl rfl ?_
  refine pm_R_icmp pm_M39 (t := 22) (pc_q := 18) rfl rfl rfl (fun c11 => ?_) (fun c11 => ?_)
  · have B12 : sf_B (-2147483648) 5 z5 := sf_leL c11 (sf_any z5) sf_k5
    refine pm_R_op pm_M39 (pc_q := 23) (st_q := [.int 0]) rfl rfl rfl ?_
    refine pm_R_lo pm_M39 (pc_q := 24) (ls_q := [.ref 25, .int 0, .int 0, .int 0, pm_no, pm_no]) (st_q := []) rfl rfl rfl ?_
    refine pm_R_lo pm_M39 (pc_q := 25) rfl rfl rfl ?_
    refine pm_R_op pm_M39 (pc_q := 26) (st_q := [.int 3, .int 0]) rfl rfl rfl ?_
    refine pm_R_br pm_M39 (pc_q := 43) (st_q := []) rfl rfl ?_
    refine pm_R_op pm_M39 (pc_q := 44) (st_q := [.int 0]) rfl rfl rfl ?_
    refine pm_R_lo pm_M39 (pc_q := 46) (ls_q := [.ref 25, .int 0, .int 0, .int 0, .int 0, pm_no]) (st_q := []) rfl rfl rfl ?_
    refine pm_R_lo pm_M39 (pc_q := 47) rfl rfl rfl ?_
    refine pm_R_op pm_M39 (pc_q := 48) (st_q := [.int 2, .int 0]) rfl rfl rfl ?_
    refine pm_R_br pm_M39 (pc_q := 51) (st_q := []) rfl rfl ?_
    refine pm_R_lo pm_M39 (pc_q := 52) rfl rfl rfl ?_
    refine pm_R_op pm_M39 (pc_q := 53) (st_q := [.int 4, .int 0]) rfl rfl rfl ?_
    refine pm_R_br pm_M39 (pc_q := 80) (st_q := []) rfl rfl ?_
    refine pm_R_op pm_M39 (pc_q := 81) (st_q := [.int 0]) rfl rfl rfl ?_
    refine pm_R_lo pm_M39 (pc_q := 83) (ls_q := [.ref 25, .int 0, .int 0, .int 0, .int 0, .int 0]) (st_q := []) rfl rfl rfl ?_
    refine pm_R_lo pm_M39 (pc_q := 84) rfl rfl rfl ?_
    refine pm_R_br pm_M39 (pc_q := 87) (st_q := []) rfl rfl ?_
    refine pm_R_lo pm_M39 (pc_q := 89) rfl rfl rfl ?_
    refine pm_R_br pm_M39 (pc_q := 92) (st_q := []) rfl rfl ?_
    refine pm_R_lo pm_M39 (pc_q := 94) rfl rfl rfl ?_
    refine pm_R_br pm_M39 (pc_q := 109) (st_q := []) rfl rfl ?_
    exact pm_R_ret pm_M39 (r := none) (pm_q39_1 (Nat.le_of_ble_eq_true rfl)) rfl (K m h T (cl_F.refl (ck := ck) (A := [25]) (n := 0) (s := 0) T.1) (rf_W.refl [3, 4] m) (fun g eg z => by rw [e3] at eg; cases eg; exact ⟨z, trivial, by rw [ez6]; exact (cl_aux62 _ (Int32.le_iff_toInt_le.mp c11))⟩))
  · have B13 : sf_B 6 2147483647 z5 := sf_ltR (Int32.not_le.mp c11) sf_k5 (sf_any z5)
    refine pm_R_op pm_M39 (pc_q := 19) (st_q := [.int 1]) rfl rfl rfl ?_
    refine pm_R_br pm_M39 (pc_q := 23) rfl rfl ?_
    refine pm_R_lo pm_M39 (pc_q := 24) (ls_q := [.ref 25, .int 0, .int 0, .int 1, pm_no, pm_no]) (st_q := []) rfl rfl rfl ?_
    refine pm_R_lo pm_M39 (pc_q := 25) rfl rfl rfl ?_
    refine pm_R_op pm_M39 (pc_q := 26) (st_q := [.int 3, .int 0]) rfl rfl rfl ?_
    refine pm_R_br pm_M39 (pc_q := 43) (st_q := []) rfl rfl ?_
    refine pm_R_op pm_M39 (pc_q := 44) (st_q := [.int 0]) rfl rfl rfl ?_
    refine pm_R_lo pm_M39 (pc_q := 46) (ls_q := [.ref 25, .int 0, .int 0, .int 1, .int 0, pm_no]) (st_q := []) rfl rfl rfl ?_
    refine pm_R_lo pm_M39 (pc_q := 47) rfl rfl rfl ?_
    refine pm_R_op pm_M39 (pc_q := 48) (st_q := [.int 2, .int 0]) rfl rfl rfl ?_
    refine pm_R_br pm_M39 (pc_q := 51) (st_q := []) rfl rfl ?_
    refine pm_R_lo pm_M39 (pc_q := 52) rfl rfl rfl ?_
    refine pm_R_op pm_M39 (pc_q := 53) (st_q := [.int 4, .int 0]) rfl rfl rfl ?_
    refine pm_R_br pm_M39 (pc_q := 80) (st_q := []) rfl rfl ?_
    refine pm_R_op pm_M39 (pc_q := 81) (st_q := [.int 0]) rfl rfl rfl ?_
    refine pm_R_lo pm_M39 (pc_q := 83) (ls_q := [.ref 25, .int 0, .int 0, .int 1, .int 0, .int 0]) (st_q := []) rfl rfl rfl ?_
    refine pm_R_lo pm_M39 (pc_q := 84) rfl rfl rfl ?_
    refine pm_R_br pm_M39 (pc_q := 97) (st_q := []) rfl rfl ?_
    refine pm_R_lo pm_M39 (pc_q := 98) rfl rfl rfl ?_
    refine pm_R_op pm_M39 (pc_q := 99) (st_q := [.int 2, .ref 25]) rfl rfl rfl ?_
    refine pm_R_lo pm_M39 (pc_q := 100) rfl rfl rfl ?_
    refine pm_R_get pm_M39 (pc_q := 103) (v := .ref 30) (pm_q39_1 (Nat.le_of_ble_eq_true rfl)) rfl T.e25 (by decide) (T.lt (by decide)) rfl rfl ?_
    have B14 : sf_B 0 600 (m 11) := T.B 11
    refine pm_R_get pm_M39 (pc_q := 106) (v := .int (m 11)) (pm_q39_1 (Nat.le_of_ble_eq_true rfl)) rfl T.e30 (by decide) (T.lt (by decide)) rfl rfl ?_
    refine pm_R_cv pm_M39 (pc_q := 109) (a := 25) (ra := [.int (m 11), .int 2]) (rest := []) (ls_q := [.ref 25, .int 2, .int (m 11)]) (pm_q39_1 (Nat.le_of_ble_eq_true rfl)) rfl (Or.inl rfl) pm_M21 T.e25 rfl (by decide) (T.lt (by decide)) rfl rfl (Nat.le_of_ble_eq_true rfl) rfl rfl ?_
    refine pm_R_lo pm_M21 (pc_q := 1) rfl rfl rfl ?_
    refine pm_R_get pm_M21 (pc_q := 4) (v := .int (m 3)) rfl rfl T.e25 (by decide) (T.lt (by decide)) rfl rfl ?_
    refine pm_R_ifc pm_M21 (t := 17) (pc_q := 7) rfl rfl rfl (fun c15 => ?_) (fun c15 => ?_)
    · have B16 : sf_B 1 4 (m 3) := sf_neL0 c15 sf_k0 B1
      refine pm_R_ret pm_M21 (r := none) rfl rfl ?_
      show pm_R _ 39 109 [.ref 25, .int 0, .int 0, .int 1, .int 0, .int 0] [] _ _
      exact pm_R_ret pm_M39 (r := none) (pm_q39_1 (Nat.le_of_ble_eq_true rfl)) rfl (K m h T (cl_F.refl (ck := ck) (A := [25]) (n := 0) (s := 0) T.1) (rf_W.refl [3, 4] m) (fun g eg z => sf_pos B16 (by decide) z))
    · have B17 : sf_B 0 0 (m 3) := sf_eqL (Classical.not_not.mp c15) sf_k0
      refine pm_R_lo pm_M21 (pc_q := 8) rfl rfl rfl ?_
      refine pm_R_lo pm_M21 (pc_q := 9) rfl rfl rfl ?_
      refine cl_R_put25 G pm_M21 T (k := 3) (pc_q := 12) rfl rfl rfl (by decide) rfl rfl (sf_weak sf_k2 (by decide) (by decide)) rfl rfl rfl rfl rfl (fun h18 m21 em22 T19 F20 => ?_)
      have F23 := F20.cl (ck := ck) T.1
      have F24 := (cl_F.refl (ck := ck) (A := [25]) (n := 0) (s := 0) T.1).trans (N := 0) (S := 0) F23 (by decide) (by decide) (by decide)
      have B25 : sf_B 2 2 (m21 3) := by rw [em22]; exact sf_k2
      have W27 : rf_W [3, 4] m m21 := by rw [em22]; exact (rf_W.refl [3, 4] m).put (by decide)
      refine pm_R_lo pm_M21 (pc_q := 13) rfl rfl rfl ?_
      refine pm_R_lo pm_M21 (pc_q := 14) rfl rfl rfl ?_
      refine cl_R_put25 G pm_M21 T19 (k := 4) (pc_q := 17) rfl rfl rfl (by decide) rfl rfl (sf_weak B14 (by decide) (by decide)) rfl rfl rfl rfl rfl (fun h28 m31 em32 T29 F30 => ?_)
      have F33 := F30.cl (ck := ck) T19.1
      have F34 := F24.trans (N := 0) (S := 0) F33 (by decide) (by decide) (by decide)
      have B35 : sf_B 2 2 (m31 3) := by rw [em32]; exact B25
      have ek36 : (m31 3).toInt = ((m21 3)).toInt := by rw [em32]; rfl
      have B37 : sf_B 0 600 (m31 4) := by rw [em32]; exact B14
      have ek38 : (m31 4).toInt = ((m 11)).toInt := by rw [em32]; rfl
      have W39 : rf_W [3, 4] m m31 := by rw [em32]; exact W27.put (by decide)
      refine pm_R_ret pm_M21 (r := none) rfl rfl ?_
      show pm_R _ 39 109 [.ref 25, .int 0, .int 0, .int 1, .int 0, .int 0] [] _ _
      exact pm_R_ret pm_M39 (r := none) (pm_q39_1 (Nat.le_of_ble_eq_true rfl)) rfl (K m31 h28 T29 F34 W39 (fun g eg z => sf_pos B35 (by decide) z))

set_option maxRecDepth 100000 in
set_option maxHeartbeats 4000000 in
/-- SilentTable$TextReader.noteNumber -/
theorem cl_c39_0_1 {d : Nat} {ck : cl_K} {E : Nat → pm_E} {m : Nat → Int32} {o : Nat → Option Nat} {h : pm_H} {Q : Option Value → pm_H → Prop}  (G : cl_G ck E) (T : cl_T ck E m o h)  (K : ∀ (m_q : Nat → Int32) (h_q : pm_H), cl_T ck E m_q o h_q → cl_F ck [25] 0 0 h h_q → rf_W [3, 4] m m_q → (∀ g : Nat → Int32, h.2.2 29 = .inl (0, 4, .inl g) → (m_q 3).toInt = 0 → (m 3).toInt = 0 ∧ True ∧ (g (Int32.toNatClampNeg 1)).toInt ≤ 5) → Q none h_q) : pm_R (d + 1) 39 0 [.ref 25, .int 0, .int 1, pm_no, pm_no, pm_no] [] h Q := by
  have B1 : sf_B 0 4 (m 3) := T.B 3
  obtain ⟨f2, e3⟩ := T.C 29 (by decide) (by decide)
  refine pm_R_lo pm_M39 (pc_q := 1) rfl rfl rfl ?_
  refine pm_R_get pm_M39 (pc_q := 4) (v := .ref 29) rfl rfl T.e25 (by decide) (T.lt (by decide)) rfl rfl ?_
  refine pm_R_lo pm_M39 (pc_q := 5) rfl rfl rfl ?_
  obtain ⟨z5, ez6⟩ : ∃ y, f2 (Int32.toNatClampNeg 1) = y := ⟨_, rfl⟩
  refine pm_R_iald pm_M39 (pc_q := 6) (v := z5) rfl e3 (T.lt (by decide)) rfl ez6 rfl ?_
  refine pm_R_stat pm_M39 (pc_q := 9) rfl rfl rfl ?_
  refine pm_R_lo pm_M39 (pc_q := 10) rfl rfl rfl ?_
  refine pm_R_op pm_M39 (pc_q := 11) (st_q := [.int 3, .int 0, .ref 3, .int z5]) rfl rfl rfl ?_
  refine pm_R_op pm_M39 (pc_q := 12) (st_q := [.int 0, .ref 3, .int z5]) rfl rfl rfl ?_
  refine pm_R_lo pm_M39 (pc_q := 13) rfl rfl rfl ?_
  refine pm_R_op pm_M39 (pc_q := 14) (st_q := [.int 1, .ref 3, .int z5]) rfl rfl rfl ?_
  refine pm_R_iald pm_M39 (pc_q := 15) (v := 5) rfl ((T.old (by decide)).trans G.tb3) (T.lt (by decide)) rfl rfl rfl ?_
  refine pm_R_icmp pm_M39 (t := 22) (pc_q := 18) rfl rfl rfl (fun c11 => ?_) (fun c11 => ?_)
  · have B12 : sf_B (-2147483648) 5 z5 := sf_leL c11 (sf_any z5) sf_k5
    refine pm_R_op pm_M39 (pc_q := 23) (st_q := [.int 0]) rfl rfl rfl ?_
    refine pm_R_lo pm_M39 (pc_q := 24) (ls_q := [.ref 25, .int 0, .int 1, .int 0, pm_no, pm_no]) (st_q := []) rfl rfl rfl ?_
    refine pm_R_lo pm_M39 (pc_q := 25) rfl rfl rfl ?_
    refine pm_R_op pm_M39 (pc_q := 26) (st_q := [.int 3, .int 0]) rfl rfl rfl ?_
    refine pm_R_br pm_M39 (pc_q := 43) (st_q := []) rfl rfl ?_
    refine pm_R_op pm_M39 (pc_q := 44) (st_q := [.int 0]) rfl rfl rfl ?_
    refine pm_R_lo pm_M39 (pc_q := 46) (ls_q := [.ref 25, .int 0, .int 1, .int 0, .int 0, pm_no]) (st_q := []) rfl rfl rfl ?_
    refine pm_R_lo pm_M39 (pc_q := 47) rfl rfl rfl ?_
    refine pm_R_op pm_M39 (pc_q := 48) (st_q := [.int 2, .int 0]) rfl rfl rfl ?_
    refine pm_R_br pm_M39 (pc_q := 51) (st_q := []) rfl rfl ?_
    refine pm_R_lo pm_M39 (pc_q := 52) rfl rfl rfl ?_
    refine pm_R_op pm_M39 (pc_q := 53) (st_q := [.int 4, .int 0]) rfl rfl rfl ?_
    refine pm_R_br pm_M39 (pc_q := 80) (st_q := []) rfl rfl ?_
    refine pm_R_op pm_M39 (pc_q := 81) (st_q := [.int 0]) rfl rfl rfl ?_
    refine pm_R_lo pm_M39 (pc_q := 83) (ls_q := [.ref 25, .int 0, .int 1, .int 0, .int 0, .int 0]) (st_q := []) rfl rfl rfl ?_
    refine pm_R_lo pm_M39 (pc_q := 84) rfl rfl rfl ?_
    refine pm_R_br pm_M39 (pc_q := 87) (st_q := []) rfl rfl ?_
    refine pm_R_lo pm_M39 (pc_q := 89) rfl rfl rfl ?_
    refine pm_R_br pm_M39 (pc_q := 92) (st_q := []) rfl rfl ?_
    refine pm_R_lo pm_M39 (pc_q := 94) rfl rfl rfl ?_
    refine pm_R_br pm_M39 (pc_q := 109) (st_q := []) rfl rfl ?_
    exact pm_R_ret pm_M39 (r := none) (pm_q39_1 (Nat.le_of_ble_eq_true rfl)) rfl (K m h T (cl_F.refl (ck := ck) (A := [25]) (n := 0) (s := 0) T.1) (rf_W.refl [3, 4] m) (fun g eg z => by rw [e3] at eg; cases eg; exact ⟨z, trivial, by rw [ez6]; exact (cl_aux62 _ (Int32.le_iff_toInt_le.mp c11))⟩))
  · have B13 : sf_B 6 2147483647 z5 := sf_ltR (Int32.not_le.mp c11) sf_k5 (sf_any z5)
    refine pm_R_op pm_M39 (pc_q := 19) (st_q := [.int 1]) rfl rfl rfl ?_
    refine pm_R_br pm_M39 (pc_q := 23) rfl rfl ?_
    refine pm_R_lo pm_M39 (pc_q := 24) (ls_q := [.ref 25, .int 0, .int 1, .int 1, pm_no, pm_no]) (st_q := []) rfl rfl rfl ?_
    refine pm_R_lo pm_M39 (pc_q := 25) rfl rfl rfl ?_
    refine pm_R_op pm_M39 (pc_q := 26) (st_q := [.int 3, .int 0]) rfl rfl rfl ?_
    refine pm_R_br pm_M39 (pc_q := 43) (st_q := []) rfl rfl ?_
    refine pm_R_op pm_M39 (pc_q := 44) (st_q := [.int 0]) rfl rfl rfl ?_
    refine pm_R_lo pm_M39 (pc_q := 46) (ls_q := [.ref 25, .int 0, .int 1, .int 1, .int 0, pm_no]) (st_q := []) rfl rfl rfl ?_
    refine pm_R_lo pm_M39 (pc_q := 47) rfl rfl rfl ?_
    refine pm_R_op pm_M39 (pc_q := 48) (st_q := [.int 2, .int 0]) rfl rfl rfl ?_
    refine pm_R_br pm_M39 (pc_q := 51) (st_q := []) rfl rfl ?_
    refine pm_R_lo pm_M39 (pc_q := 52) rfl rfl rfl ?_
    refine pm_R_op pm_M39 (pc_q := 53) (st_q := [.int 4, .int 0]) rfl rfl rfl ?_
    refine pm_R_br pm_M39 (pc_q := 80) (st_q := []) rfl rfl ?_
    refine pm_R_op pm_M39 (pc_q := 81) (st_q := [.int 0]) rfl rfl rfl ?_
    refine pm_R_lo pm_M39 (pc_q := 83) (ls_q := [.ref 25, .int 0, .int 1, .int 1, .int 0, .int 0]) (st_q := []) rfl rfl rfl ?_
    refine pm_R_lo pm_M39 (pc_q := 84) rfl rfl rfl ?_
    refine pm_R_br pm_M39 (pc_q := 97) (st_q := []) rfl rfl ?_
    refine pm_R_lo pm_M39 (pc_q := 98) rfl rfl rfl ?_
    refine pm_R_op pm_M39 (pc_q := 99) (st_q := [.int 2, .ref 25]) rfl rfl rfl ?_
    refine pm_R_lo pm_M39 (pc_q := 100) rfl rfl rfl ?_
    refine pm_R_get pm_M39 (pc_q := 103) (v := .ref 30) (pm_q39_1 (Nat.le_of_ble_eq_true rfl)) rfl T.e25 (by decide) (T.lt (by decide)) rfl rfl ?_
    have B14 : sf_B 0 600 (m 11) := T.B 11
    refine pm_R_get pm_M39 (pc_q := 106) (v := .int (m 11)) (pm_q39_1 (Nat.le_of_ble_eq_true rfl)) rfl T.e30 (by decide) (T.lt (by decide)) rfl rfl ?_
    refine pm_R_cv pm_M39 (pc_q := 109) (a := 25) (ra := [.int (m 11), .int 2]) (rest := []) (ls_q := [.ref 25, .int 2, .int (m 11)]) (pm_q39_1 (Nat.le_of_ble_eq_true rfl)) rfl (Or.inl rfl) pm_M21 T.e25 rfl (by decide) (T.lt (by decide)) rfl rfl (Nat.le_of_ble_eq_true rfl) rfl rfl ?_
    refine pm_R_lo pm_M21 (pc_q := 1) rfl rfl rfl ?_
    refine pm_R_get pm_M21 (pc_q := 4) (v := .int (m 3)) rfl rfl T.e25 (by decide) (T.lt (by decide)) rfl rfl ?_
    refine pm_R_ifc pm_M21 (t := 17) (pc_q := 7) rfl rfl rfl (fun c15 => ?_) (fun c15 => ?_)
    · have B16 : sf_B 1 4 (m 3) := sf_neL0 c15 sf_k0 B1
      refine pm_R_ret pm_M21 (r := none) rfl rfl ?_
      show pm_R _ 39 109 [.ref 25, .int 0, .int 1, .int 1, .int 0, .int 0] [] _ _
      exact pm_R_ret pm_M39 (r := none) (pm_q39_1 (Nat.le_of_ble_eq_true rfl)) rfl (K m h T (cl_F.refl (ck := ck) (A := [25]) (n := 0) (s := 0) T.1) (rf_W.refl [3, 4] m) (fun g eg z => sf_pos B16 (by decide) z))
    · have B17 : sf_B 0 0 (m 3) := sf_eqL (Classical.not_not.mp c15) sf_k0
      refine pm_R_lo pm_M21 (pc_q := 8) rfl rfl rfl ?_
      refine pm_R_lo pm_M21 (pc_q := 9) rfl rfl rfl ?_
      refine cl_R_put25 G pm_M21 T (k := 3) (pc_q := 12) rfl rfl rfl (by decide) rfl rfl (sf_weak sf_k2 (by decide) (by decide)) rfl rfl rfl rfl rfl (fun h18 m21 em22 T19 F20 => ?_)
      have F23 := F20.cl (ck := ck) T.1
      have F24 := (cl_F.refl (ck := ck) (A := [25]) (n := 0) (s := 0) T.1).trans (N := 0) (S := 0) F23 (by decide) (by decide) (by decide)
      have B25 : sf_B 2 2 (m21 3) := by rw [em22]; exact sf_k2
      have W27 : rf_W [3, 4] m m21 := by rw [em22]; exact (rf_W.refl [3, 4] m).put (by decide)
      refine pm_R_lo pm_M21 (pc_q := 13) rfl rfl rfl ?_
      refine pm_R_lo pm_M21 (pc_q := 14) rfl rfl rfl ?_
      refine cl_R_put25 G pm_M21 T19 (k := 4) (pc_q := 17) rfl rfl rfl (by decide) rfl rfl (sf_weak B14 (by decide) (by decide)) rfl rfl rfl rfl rfl (fun h28 m31 em32 T29 F30 => ?_)
      have F33 := F30.cl (ck := ck) T19.1
      have F34 := F24.trans (N := 0) (S := 0) F33 (by decide) (by decide) (by decide)
      have B35 : sf_B 2 2 (m31 3) := by rw [em32]; exact B25
      have ek36 : (m31 3).toInt = ((m21 3)).toInt := by rw [em32]; rfl
      have B37 : sf_B 0 600 (m31 4) := by rw [em32]; exact B14
      have ek38 : (m31 4).toInt = ((m 11)).toInt := by rw [em32]; rfl
      have W39 : rf_W [3, 4] m m31 := by rw [em32]; exact W27.put (by decide)
      refine pm_R_ret pm_M21 (r := none) rfl rfl ?_
      show pm_R _ 39 109 [.ref 25, .int 0, .int 1, .int 1, .int 0, .int 0] [] _ _
      exact pm_R_ret pm_M39 (r := none) (pm_q39_1 (Nat.le_of_ble_eq_true rfl)) rfl (K m31 h28 T29 F34 W39 (fun g eg z => sf_pos B35 (by decide) z))

set_option maxRecDepth 100000 in
set_option maxHeartbeats 4000000 in
/-- SilentTable$TextReader.noteNumber -/
theorem cl_c39_0_2 {d : Nat} {ck : cl_K} {E : Nat → pm_E} {m : Nat → Int32} {o : Nat → Option Nat} {h : pm_H} {Q : Option Value → pm_H → Prop}  (G : cl_G ck E) (T : cl_T ck E m o h)  (K : ∀ (m_q : Nat → Int32) (h_q : pm_H), cl_T ck E m_q o h_q → cl_F ck [25] 0 0 h h_q → rf_W [3, 4] m m_q → (∀ g : Nat → Int32, h.2.2 29 = .inl (0, 4, .inl g) → (m_q 3).toInt = 0 → (m 3).toInt = 0 ∧ True ∧ (g (Int32.toNatClampNeg 2)).toInt ≤ 5) → Q none h_q) : pm_R (d + 1) 39 0 [.ref 25, .int 0, .int 2, pm_no, pm_no, pm_no] [] h Q := by
  have B1 : sf_B 0 4 (m 3) := T.B 3
  obtain ⟨f2, e3⟩ := T.C 29 (by decide) (by decide)
  refine pm_R_lo pm_M39 (pc_q := 1) rfl rfl rfl ?_
  refine pm_R_get pm_M39 (pc_q := 4) (v := .ref 29) rfl rfl T.e25 (by decide) (T.lt (by decide)) rfl rfl ?_
  refine pm_R_lo pm_M39 (pc_q := 5) rfl rfl rfl ?_
  obtain ⟨z5, ez6⟩ : ∃ y, f2 (Int32.toNatClampNeg 2) = y := ⟨_, rfl⟩
  refine pm_R_iald pm_M39 (pc_q := 6) (v := z5) rfl e3 (T.lt (by decide)) rfl ez6 rfl ?_
  refine pm_R_stat pm_M39 (pc_q := 9) rfl rfl rfl ?_
  refine pm_R_lo pm_M39 (pc_q := 10) rfl rfl rfl ?_
  refine pm_R_op pm_M39 (pc_q := 11) (st_q := [.int 3, .int 0, .ref 3, .int z5]) rfl rfl rfl ?_
  refine pm_R_op pm_M39 (pc_q := 12) (st_q := [.int 0, .ref 3, .int z5]) rfl rfl rfl ?_
  refine pm_R_lo pm_M39 (pc_q := 13) rfl rfl rfl ?_
  refine pm_R_op pm_M39 (pc_q := 14) (st_q := [.int 2, .ref 3, .int z5]) rfl rfl rfl ?_
  refine pm_R_iald pm_M39 (pc_q := 15) (v := 5) rfl ((T.old (by decide)).trans G.tb3) (T.lt (by decide)) rfl rfl rfl ?_
  refine pm_R_icmp pm_M39 (t := 22) (pc_q := 18) rfl rfl rfl (fun c11 => ?_) (fun c11 => ?_)
  · have B12 : sf_B (-2147483648) 5 z5 := sf_leL c11 (sf_any z5) sf_k5
    refine pm_R_op pm_M39 (pc_q := 23) (st_q := [.int 0]) rfl rfl rfl ?_
    refine pm_R_lo pm_M39 (pc_q := 24) (ls_q := [.ref 25, .int 0, .int 2, .int 0, pm_no, pm_no]) (st_q := []) rfl rfl rfl ?_
    refine pm_R_lo pm_M39 (pc_q := 25) rfl rfl rfl ?_
    refine pm_R_op pm_M39 (pc_q := 26) (st_q := [.int 3, .int 0]) rfl rfl rfl ?_
    refine pm_R_br pm_M39 (pc_q := 43) (st_q := []) rfl rfl ?_
    refine pm_R_op pm_M39 (pc_q := 44) (st_q := [.int 0]) rfl rfl rfl ?_
    refine pm_R_lo pm_M39 (pc_q := 46) (ls_q := [.ref 25, .int 0, .int 2, .int 0, .int 0, pm_no]) (st_q := []) rfl rfl rfl ?_
    refine pm_R_lo pm_M39 (pc_q := 47) rfl rfl rfl ?_
    refine pm_R_op pm_M39 (pc_q := 48) (st_q := [.int 2, .int 0]) rfl rfl rfl ?_
    refine pm_R_br pm_M39 (pc_q := 51) (st_q := []) rfl rfl ?_
    refine pm_R_lo pm_M39 (pc_q := 52) rfl rfl rfl ?_
    refine pm_R_op pm_M39 (pc_q := 53) (st_q := [.int 4, .int 0]) rfl rfl rfl ?_
    refine pm_R_br pm_M39 (pc_q := 80) (st_q := []) rfl rfl ?_
    refine pm_R_op pm_M39 (pc_q := 81) (st_q := [.int 0]) rfl rfl rfl ?_
    refine pm_R_lo pm_M39 (pc_q := 83) (ls_q := [.ref 25, .int 0, .int 2, .int 0, .int 0, .int 0]) (st_q := []) rfl rfl rfl ?_
    refine pm_R_lo pm_M39 (pc_q := 84) rfl rfl rfl ?_
    refine pm_R_br pm_M39 (pc_q := 87) (st_q := []) rfl rfl ?_
    refine pm_R_lo pm_M39 (pc_q := 89) rfl rfl rfl ?_
    refine pm_R_br pm_M39 (pc_q := 92) (st_q := []) rfl rfl ?_
    refine pm_R_lo pm_M39 (pc_q := 94) rfl rfl rfl ?_
    refine pm_R_br pm_M39 (pc_q := 109) (st_q := []) rfl rfl ?_
    exact pm_R_ret pm_M39 (r := none) (pm_q39_1 (Nat.le_of_ble_eq_true rfl)) rfl (K m h T (cl_F.refl (ck := ck) (A := [25]) (n := 0) (s := 0) T.1) (rf_W.refl [3, 4] m) (fun g eg z => by rw [e3] at eg; cases eg; exact ⟨z, trivial, by rw [ez6]; exact (cl_aux62 _ (Int32.le_iff_toInt_le.mp c11))⟩))
  · have B13 : sf_B 6 2147483647 z5 := sf_ltR (Int32.not_le.mp c11) sf_k5 (sf_any z5)
    refine pm_R_op pm_M39 (pc_q := 19) (st_q := [.int 1]) rfl rfl rfl ?_
    refine pm_R_br pm_M39 (pc_q := 23) rfl rfl ?_
    refine pm_R_lo pm_M39 (pc_q := 24) (ls_q := [.ref 25, .int 0, .int 2, .int 1, pm_no, pm_no]) (st_q := []) rfl rfl rfl ?_
    refine pm_R_lo pm_M39 (pc_q := 25) rfl rfl rfl ?_
    refine pm_R_op pm_M39 (pc_q := 26) (st_q := [.int 3, .int 0]) rfl rfl rfl ?_
    refine pm_R_br pm_M39 (pc_q := 43) (st_q := []) rfl rfl ?_
    refine pm_R_op pm_M39 (pc_q := 44) (st_q := [.int 0]) rfl rfl rfl ?_
    refine pm_R_lo pm_M39 (pc_q := 46) (ls_q := [.ref 25, .int 0, .int 2, .int 1, .int 0, pm_no]) (st_q := []) rfl rfl rfl ?_
    refine pm_R_lo pm_M39 (pc_q := 47) rfl rfl rfl ?_
    refine pm_R_op pm_M39 (pc_q := 48) (st_q := [.int 2, .int 0]) rfl rfl rfl ?_
    refine pm_R_br pm_M39 (pc_q := 51) (st_q := []) rfl rfl ?_
    refine pm_R_lo pm_M39 (pc_q := 52) rfl rfl rfl ?_
    refine pm_R_op pm_M39 (pc_q := 53) (st_q := [.int 4, .int 0]) rfl rfl rfl ?_
    refine pm_R_br pm_M39 (pc_q := 80) (st_q := []) rfl rfl ?_
    refine pm_R_op pm_M39 (pc_q := 81) (st_q := [.int 0]) rfl rfl rfl ?_
    refine pm_R_lo pm_M39 (pc_q := 83) (ls_q := [.ref 25, .int 0, .int 2, .int 1, .int 0, .int 0]) (st_q := []) rfl rfl rfl ?_
    refine pm_R_lo pm_M39 (pc_q := 84) rfl rfl rfl ?_
    refine pm_R_br pm_M39 (pc_q := 97) (st_q := []) rfl rfl ?_
    refine pm_R_lo pm_M39 (pc_q := 98) rfl rfl rfl ?_
    refine pm_R_op pm_M39 (pc_q := 99) (st_q := [.int 2, .ref 25]) rfl rfl rfl ?_
    refine pm_R_lo pm_M39 (pc_q := 100) rfl rfl rfl ?_
    refine pm_R_get pm_M39 (pc_q := 103) (v := .ref 30) (pm_q39_1 (Nat.le_of_ble_eq_true rfl)) rfl T.e25 (by decide) (T.lt (by decide)) rfl rfl ?_
    have B14 : sf_B 0 600 (m 11) := T.B 11
    refine pm_R_get pm_M39 (pc_q := 106) (v := .int (m 11)) (pm_q39_1 (Nat.le_of_ble_eq_true rfl)) rfl T.e30 (by decide) (T.lt (by decide)) rfl rfl ?_
    refine pm_R_cv pm_M39 (pc_q := 109) (a := 25) (ra := [.int (m 11), .int 2]) (rest := []) (ls_q := [.ref 25, .int 2, .int (m 11)]) (pm_q39_1 (Nat.le_of_ble_eq_true rfl)) rfl (Or.inl rfl) pm_M21 T.e25 rfl (by decide) (T.lt (by decide)) rfl rfl (Nat.le_of_ble_eq_true rfl) rfl rfl ?_
    refine pm_R_lo pm_M21 (pc_q := 1) rfl rfl rfl ?_
    refine pm_R_get pm_M21 (pc_q := 4) (v := .int (m 3)) rfl rfl T.e25 (by decide) (T.lt (by decide)) rfl rfl ?_
    refine pm_R_ifc pm_M21 (t := 17) (pc_q := 7) rfl rfl rfl (fun c15 => ?_) (fun c15 => ?_)
    · have B16 : sf_B 1 4 (m 3) := sf_neL0 c15 sf_k0 B1
      refine pm_R_ret pm_M21 (r := none) rfl rfl ?_
      show pm_R _ 39 109 [.ref 25, .int 0, .int 2, .int 1, .int 0, .int 0] [] _ _
      exact pm_R_ret pm_M39 (r := none) (pm_q39_1 (Nat.le_of_ble_eq_true rfl)) rfl (K m h T (cl_F.refl (ck := ck) (A := [25]) (n := 0) (s := 0) T.1) (rf_W.refl [3, 4] m) (fun g eg z => sf_pos B16 (by decide) z))
    · have B17 : sf_B 0 0 (m 3) := sf_eqL (Classical.not_not.mp c15) sf_k0
      refine pm_R_lo pm_M21 (pc_q := 8) rfl rfl rfl ?_
      refine pm_R_lo pm_M21 (pc_q := 9) rfl rfl rfl ?_
      refine cl_R_put25 G pm_M21 T (k := 3) (pc_q := 12) rfl rfl rfl (by decide) rfl rfl (sf_weak sf_k2 (by decide) (by decide)) rfl rfl rfl rfl rfl (fun h18 m21 em22 T19 F20 => ?_)
      have F23 := F20.cl (ck := ck) T.1
      have F24 := (cl_F.refl (ck := ck) (A := [25]) (n := 0) (s := 0) T.1).trans (N := 0) (S := 0) F23 (by decide) (by decide) (by decide)
      have B25 : sf_B 2 2 (m21 3) := by rw [em22]; exact sf_k2
      have W27 : rf_W [3, 4] m m21 := by rw [em22]; exact (rf_W.refl [3, 4] m).put (by decide)
      refine pm_R_lo pm_M21 (pc_q := 13) rfl rfl rfl ?_
      refine pm_R_lo pm_M21 (pc_q := 14) rfl rfl rfl ?_
      refine cl_R_put25 G pm_M21 T19 (k := 4) (pc_q := 17) rfl rfl rfl (by decide) rfl rfl (sf_weak B14 (by decide) (by decide)) rfl rfl rfl rfl rfl (fun h28 m31 em32 T29 F30 => ?_)
      have F33 := F30.cl (ck := ck) T19.1
      have F34 := F24.trans (N := 0) (S := 0) F33 (by decide) (by decide) (by decide)
      have B35 : sf_B 2 2 (m31 3) := by rw [em32]; exact B25
      have ek36 : (m31 3).toInt = ((m21 3)).toInt := by rw [em32]; rfl
      have B37 : sf_B 0 600 (m31 4) := by rw [em32]; exact B14
      have ek38 : (m31 4).toInt = ((m 11)).toInt := by rw [em32]; rfl
      have W39 : rf_W [3, 4] m m31 := by rw [em32]; exact W27.put (by decide)
      refine pm_R_ret pm_M21 (r := none) rfl rfl ?_
      show pm_R _ 39 109 [.ref 25, .int 0, .int 2, .int 1, .int 0, .int 0] [] _ _
      exact pm_R_ret pm_M39 (r := none) (pm_q39_1 (Nat.le_of_ble_eq_true rfl)) rfl (K m31 h28 T29 F34 W39 (fun g eg z => sf_pos B35 (by decide) z))

theorem cl_aux63 (v0 : Int) (q0 : v0 ≤ 9) : v0 ≤ 9 := by omega
set_option maxRecDepth 100000 in
set_option maxHeartbeats 4000000 in
/-- SilentTable$TextReader.noteNumber -/
theorem cl_c39_1_0 {d : Nat} {ck : cl_K} {E : Nat → pm_E} {m : Nat → Int32} {o : Nat → Option Nat} {h : pm_H} {Q : Option Value → pm_H → Prop}  (G : cl_G ck E) (T : cl_T ck E m o h)  (K : ∀ (m_q : Nat → Int32) (h_q : pm_H), cl_T ck E m_q o h_q → cl_F ck [25] 0 0 h h_q → rf_W [3, 4] m m_q → (∀ g : Nat → Int32, h.2.2 29 = .inl (0, 4, .inl g) → (m_q 3).toInt = 0 → (m 3).toInt = 0 ∧ True ∧ (g (Int32.toNatClampNeg 0)).toInt ≤ 9) → Q none h_q) : pm_R (d + 1) 39 0 [.ref 25, .int 1, .int 0, pm_no, pm_no, pm_no] [] h Q := by
  have B1 : sf_B 0 4 (m 3) := T.B 3
  obtain ⟨f2, e3⟩ := T.C 29 (by decide) (by decide)
  refine pm_R_lo pm_M39 (pc_q := 1) rfl rfl rfl ?_
  refine pm_R_get pm_M39 (pc_q := 4) (v := .ref 29) rfl rfl T.e25 (by decide) (T.lt (by decide)) rfl rfl ?_
  refine pm_R_lo pm_M39 (pc_q := 5) rfl rfl rfl ?_
  obtain ⟨z5, ez6⟩ : ∃ y, f2 (Int32.toNatClampNeg 0) = y := ⟨_, rfl⟩
  refine pm_R_iald pm_M39 (pc_q := 6) (v := z5) rfl e3 (T.lt (by decide)) rfl ez6 rfl ?_
  refine pm_R_stat pm_M39 (pc_q := 9) rfl rfl rfl ?_
  refine pm_R_lo pm_M39 (pc_q := 10) rfl rfl rfl ?_
  refine pm_R_op pm_M39 (pc_q := 11) (st_q := [.int 3, .int 1, .ref 3, .int z5]) rfl rfl rfl ?_
  refine pm_R_op pm_M39 (pc_q := 12) (st_q := [.int 3, .ref 3, .int z5]) rfl rfl rfl ?_
  refine pm_R_lo pm_M39 (pc_q := 13) rfl rfl rfl ?_
  refine pm_R_op pm_M39 (pc_q := 14) (st_q := [.int 3, .ref 3, .int z5]) rfl rfl rfl ?_
  refine pm_R_iald pm_M39 (pc_q := 15) (v := 9) rfl ((T.old (by decide)).trans G.tb3) (T.lt (by decide)) rfl rfl rfl ?_
  refine pm_R_icmp pm_M39 (t := 22) (pc_q := 18) rfl rfl rfl (fun c11 => ?_) (fun c11 => ?_)
  · have B12 : sf_B (-2147483648) 9 z5 := sf_leL c11 (sf_any z5) sf_k9
    refine pm_R_op pm_M39 (pc_q := 23) (st_q := [.int 0]) rfl rfl rfl ?_
    refine pm_R_lo pm_M39 (pc_q := 24) (ls_q := [.ref 25, .int 1, .int 0, .int 0, pm_no, pm_no]) (st_q := []) rfl rfl rfl ?_
    refine pm_R_lo pm_M39 (pc_q := 25) rfl rfl rfl ?_
    refine pm_R_op pm_M39 (pc_q := 26) (st_q := [.int 3, .int 1]) rfl rfl rfl ?_
    refine pm_R_br pm_M39 (pc_q := 43) (st_q := []) rfl rfl ?_
    refine pm_R_op pm_M39 (pc_q := 44) (st_q := [.int 0]) rfl rfl rfl ?_
    refine pm_R_lo pm_M39 (pc_q := 46) (ls_q := [.ref 25, .int 1, .int 0, .int 0, .int 0, pm_no]) (st_q := []) rfl rfl rfl ?_
    refine pm_R_lo pm_M39 (pc_q := 47) rfl rfl rfl ?_
    refine pm_R_op pm_M39 (pc_q := 48) (st_q := [.int 2, .int 1]) rfl rfl rfl ?_
    refine pm_R_br pm_M39 (pc_q := 51) (st_q := []) rfl rfl ?_
    refine pm_R_lo pm_M39 (pc_q := 52) rfl rfl rfl ?_
    refine pm_R_op pm_M39 (pc_q := 53) (st_q := [.int 4, .int 1]) rfl rfl rfl ?_
    refine pm_R_br pm_M39 (pc_q := 80) (st_q := []) rfl rfl ?_
    refine pm_R_op pm_M39 (pc_q := 81) (st_q := [.int 0]) rfl rfl rfl ?_
    refine pm_R_lo pm_M39 (pc_q := 83) (ls_q := [.ref 25, .int 1, .int 0, .int 0, .int 0, .int 0]) (st_q := []) rfl rfl rfl ?_
    refine pm_R_lo pm_M39 (pc_q := 84) rfl rfl rfl ?_
    refine pm_R_br pm_M39 (pc_q := 87) (st_q := []) rfl rfl ?_
    refine pm_R_lo pm_M39 (pc_q := 89) rfl rfl rfl ?_
    refine pm_R_br pm_M39 (pc_q := 92) (st_q := []) rfl rfl ?_
    refine pm_R_lo pm_M39 (pc_q := 94) rfl rfl rfl ?_
    refine pm_R_br pm_M39 (pc_q := 109) (st_q := []) rfl rfl ?_
    exact pm_R_ret pm_M39 (r := none) (pm_q39_1 (Nat.le_of_ble_eq_true rfl)) rfl (K m h T (cl_F.refl (ck := ck) (A := [25]) (n := 0) (s := 0) T.1) (rf_W.refl [3, 4] m) (fun g eg z => by rw [e3] at eg; cases eg; exact ⟨z, trivial, by rw [ez6]; exact (cl_aux63 _ (Int32.le_iff_toInt_le.mp c11))⟩))
  · have B13 : sf_B 10 2147483647 z5 := sf_ltR (Int32.not_le.mp c11) sf_k9 (sf_any z5)
    refine pm_R_op pm_M39 (pc_q := 19) (st_q := [.int 1]) rfl rfl rfl ?_
    refine pm_R_br pm_M39 (pc_q := 23) rfl rfl ?_
    refine pm_R_lo pm_M39 (pc_q := 24) (ls_q := [.ref 25, .int 1, .int 0, .int 1, pm_no, pm_no]) (st_q := []) rfl rfl rfl ?_
    refine pm_R_lo pm_M39 (pc_q := 25) rfl rfl rfl ?_
    refine pm_R_op pm_M39 (pc_q := 26) (st_q := [.int 3, .int 1]) rfl rfl rfl ?_
    refine pm_R_br pm_M39 (pc_q := 43) (st_q := []) rfl rfl ?_
    refine pm_R_op pm_M39 (pc_q := 44) (st_q := [.int 0]) rfl rfl rfl ?_
    refine pm_R_lo pm_M39 (pc_q := 46) (ls_q := [.ref 25, .int 1, .int 0, .int 1, .int 0, pm_no]) (st_q := []) rfl rfl rfl ?_
    refine pm_R_lo pm_M39 (pc_q := 47) rfl rfl rfl ?_
    refine pm_R_op pm_M39 (pc_q := 48) (st_q := [.int 2, .int 1]) rfl rfl rfl ?_
    refine pm_R_br pm_M39 (pc_q := 51) (st_q := []) rfl rfl ?_
    refine pm_R_lo pm_M39 (pc_q := 52) rfl rfl rfl ?_
    refine pm_R_op pm_M39 (pc_q := 53) (st_q := [.int 4, .int 1]) rfl rfl rfl ?_
    refine pm_R_br pm_M39 (pc_q := 80) (st_q := []) rfl rfl ?_
    refine pm_R_op pm_M39 (pc_q := 81) (st_q := [.int 0]) rfl rfl rfl ?_
    refine pm_R_lo pm_M39 (pc_q := 83) (ls_q := [.ref 25, .int 1, .int 0, .int 1, .int 0, .int 0]) (st_q := []) rfl rfl rfl ?_
    refine pm_R_lo pm_M39 (pc_q := 84) rfl rfl rfl ?_
    refine pm_R_br pm_M39 (pc_q := 97) (st_q := []) rfl rfl ?_
    refine pm_R_lo pm_M39 (pc_q := 98) rfl rfl rfl ?_
    refine pm_R_op pm_M39 (pc_q := 99) (st_q := [.int 2, .ref 25]) rfl rfl rfl ?_
    refine pm_R_lo pm_M39 (pc_q := 100) rfl rfl rfl ?_
    refine pm_R_get pm_M39 (pc_q := 103) (v := .ref 30) (pm_q39_1 (Nat.le_of_ble_eq_true rfl)) rfl T.e25 (by decide) (T.lt (by decide)) rfl rfl ?_
    have B14 : sf_B 0 600 (m 11) := T.B 11
    refine pm_R_get pm_M39 (pc_q := 106) (v := .int (m 11)) (pm_q39_1 (Nat.le_of_ble_eq_true rfl)) rfl T.e30 (by decide) (T.lt (by decide)) rfl rfl ?_
    refine pm_R_cv pm_M39 (pc_q := 109) (a := 25) (ra := [.int (m 11), .int 2]) (rest := []) (ls_q := [.ref 25, .int 2, .int (m 11)]) (pm_q39_1 (Nat.le_of_ble_eq_true rfl)) rfl (Or.inl rfl) pm_M21 T.e25 rfl (by decide) (T.lt (by decide)) rfl rfl (Nat.le_of_ble_eq_true rfl) rfl rfl ?_
    refine pm_R_lo pm_M21 (pc_q := 1) rfl rfl rfl ?_
    refine pm_R_get pm_M21 (pc_q := 4) (v := .int (m 3)) rfl rfl T.e25 (by decide) (T.lt (by decide)) rfl rfl ?_
    refine pm_R_ifc pm_M21 (t := 17) (pc_q := 7) rfl rfl rfl (fun c15 => ?_) (fun c15 => ?_)
    · have B16 : sf_B 1 4 (m 3) := sf_neL0 c15 sf_k0 B1
      refine pm_R_ret pm_M21 (r := none) rfl rfl ?_
      show pm_R _ 39 109 [.ref 25, .int 1, .int 0, .int 1, .int 0, .int 0] [] _ _
      exact pm_R_ret pm_M39 (r := none) (pm_q39_1 (Nat.le_of_ble_eq_true rfl)) rfl (K m h T (cl_F.refl (ck := ck) (A := [25]) (n := 0) (s := 0) T.1) (rf_W.refl [3, 4] m) (fun g eg z => sf_pos B16 (by decide) z))
    · have B17 : sf_B 0 0 (m 3) := sf_eqL (Classical.not_not.mp c15) sf_k0
      refine pm_R_lo pm_M21 (pc_q := 8) rfl rfl rfl ?_
      refine pm_R_lo pm_M21 (pc_q := 9) rfl rfl rfl ?_
      refine cl_R_put25 G pm_M21 T (k := 3) (pc_q := 12) rfl rfl rfl (by decide) rfl rfl (sf_weak sf_k2 (by decide) (by decide)) rfl rfl rfl rfl rfl (fun h18 m21 em22 T19 F20 => ?_)
      have F23 := F20.cl (ck := ck) T.1
      have F24 := (cl_F.refl (ck := ck) (A := [25]) (n := 0) (s := 0) T.1).trans (N := 0) (S := 0) F23 (by decide) (by decide) (by decide)
      have B25 : sf_B 2 2 (m21 3) := by rw [em22]; exact sf_k2
      have W27 : rf_W [3, 4] m m21 := by rw [em22]; exact (rf_W.refl [3, 4] m).put (by decide)
      refine pm_R_lo pm_M21 (pc_q := 13) rfl rfl rfl ?_
      refine pm_R_lo pm_M21 (pc_q := 14) rfl rfl rfl ?_
      refine cl_R_put25 G pm_M21 T19 (k := 4) (pc_q := 17) rfl rfl rfl (by decide) rfl rfl (sf_weak B14 (by decide) (by decide)) rfl rfl rfl rfl rfl (fun h28 m31 em32 T29 F30 => ?_)
      have F33 := F30.cl (ck := ck) T19.1
      have F34 := F24.trans (N := 0) (S := 0) F33 (by decide) (by decide) (by decide)
      have B35 : sf_B 2 2 (m31 3) := by rw [em32]; exact B25
      have ek36 : (m31 3).toInt = ((m21 3)).toInt := by rw [em32]; rfl
      have B37 : sf_B 0 600 (m31 4) := by rw [em32]; exact B14
      have ek38 : (m31 4).toInt = ((m 11)).toInt := by rw [em32]; rfl
      have W39 : rf_W [3, 4] m m31 := by rw [em32]; exact W27.put (by decide)
      refine pm_R_ret pm_M21 (r := none) rfl rfl ?_
      show pm_R _ 39 109 [.ref 25, .int 1, .int 0, .int 1, .int 0, .int 0] [] _ _
      exact pm_R_ret pm_M39 (r := none) (pm_q39_1 (Nat.le_of_ble_eq_true rfl)) rfl (K m31 h28 T29 F34 W39 (fun g eg z => sf_pos B35 (by decide) z))

set_option maxRecDepth 100000 in
set_option maxHeartbeats 4000000 in
/-- SilentTable$TextReader.noteNumber -/
theorem cl_c39_1_1 {d : Nat} {ck : cl_K} {E : Nat → pm_E} {m : Nat → Int32} {o : Nat → Option Nat} {h : pm_H} {Q : Option Value → pm_H → Prop}  (G : cl_G ck E) (T : cl_T ck E m o h)  (K : ∀ (m_q : Nat → Int32) (h_q : pm_H), cl_T ck E m_q o h_q → cl_F ck [25] 0 0 h h_q → rf_W [3, 4] m m_q → (∀ g : Nat → Int32, h.2.2 29 = .inl (0, 4, .inl g) → (m_q 3).toInt = 0 → (m 3).toInt = 0 ∧ True ∧ (g (Int32.toNatClampNeg 1)).toInt ≤ 5) → Q none h_q) : pm_R (d + 1) 39 0 [.ref 25, .int 1, .int 1, pm_no, pm_no, pm_no] [] h Q := by
  have B1 : sf_B 0 4 (m 3) := T.B 3
  obtain ⟨f2, e3⟩ := T.C 29 (by decide) (by decide)
  refine pm_R_lo pm_M39 (pc_q := 1) rfl rfl rfl ?_
  refine pm_R_get pm_M39 (pc_q := 4) (v := .ref 29) rfl rfl T.e25 (by decide) (T.lt (by decide)) rfl rfl ?_
  refine pm_R_lo pm_M39 (pc_q := 5) rfl rfl rfl ?_
  obtain ⟨z5, ez6⟩ : ∃ y, f2 (Int32.toNatClampNeg 1) = y := ⟨_, rfl⟩
  refine pm_R_iald pm_M39 (pc_q := 6) (v := z5) rfl e3 (T.lt (by decide)) rfl ez6 rfl ?_
  refine pm_R_stat pm_M39 (pc_q := 9) rfl rfl rfl ?_
  refine pm_R_lo pm_M39 (pc_q := 10) rfl rfl rfl ?_
  refine pm_R_op pm_M39 (pc_q := 11) (st_q := [.int 3, .int 1, .ref 3, .int z5]) rfl rfl rfl ?_
  refine pm_R_op pm_M39 (pc_q := 12) (st_q := [.int 3, .ref 3, .int z5]) rfl rfl rfl ?_
  refine pm_R_lo pm_M39 (pc_q := 13) rfl rfl rfl ?_
  refine pm_R_op pm_M39 (pc_q := 14) (st_q := [.int 4, .ref 3, .int z5]) rfl rfl rfl ?_
  refine pm_R_iald pm_M39 (pc_q := 15) (v := 5) rfl ((T.old (by decide)).trans G.tb3) (T.lt (by decide)) rfl rfl rfl ?_
  refine pm_R_icmp pm_M39 (t := 22) (pc_q := 18) rfl rfl rfl (fun c11 => ?_) (fun c11 => ?_)
  · have B12 : sf_B (-2147483648) 5 z5 := sf_leL c11 (sf_any z5) sf_k5
    refine pm_R_op pm_M39 (pc_q := 23) (st_q := [.int 0]) rfl rfl rfl ?_
    refine pm_R_lo pm_M39 (pc_q := 24) (ls_q := [.ref 25, .int 1, .int 1, .int 0, pm_no, pm_no]) (st_q := []) rfl rfl rfl ?_
    refine pm_R_lo pm_M39 (pc_q := 25) rfl rfl rfl ?_
    refine pm_R_op pm_M39 (pc_q := 26) (st_q := [.int 3, .int 1]) rfl rfl rfl ?_
    refine pm_R_br pm_M39 (pc_q := 43) (st_q := []) rfl rfl ?_
    refine pm_R_op pm_M39 (pc_q := 44) (st_q := [.int 0]) rfl rfl rfl ?_
    refine pm_R_lo pm_M39 (pc_q := 46) (ls_q := [.ref 25, .int 1, .int 1, .int 0, .int 0, pm_no]) (st_q := []) rfl rfl rfl ?_
    refine pm_R_lo pm_M39 (pc_q := 47) rfl rfl rfl ?_
    refine pm_R_op pm_M39 (pc_q := 48) (st_q := [.int 2, .int 1]) rfl rfl rfl ?_
    refine pm_R_br pm_M39 (pc_q := 51) (st_q := []) rfl rfl ?_
    refine pm_R_lo pm_M39 (pc_q := 52) rfl rfl rfl ?_
    refine pm_R_op pm_M39 (pc_q := 53) (st_q := [.int 4, .int 1]) rfl rfl rfl ?_
    refine pm_R_br pm_M39 (pc_q := 80) (st_q := []) rfl rfl ?_
    refine pm_R_op pm_M39 (pc_q := 81) (st_q := [.int 0]) rfl rfl rfl ?_
    refine pm_R_lo pm_M39 (pc_q := 83) (ls_q := [.ref 25, .int 1, .int 1, .int 0, .int 0, .int 0]) (st_q := []) rfl rfl rfl ?_
    refine pm_R_lo pm_M39 (pc_q := 84) rfl rfl rfl ?_
    refine pm_R_br pm_M39 (pc_q := 87) (st_q := []) rfl rfl ?_
    refine pm_R_lo pm_M39 (pc_q := 89) rfl rfl rfl ?_
    refine pm_R_br pm_M39 (pc_q := 92) (st_q := []) rfl rfl ?_
    refine pm_R_lo pm_M39 (pc_q := 94) rfl rfl rfl ?_
    refine pm_R_br pm_M39 (pc_q := 109) (st_q := []) rfl rfl ?_
    exact pm_R_ret pm_M39 (r := none) (pm_q39_1 (Nat.le_of_ble_eq_true rfl)) rfl (K m h T (cl_F.refl (ck := ck) (A := [25]) (n := 0) (s := 0) T.1) (rf_W.refl [3, 4] m) (fun g eg z => by rw [e3] at eg; cases eg; exact ⟨z, trivial, by rw [ez6]; exact (cl_aux62 _ (Int32.le_iff_toInt_le.mp c11))⟩))
  · have B13 : sf_B 6 2147483647 z5 := sf_ltR (Int32.not_le.mp c11) sf_k5 (sf_any z5)
    refine pm_R_op pm_M39 (pc_q := 19) (st_q := [.int 1]) rfl rfl rfl ?_
    refine pm_R_br pm_M39 (pc_q := 23) rfl rfl ?_
    refine pm_R_lo pm_M39 (pc_q := 24) (ls_q := [.ref 25, .int 1, .int 1, .int 1, pm_no, pm_no]) (st_q := []) rfl rfl rfl ?_
    refine pm_R_lo pm_M39 (pc_q := 25) rfl rfl rfl ?_
    refine pm_R_op pm_M39 (pc_q := 26) (st_q := [.int 3, .int 1]) rfl rfl rfl ?_
    refine pm_R_br pm_M39 (pc_q := 43) (st_q := []) rfl rfl ?_
    refine pm_R_op pm_M39 (pc_q := 44) (st_q := [.int 0]) rfl rfl rfl ?_
    refine pm_R_lo pm_M39 (pc_q := 46) (ls_q := [.ref 25, .int 1, .int 1, .int 1, .int 0, pm_no]) (st_q := []) rfl rfl rfl ?_
    refine pm_R_lo pm_M39 (pc_q := 47) rfl rfl rfl ?_
    refine pm_R_op pm_M39 (pc_q := 48) (st_q := [.int 2, .int 1]) rfl rfl rfl ?_
    refine pm_R_br pm_M39 (pc_q := 51) (st_q := []) rfl rfl ?_
    refine pm_R_lo pm_M39 (pc_q := 52) rfl rfl rfl ?_
    refine pm_R_op pm_M39 (pc_q := 53) (st_q := [.int 4, .int 1]) rfl rfl rfl ?_
    refine pm_R_br pm_M39 (pc_q := 80) (st_q := []) rfl rfl ?_
    refine pm_R_op pm_M39 (pc_q := 81) (st_q := [.int 0]) rfl rfl rfl ?_
    refine pm_R_lo pm_M39 (pc_q := 83) (ls_q := [.ref 25, .int 1, .int 1, .int 1, .int 0, .int 0]) (st_q := []) rfl rfl rfl ?_
    refine pm_R_lo pm_M39 (pc_q := 84) rfl rfl rfl ?_
    refine pm_R_br pm_M39 (pc_q := 97) (st_q := []) rfl rfl ?_
    refine pm_R_lo pm_M39 (pc_q := 98) rfl rfl rfl ?_
    refine pm_R_op pm_M39 (pc_q := 99) (st_q := [.int 2, .ref 25]) rfl rfl rfl ?_
    refine pm_R_lo pm_M39 (pc_q := 100) rfl rfl rfl ?_
    refine pm_R_get pm_M39 (pc_q := 103) (v := .ref 30) (pm_q39_1 (Nat.le_of_ble_eq_true rfl)) rfl T.e25 (by decide) (T.lt (by decide)) rfl rfl ?_
    have B14 : sf_B 0 600 (m 11) := T.B 11
    refine pm_R_get pm_M39 (pc_q := 106) (v := .int (m 11)) (pm_q39_1 (Nat.le_of_ble_eq_true rfl)) rfl T.e30 (by decide) (T.lt (by decide)) rfl rfl ?_
    refine pm_R_cv pm_M39 (pc_q := 109) (a := 25) (ra := [.int (m 11), .int 2]) (rest := []) (ls_q := [.ref 25, .int 2, .int (m 11)]) (pm_q39_1 (Nat.le_of_ble_eq_true rfl)) rfl (Or.inl rfl) pm_M21 T.e25 rfl (by decide) (T.lt (by decide)) rfl rfl (Nat.le_of_ble_eq_true rfl) rfl rfl ?_
    refine pm_R_lo pm_M21 (pc_q := 1) rfl rfl rfl ?_
    refine pm_R_get pm_M21 (pc_q := 4) (v := .int (m 3)) rfl rfl T.e25 (by decide) (T.lt (by decide)) rfl rfl ?_
    refine pm_R_ifc pm_M21 (t := 17) (pc_q := 7) rfl rfl rfl (fun c15 => ?_) (fun c15 => ?_)
    · have B16 : sf_B 1 4 (m 3) := sf_neL0 c15 sf_k0 B1
      refine pm_R_ret pm_M21 (r := none) rfl rfl ?_
      show pm_R _ 39 109 [.ref 25, .int 1, .int 1, .int 1, .int 0, .int 0] [] _ _
      exact pm_R_ret pm_M39 (r := none) (pm_q39_1 (Nat.le_of_ble_eq_true rfl)) rfl (K m h T (cl_F.refl (ck := ck) (A := [25]) (n := 0) (s := 0) T.1) (rf_W.refl [3, 4] m) (fun g eg z => sf_pos B16 (by decide) z))
    · have B17 : sf_B 0 0 (m 3) := sf_eqL (Classical.not_not.mp c15) sf_k0
      refine pm_R_lo pm_M21 (pc_q := 8) rfl rfl rfl ?_
      refine pm_R_lo pm_M21 (pc_q := 9) rfl rfl rfl ?_
      refine cl_R_put25 G pm_M21 T (k := 3) (pc_q := 12) rfl rfl rfl (by decide) rfl rfl (sf_weak sf_k2 (by decide) (by decide)) rfl rfl rfl rfl rfl (fun h18 m21 em22 T19 F20 => ?_)
      have F23 := F20.cl (ck := ck) T.1
      have F24 := (cl_F.refl (ck := ck) (A := [25]) (n := 0) (s := 0) T.1).trans (N := 0) (S := 0) F23 (by decide) (by decide) (by decide)
      have B25 : sf_B 2 2 (m21 3) := by rw [em22]; exact sf_k2
      have W27 : rf_W [3, 4] m m21 := by rw [em22]; exact (rf_W.refl [3, 4] m).put (by decide)
      refine pm_R_lo pm_M21 (pc_q := 13) rfl rfl rfl ?_
      refine pm_R_lo pm_M21 (pc_q := 14) rfl rfl rfl ?_
      refine cl_R_put25 G pm_M21 T19 (k := 4) (pc_q := 17) rfl rfl rfl (by decide) rfl rfl (sf_weak B14 (by decide) (by decide)) rfl rfl rfl rfl rfl (fun h28 m31 em32 T29 F30 => ?_)
      have F33 := F30.cl (ck := ck) T19.1
      have F34 := F24.trans (N := 0) (S := 0) F33 (by decide) (by decide) (by decide)
      have B35 : sf_B 2 2 (m31 3) := by rw [em32]; exact B25
      have ek36 : (m31 3).toInt = ((m21 3)).toInt := by rw [em32]; rfl
      have B37 : sf_B 0 600 (m31 4) := by rw [em32]; exact B14
      have ek38 : (m31 4).toInt = ((m 11)).toInt := by rw [em32]; rfl
      have W39 : rf_W [3, 4] m m31 := by rw [em32]; exact W27.put (by decide)
      refine pm_R_ret pm_M21 (r := none) rfl rfl ?_
      show pm_R _ 39 109 [.ref 25, .int 1, .int 1, .int 1, .int 0, .int 0] [] _ _
      exact pm_R_ret pm_M39 (r := none) (pm_q39_1 (Nat.le_of_ble_eq_true rfl)) rfl (K m31 h28 T29 F34 W39 (fun g eg z => sf_pos B35 (by decide) z))

theorem cl_aux64 (v0 : Int) (q0 : v0 ≤ 49) : v0 ≤ 49 := by omega
set_option maxRecDepth 100000 in
set_option maxHeartbeats 4000000 in
/-- SilentTable$TextReader.noteNumber -/
theorem cl_c39_1_2 {d : Nat} {ck : cl_K} {E : Nat → pm_E} {m : Nat → Int32} {o : Nat → Option Nat} {h : pm_H} {Q : Option Value → pm_H → Prop}  (G : cl_G ck E) (T : cl_T ck E m o h)  (K : ∀ (m_q : Nat → Int32) (h_q : pm_H), cl_T ck E m_q o h_q → cl_F ck [25] 0 0 h h_q → rf_W [3, 4] m m_q → (∀ g : Nat → Int32, h.2.2 29 = .inl (0, 4, .inl g) → (m_q 3).toInt = 0 → (m 3).toInt = 0 ∧ True ∧ (g (Int32.toNatClampNeg 2)).toInt ≤ 49) → Q none h_q) : pm_R (d + 1) 39 0 [.ref 25, .int 1, .int 2, pm_no, pm_no, pm_no] [] h Q := by
  have B1 : sf_B 0 4 (m 3) := T.B 3
  obtain ⟨f2, e3⟩ := T.C 29 (by decide) (by decide)
  refine pm_R_lo pm_M39 (pc_q := 1) rfl rfl rfl ?_
  refine pm_R_get pm_M39 (pc_q := 4) (v := .ref 29) rfl rfl T.e25 (by decide) (T.lt (by decide)) rfl rfl ?_
  refine pm_R_lo pm_M39 (pc_q := 5) rfl rfl rfl ?_
  obtain ⟨z5, ez6⟩ : ∃ y, f2 (Int32.toNatClampNeg 2) = y := ⟨_, rfl⟩
  refine pm_R_iald pm_M39 (pc_q := 6) (v := z5) rfl e3 (T.lt (by decide)) rfl ez6 rfl ?_
  refine pm_R_stat pm_M39 (pc_q := 9) rfl rfl rfl ?_
  refine pm_R_lo pm_M39 (pc_q := 10) rfl rfl rfl ?_
  refine pm_R_op pm_M39 (pc_q := 11) (st_q := [.int 3, .int 1, .ref 3, .int z5]) rfl rfl rfl ?_
  refine pm_R_op pm_M39 (pc_q := 12) (st_q := [.int 3, .ref 3, .int z5]) rfl rfl rfl ?_
  refine pm_R_lo pm_M39 (pc_q := 13) rfl rfl rfl ?_
  refine pm_R_op pm_M39 (pc_q := 14) (st_q := [.int 5, .ref 3, .int z5]) rfl rfl rfl ?_
  refine pm_R_iald pm_M39 (pc_q := 15) (v := 49) rfl ((T.old (by decide)).trans G.tb3) (T.lt (by decide)) rfl rfl rfl ?_
  refine pm_R_icmp pm_M39 (t := 22) (pc_q := 18) rfl rfl rfl (fun c11 => ?_) (fun c11 => ?_)
  · have B12 : sf_B (-2147483648) 49 z5 := sf_leL c11 (sf_any z5) sf_k49
    refine pm_R_op pm_M39 (pc_q := 23) (st_q := [.int 0]) rfl rfl rfl ?_
    refine pm_R_lo pm_M39 (pc_q := 24) (ls_q := [.ref 25, .int 1, .int 2, .int 0, pm_no, pm_no]) (st_q := []) rfl rfl rfl ?_
    refine pm_R_lo pm_M39 (pc_q := 25) rfl rfl rfl ?_
    refine pm_R_op pm_M39 (pc_q := 26) (st_q := [.int 3, .int 1]) rfl rfl rfl ?_
    refine pm_R_br pm_M39 (pc_q := 43) (st_q := []) rfl rfl ?_
    refine pm_R_op pm_M39 (pc_q := 44) (st_q := [.int 0]) rfl rfl rfl ?_
    refine pm_R_lo pm_M39 (pc_q := 46) (ls_q := [.ref 25, .int 1, .int 2, .int 0, .int 0, pm_no]) (st_q := []) rfl rfl rfl ?_
    refine pm_R_lo pm_M39 (pc_q := 47) rfl rfl rfl ?_
    refine pm_R_op pm_M39 (pc_q := 48) (st_q := [.int 2, .int 1]) rfl rfl rfl ?_
    refine pm_R_br pm_M39 (pc_q := 51) (st_q := []) rfl rfl ?_
    refine pm_R_lo pm_M39 (pc_q := 52) rfl rfl rfl ?_
    refine pm_R_op pm_M39 (pc_q := 53) (st_q := [.int 4, .int 1]) rfl rfl rfl ?_
    refine pm_R_br pm_M39 (pc_q := 80) (st_q := []) rfl rfl ?_
    refine pm_R_op pm_M39 (pc_q := 81) (st_q := [.int 0]) rfl rfl rfl ?_
    refine pm_R_lo pm_M39 (pc_q := 83) (ls_q := [.ref 25, .int 1, .int 2, .int 0, .int 0, .int 0]) (st_q := []) rfl rfl rfl ?_
    refine pm_R_lo pm_M39 (pc_q := 84) rfl rfl rfl ?_
    refine pm_R_br pm_M39 (pc_q := 87) (st_q := []) rfl rfl ?_
    refine pm_R_lo pm_M39 (pc_q := 89) rfl rfl rfl ?_
    refine pm_R_br pm_M39 (pc_q := 92) (st_q := []) rfl rfl ?_
    refine pm_R_lo pm_M39 (pc_q := 94) rfl rfl rfl ?_
    refine pm_R_br pm_M39 (pc_q := 109) (st_q := []) rfl rfl ?_
    exact pm_R_ret pm_M39 (r := none) (pm_q39_1 (Nat.le_of_ble_eq_true rfl)) rfl (K m h T (cl_F.refl (ck := ck) (A := [25]) (n := 0) (s := 0) T.1) (rf_W.refl [3, 4] m) (fun g eg z => by rw [e3] at eg; cases eg; exact ⟨z, trivial, by rw [ez6]; exact (cl_aux64 _ (Int32.le_iff_toInt_le.mp c11))⟩))
  · have B13 : sf_B 50 2147483647 z5 := sf_ltR (Int32.not_le.mp c11) sf_k49 (sf_any z5)
    refine pm_R_op pm_M39 (pc_q := 19) (st_q := [.int 1]) rfl rfl rfl ?_
    refine pm_R_br pm_M39 (pc_q := 23) rfl rfl ?_
    refine pm_R_lo pm_M39 (pc_q := 24) (ls_q := [.ref 25, .int 1, .int 2, .int 1, pm_no, pm_no]) (st_q := []) rfl rfl rfl ?_
    refine pm_R_lo pm_M39 (pc_q := 25) rfl rfl rfl ?_
    refine pm_R_op pm_M39 (pc_q := 26) (st_q := [.int 3, .int 1]) rfl rfl rfl ?_
    refine pm_R_br pm_M39 (pc_q := 43) (st_q := []) rfl rfl ?_
    refine pm_R_op pm_M39 (pc_q := 44) (st_q := [.int 0]) rfl rfl rfl ?_
    refine pm_R_lo pm_M39 (pc_q := 46) (ls_q := [.ref 25, .int 1, .int 2, .int 1, .int 0, pm_no]) (st_q := []) rfl rfl rfl ?_
    refine pm_R_lo pm_M39 (pc_q := 47) rfl rfl rfl ?_
    refine pm_R_op pm_M39 (pc_q := 48) (st_q := [.int 2, .int 1]) rfl rfl rfl ?_
    refine pm_R_br pm_M39 (pc_q := 51) (st_q := []) rfl rfl ?_
    refine pm_R_lo pm_M39 (pc_q := 52) rfl rfl rfl ?_
    refine pm_R_op pm_M39 (pc_q := 53) (st_q := [.int 4, .int 1]) rfl rfl rfl ?_
    refine pm_R_br pm_M39 (pc_q := 80) (st_q := []) rfl rfl ?_
    refine pm_R_op pm_M39 (pc_q := 81) (st_q := [.int 0]) rfl rfl rfl ?_
    refine pm_R_lo pm_M39 (pc_q := 83) (ls_q := [.ref 25, .int 1, .int 2, .int 1, .int 0, .int 0]) (st_q := []) rfl rfl rfl ?_
    refine pm_R_lo pm_M39 (pc_q := 84) rfl rfl rfl ?_
    refine pm_R_br pm_M39 (pc_q := 97) (st_q := []) rfl rfl ?_
    refine pm_R_lo pm_M39 (pc_q := 98) rfl rfl rfl ?_
    refine pm_R_op pm_M39 (pc_q := 99) (st_q := [.int 2, .ref 25]) rfl rfl rfl ?_
    refine pm_R_lo pm_M39 (pc_q := 100) rfl rfl rfl ?_
    refine pm_R_get pm_M39 (pc_q := 103) (v := .ref 30) (pm_q39_1 (Nat.le_of_ble_eq_true rfl)) rfl T.e25 (by decide) (T.lt (by decide)) rfl rfl ?_
    have B14 : sf_B 0 600 (m 11) := T.B 11
    refine pm_R_get pm_M39 (pc_q := 106) (v := .int (m 11)) (pm_q39_1 (Nat.le_of_ble_eq_true rfl)) rfl T.e30 (by decide) (T.lt (by decide)) rfl rfl ?_
    refine pm_R_cv pm_M39 (pc_q := 109) (a := 25) (ra := [.int (m 11), .int 2]) (rest := []) (ls_q := [.ref 25, .int 2, .int (m 11)]) (pm_q39_1 (Nat.le_of_ble_eq_true rfl)) rfl (Or.inl rfl) pm_M21 T.e25 rfl (by decide) (T.lt (by decide)) rfl rfl (Nat.le_of_ble_eq_true rfl) rfl rfl ?_
    refine pm_R_lo pm_M21 (pc_q := 1) rfl rfl rfl ?_
    refine pm_R_get pm_M21 (pc_q := 4) (v := .int (m 3)) rfl rfl T.e25 (by decide) (T.lt (by decide)) rfl rfl ?_
    refine pm_R_ifc pm_M21 (t := 17) (pc_q := 7) rfl rfl rfl (fun c15 => ?_) (fun c15 => ?_)
    · have B16 : sf_B 1 4 (m 3) := sf_neL0 c15 sf_k0 B1
      refine pm_R_ret pm_M21 (r := none) rfl rfl ?_
      show pm_R _ 39 109 [.ref 25, .int 1, .int 2, .int 1, .int 0, .int 0] [] _ _
      exact pm_R_ret pm_M39 (r := none) (pm_q39_1 (Nat.le_of_ble_eq_true rfl)) rfl (K m h T (cl_F.refl (ck := ck) (A := [25]) (n := 0) (s := 0) T.1) (rf_W.refl [3, 4] m) (fun g eg z => sf_pos B16 (by decide) z))
    · have B17 : sf_B 0 0 (m 3) := sf_eqL (Classical.not_not.mp c15) sf_k0
      refine pm_R_lo pm_M21 (pc_q := 8) rfl rfl rfl ?_
      refine pm_R_lo pm_M21 (pc_q := 9) rfl rfl rfl ?_
      refine cl_R_put25 G pm_M21 T (k := 3) (pc_q := 12) rfl rfl rfl (by decide) rfl rfl (sf_weak sf_k2 (by decide) (by decide)) rfl rfl rfl rfl rfl (fun h18 m21 em22 T19 F20 => ?_)
      have F23 := F20.cl (ck := ck) T.1
      have F24 := (cl_F.refl (ck := ck) (A := [25]) (n := 0) (s := 0) T.1).trans (N := 0) (S := 0) F23 (by decide) (by decide) (by decide)
      have B25 : sf_B 2 2 (m21 3) := by rw [em22]; exact sf_k2
      have W27 : rf_W [3, 4] m m21 := by rw [em22]; exact (rf_W.refl [3, 4] m).put (by decide)
      refine pm_R_lo pm_M21 (pc_q := 13) rfl rfl rfl ?_
      refine pm_R_lo pm_M21 (pc_q := 14) rfl rfl rfl ?_
      refine cl_R_put25 G pm_M21 T19 (k := 4) (pc_q := 17) rfl rfl rfl (by decide) rfl rfl (sf_weak B14 (by decide) (by decide)) rfl rfl rfl rfl rfl (fun h28 m31 em32 T29 F30 => ?_)
      have F33 := F30.cl (ck := ck) T19.1
      have F34 := F24.trans (N := 0) (S := 0) F33 (by decide) (by decide) (by decide)
      have B35 : sf_B 2 2 (m31 3) := by rw [em32]; exact B25
      have ek36 : (m31 3).toInt = ((m21 3)).toInt := by rw [em32]; rfl
      have B37 : sf_B 0 600 (m31 4) := by rw [em32]; exact B14
      have ek38 : (m31 4).toInt = ((m 11)).toInt := by rw [em32]; rfl
      have W39 : rf_W [3, 4] m m31 := by rw [em32]; exact W27.put (by decide)
      refine pm_R_ret pm_M21 (r := none) rfl rfl ?_
      show pm_R _ 39 109 [.ref 25, .int 1, .int 2, .int 1, .int 0, .int 0] [] _ _
      exact pm_R_ret pm_M39 (r := none) (pm_q39_1 (Nat.le_of_ble_eq_true rfl)) rfl (K m31 h28 T29 F34 W39 (fun g eg z => sf_pos B35 (by decide) z))

set_option maxRecDepth 100000 in
set_option maxHeartbeats 4000000 in
/-- SilentTable$TextReader.noteNumber -/
theorem cl_c39_2_0 {d : Nat} {ck : cl_K} {E : Nat → pm_E} {m : Nat → Int32} {o : Nat → Option Nat} {h : pm_H} {Q : Option Value → pm_H → Prop}  (G : cl_G ck E) (T : cl_T ck E m o h)  (K : ∀ (m_q : Nat → Int32) (h_q : pm_H), cl_T ck E m_q o h_q → cl_F ck [25] 0 0 h h_q → rf_W [3, 4] m m_q → (∀ g : Nat → Int32, h.2.2 29 = .inl (0, 4, .inl g) → (m_q 3).toInt = 0 → (m 3).toInt = 0 ∧ True ∧ (g (Int32.toNatClampNeg 0)).toInt ≤ 9) → Q none h_q) : pm_R (d + 1) 39 0 [.ref 25, .int 2, .int 0, pm_no, pm_no, pm_no] [] h Q := by
  have B1 : sf_B 0 4 (m 3) := T.B 3
  obtain ⟨f2, e3⟩ := T.C 29 (by decide) (by decide)
  refine pm_R_lo pm_M39 (pc_q := 1) rfl rfl rfl ?_
  refine pm_R_get pm_M39 (pc_q := 4) (v := .ref 29) rfl rfl T.e25 (by decide) (T.lt (by decide)) rfl rfl ?_
  refine pm_R_lo pm_M39 (pc_q := 5) rfl rfl rfl ?_
  obtain ⟨z5, ez6⟩ : ∃ y, f2 (Int32.toNatClampNeg 0) = y := ⟨_, rfl⟩
  refine pm_R_iald pm_M39 (pc_q := 6) (v := z5) rfl e3 (T.lt (by decide)) rfl ez6 rfl ?_
  refine pm_R_stat pm_M39 (pc_q := 9) rfl rfl rfl ?_
  refine pm_R_lo pm_M39 (pc_q := 10) rfl rfl rfl ?_
  refine pm_R_op pm_M39 (pc_q := 11) (st_q := [.int 3, .int 2, .ref 3, .int z5]) rfl rfl rfl ?_
  refine pm_R_op pm_M39 (pc_q := 12) (st_q := [.int 6, .ref 3, .int z5]) rfl rfl rfl ?_
  refine pm_R_lo pm_M39 (pc_q := 13) rfl rfl rfl ?_
  refine pm_R_op pm_M39 (pc_q := 14) (st_q := [.int 6, .ref 3, .int z5]) rfl rfl rfl ?_
  refine pm_R_iald pm_M39 (pc_q := 15) (v := 9) rfl ((T.old (by decide)).trans G.tb3) (T.lt (by decide)) rfl rfl rfl ?_
  refine pm_R_icmp pm_M39 (t := 22) (pc_q := 18) rfl rfl rfl (fun c11 => ?_) (fun c11 => ?_)
  · have B12 : sf_B (-2147483648) 9 z5 := sf_leL c11 (sf_any z5) sf_k9
    refine pm_R_op pm_M39 (pc_q := 23) (st_q := [.int 0]) rfl rfl rfl ?_
    refine pm_R_lo pm_M39 (pc_q := 24) (ls_q := [.ref 25, .int 2, .int 0, .int 0, pm_no, pm_no]) (st_q := []) rfl rfl rfl ?_
    refine pm_R_lo pm_M39 (pc_q := 25) rfl rfl rfl ?_
    refine pm_R_op pm_M39 (pc_q := 26) (st_q := [.int 3, .int 2]) rfl rfl rfl ?_
    refine pm_R_br pm_M39 (pc_q := 43) (st_q := []) rfl rfl ?_
    refine pm_R_op pm_M39 (pc_q := 44) (st_q := [.int 0]) rfl rfl rfl ?_
    refine pm_R_lo pm_M39 (pc_q := 46) (ls_q := [.ref 25, .int 2, .int 0, .int 0, .int 0, pm_no]) (st_q := []) rfl rfl rfl ?_
    refine pm_R_lo pm_M39 (pc_q := 47) rfl rfl rfl ?_
    refine pm_R_op pm_M39 (pc_q := 48) (st_q := [.int 2, .int 2]) rfl rfl rfl ?_
    refine pm_R_br pm_M39 (pc_q := 56) (st_q := []) rfl rfl ?_
    refine pm_R_lo pm_M39 (pc_q := 57) rfl rfl rfl ?_
    refine pm_R_op pm_M39 (pc_q := 58) (st_q := [.int 1, .int 0]) rfl rfl rfl ?_
    refine pm_R_br pm_M39 (pc_q := 80) (st_q := []) rfl rfl ?_
    refine pm_R_op pm_M39 (pc_q := 81) (st_q := [.int 0]) rfl rfl rfl ?_
    refine pm_R_lo pm_M39 (pc_q := 83) (ls_q := [.ref 25, .int 2, .int 0, .int 0, .int 0, .int 0]) (st_q := []) rfl rfl rfl ?_
    refine pm_R_lo pm_M39 (pc_q := 84) rfl rfl rfl ?_
    refine pm_R_br pm_M39 (pc_q := 87) (st_q := []) rfl rfl ?_
    refine pm_R_lo pm_M39 (pc_q := 89) rfl rfl rfl ?_
    refine pm_R_br pm_M39 (pc_q := 92) (st_q := []) rfl rfl ?_
    refine pm_R_lo pm_M39 (pc_q := 94) rfl rfl rfl ?_
    refine pm_R_br pm_M39 (pc_q := 109) (st_q := []) rfl rfl ?_
    exact pm_R_ret pm_M39 (r := none) (pm_q39_1 (Nat.le_of_ble_eq_true rfl)) rfl (K m h T (cl_F.refl (ck := ck) (A := [25]) (n := 0) (s := 0) T.1) (rf_W.refl [3, 4] m) (fun g eg z => by rw [e3] at eg; cases eg; exact ⟨z, trivial, by rw [ez6]; exact (cl_aux63 _ (Int32.le_iff_toInt_le.mp c11))⟩))
  · have B13 : sf_B 10 2147483647 z5 := sf_ltR (Int32.not_le.mp c11) sf_k9 (sf_any z5)
    refine pm_R_op pm_M39 (pc_q := 19) (st_q := [.int 1]) rfl rfl rfl ?_
    refine pm_R_br pm_M39 (pc_q := 23) rfl rfl ?_
    refine pm_R_lo pm_M39 (pc_q := 24) (ls_q := [.ref 25, .int 2, .int 0, .int 1, pm_no, pm_no]) (st_q := []) rfl rfl rfl ?_
    refine pm_R_lo pm_M39 (pc_q := 25) rfl rfl rfl ?_
    refine pm_R_op pm_M39 (pc_q := 26) (st_q := [.int 3, .int 2]) rfl rfl rfl ?_
    refine pm_R_br pm_M39 (pc_q := 43) (st_q := []) rfl rfl ?_
    refine pm_R_op pm_M39 (pc_q := 44) (st_q := [.int 0]) rfl rfl rfl ?_
    refine pm_R_lo pm_M39 (pc_q := 46) (ls_q := [.ref 25, .int 2, .int 0, .int 1, .int 0, pm_no]) (st_q := []) rfl rfl rfl ?_
    refine pm_R_lo pm_M39 (pc_q := 47) rfl rfl rfl ?_
    refine pm_R_op pm_M39 (pc_q := 48) (st_q := [.int 2, .int 2]) rfl rfl rfl ?_
    refine pm_R_br pm_M39 (pc_q := 56) (st_q := []) rfl rfl ?_
    refine pm_R_lo pm_M39 (pc_q := 57) rfl rfl rfl ?_
    refine pm_R_op pm_M39 (pc_q := 58) (st_q := [.int 1, .int 0]) rfl rfl rfl ?_
    refine pm_R_br pm_M39 (pc_q := 80) (st_q := []) rfl rfl ?_
    refine pm_R_op pm_M39 (pc_q := 81) (st_q := [.int 0]) rfl rfl rfl ?_
    refine pm_R_lo pm_M39 (pc_q := 83) (ls_q := [.ref 25, .int 2, .int 0, .int 1, .int 0, .int 0]) (st_q := []) rfl rfl rfl ?_
    refine pm_R_lo pm_M39 (pc_q := 84) rfl rfl rfl ?_
    refine pm_R_br pm_M39 (pc_q := 97) (st_q := []) rfl rfl ?_
    refine pm_R_lo pm_M39 (pc_q := 98) rfl rfl rfl ?_
    refine pm_R_op pm_M39 (pc_q := 99) (st_q := [.int 2, .ref 25]) rfl rfl rfl ?_
    refine pm_R_lo pm_M39 (pc_q := 100) rfl rfl rfl ?_
    refine pm_R_get pm_M39 (pc_q := 103) (v := .ref 30) (pm_q39_1 (Nat.le_of_ble_eq_true rfl)) rfl T.e25 (by decide) (T.lt (by decide)) rfl rfl ?_
    have B14 : sf_B 0 600 (m 11) := T.B 11
    refine pm_R_get pm_M39 (pc_q := 106) (v := .int (m 11)) (pm_q39_1 (Nat.le_of_ble_eq_true rfl)) rfl T.e30 (by decide) (T.lt (by decide)) rfl rfl ?_
    refine pm_R_cv pm_M39 (pc_q := 109) (a := 25) (ra := [.int (m 11), .int 2]) (rest := []) (ls_q := [.ref 25, .int 2, .int (m 11)]) (pm_q39_1 (Nat.le_of_ble_eq_true rfl)) rfl (Or.inl rfl) pm_M21 T.e25 rfl (by decide) (T.lt (by decide)) rfl rfl (Nat.le_of_ble_eq_true rfl) rfl rfl ?_
    refine pm_R_lo pm_M21 (pc_q := 1) rfl rfl rfl ?_
    refine pm_R_get pm_M21 (pc_q := 4) (v := .int (m 3)) rfl rfl T.e25 (by decide) (T.lt (by decide)) rfl rfl ?_
    refine pm_R_ifc pm_M21 (t := 17) (pc_q := 7) rfl rfl rfl (fun c15 => ?_) (fun c15 => ?_)
    · have B16 : sf_B 1 4 (m 3) := sf_neL0 c15 sf_k0 B1
      refine pm_R_ret pm_M21 (r := none) rfl rfl ?_
      show pm_R _ 39 109 [.ref 25, .int 2, .int 0, .int 1, .int 0, .int 0] [] _ _
      exact pm_R_ret pm_M39 (r := none) (pm_q39_1 (Nat.le_of_ble_eq_true rfl)) rfl (K m h T (cl_F.refl (ck := ck) (A := [25]) (n := 0) (s := 0) T.1) (rf_W.refl [3, 4] m) (fun g eg z => sf_pos B16 (by decide) z))
    · have B17 : sf_B 0 0 (m 3) := sf_eqL (Classical.not_not.mp c15) sf_k0
      refine pm_R_lo pm_M21 (pc_q := 8) rfl rfl rfl ?_
      refine pm_R_lo pm_M21 (pc_q := 9) rfl rfl rfl ?_
      refine cl_R_put25 G pm_M21 T (k := 3) (pc_q := 12) rfl rfl rfl (by decide) rfl rfl (sf_weak sf_k2 (by decide) (by decide)) rfl rfl rfl rfl rfl (fun h18 m21 em22 T19 F20 => ?_)
      have F23 := F20.cl (ck := ck) T.1
      have F24 := (cl_F.refl (ck := ck) (A := [25]) (n := 0) (s := 0) T.1).trans (N := 0) (S := 0) F23 (by decide) (by decide) (by decide)
      have B25 : sf_B 2 2 (m21 3) := by rw [em22]; exact sf_k2
      have W27 : rf_W [3, 4] m m21 := by rw [em22]; exact (rf_W.refl [3, 4] m).put (by decide)
      refine pm_R_lo pm_M21 (pc_q := 13) rfl rfl rfl ?_
      refine pm_R_lo pm_M21 (pc_q := 14) rfl rfl rfl ?_
      refine cl_R_put25 G pm_M21 T19 (k := 4) (pc_q := 17) rfl rfl rfl (by decide) rfl rfl (sf_weak B14 (by decide) (by decide)) rfl rfl rfl rfl rfl (fun h28 m31 em32 T29 F30 => ?_)
      have F33 := F30.cl (ck := ck) T19.1
      have F34 := F24.trans (N := 0) (S := 0) F33 (by decide) (by decide) (by decide)
      have B35 : sf_B 2 2 (m31 3) := by rw [em32]; exact B25
      have ek36 : (m31 3).toInt = ((m21 3)).toInt := by rw [em32]; rfl
      have B37 : sf_B 0 600 (m31 4) := by rw [em32]; exact B14
      have ek38 : (m31 4).toInt = ((m 11)).toInt := by rw [em32]; rfl
      have W39 : rf_W [3, 4] m m31 := by rw [em32]; exact W27.put (by decide)
      refine pm_R_ret pm_M21 (r := none) rfl rfl ?_
      show pm_R _ 39 109 [.ref 25, .int 2, .int 0, .int 1, .int 0, .int 0] [] _ _
      exact pm_R_ret pm_M39 (r := none) (pm_q39_1 (Nat.le_of_ble_eq_true rfl)) rfl (K m31 h28 T29 F34 W39 (fun g eg z => sf_pos B35 (by decide) z))

set_option maxRecDepth 100000 in
set_option maxHeartbeats 4000000 in
/-- SilentTable$TextReader.noteNumber -/
theorem cl_c39_2_1 {d : Nat} {ck : cl_K} {E : Nat → pm_E} {m : Nat → Int32} {o : Nat → Option Nat} {h : pm_H} {Q : Option Value → pm_H → Prop}  (G : cl_G ck E) (T : cl_T ck E m o h)  (K : ∀ (m_q : Nat → Int32) (h_q : pm_H), cl_T ck E m_q o h_q → cl_F ck [25] 0 0 h h_q → rf_W [3, 4] m m_q → (∀ g : Nat → Int32, h.2.2 29 = .inl (0, 4, .inl g) → (m_q 3).toInt = 0 → (m 3).toInt = 0 ∧ True ∧ (g (Int32.toNatClampNeg 1)).toInt ≤ 9) → Q none h_q) : pm_R (d + 1) 39 0 [.ref 25, .int 2, .int 1, pm_no, pm_no, pm_no] [] h Q := by
  have B1 : sf_B 0 4 (m 3) := T.B 3
  obtain ⟨f2, e3⟩ := T.C 29 (by decide) (by decide)
  refine pm_R_lo pm_M39 (pc_q := 1) rfl rfl rfl ?_
  refine pm_R_get pm_M39 (pc_q := 4) (v := .ref 29) rfl rfl T.e25 (by decide) (T.lt (by decide)) rfl rfl ?_
  refine pm_R_lo pm_M39 (pc_q := 5) rfl rfl rfl ?_
  obtain ⟨z5, ez6⟩ : ∃ y, f2 (Int32.toNatClampNeg 1) = y := ⟨_, rfl⟩
  refine pm_R_iald pm_M39 (pc_q := 6) (v := z5) rfl e3 (T.lt (by decide)) rfl ez6 rfl ?_
  refine pm_R_stat pm_M39 (pc_q := 9) rfl rfl rfl ?_
  refine pm_R_lo pm_M39 (pc_q := 10) rfl rfl rfl ?_
  refine pm_R_op pm_M39 (pc_q := 11) (st_q := [.int 3, .int 2, .ref 3, .int z5]) rfl rfl rfl ?_
  refine pm_R_op pm_M39 (pc_q := 12) (st_q := [.int 6, .ref 3, .int z5]) rfl rfl rfl ?_
  refine pm_R_lo pm_M39 (pc_q := 13) rfl rfl rfl ?_
  refine pm_R_op pm_M39 (pc_q := 14) (st_q := [.int 7, .ref 3, .int z5]) rfl rfl rfl ?_
  refine pm_R_iald pm_M39 (pc_q := 15) (v := 9) rfl ((T.old (by decide)).trans G.tb3) (T.lt (by decide)) rfl rfl rfl ?_
  refine pm_R_icmp pm_M39 (t := 22) (pc_q := 18) rfl rfl rfl (fun c11 => ?_) (fun c11 => ?_)
  · have B12 : sf_B (-2147483648) 9 z5 := sf_leL c11 (sf_any z5) sf_k9
    refine pm_R_op pm_M39 (pc_q := 23) (st_q := [.int 0]) rfl rfl rfl ?_
    refine pm_R_lo pm_M39 (pc_q := 24) (ls_q := [.ref 25, .int 2, .int 1, .int 0, pm_no, pm_no]) (st_q := []) rfl rfl rfl ?_
    refine pm_R_lo pm_M39 (pc_q := 25) rfl rfl rfl ?_
    refine pm_R_op pm_M39 (pc_q := 26) (st_q := [.int 3, .int 2]) rfl rfl rfl ?_
    refine pm_R_br pm_M39 (pc_q := 43) (st_q := []) rfl rfl ?_
    refine pm_R_op pm_M39 (pc_q := 44) (st_q := [.int 0]) rfl rfl rfl ?_
    refine pm_R_lo pm_M39 (pc_q := 46) (ls_q := [.ref 25, .int 2, .int 1, .int 0, .int 0, pm_no]) (st_q := []) rfl rfl rfl ?_
    refine pm_R_lo pm_M39 (pc_q := 47) rfl rfl rfl ?_
    refine pm_R_op pm_M39 (pc_q := 48) (st_q := [.int 2, .int 2]) rfl rfl rfl ?_
    refine pm_R_br pm_M39 (pc_q := 56) (st_q := []) rfl rfl ?_
    refine pm_R_lo pm_M39 (pc_q := 57) rfl rfl rfl ?_
    refine pm_R_op pm_M39 (pc_q := 58) (st_q := [.int 1, .int 1]) rfl rfl rfl ?_
    refine pm_R_br pm_M39 (pc_q := 61) (st_q := []) rfl rfl ?_
    refine pm_R_lo pm_M39 (pc_q := 62) rfl rfl rfl ?_
    refine pm_R_get pm_M39 (pc_q := 65) (v := .ref 29) rfl rfl T.e25 (by decide) (T.lt (by decide)) rfl rfl ?_
    refine pm_R_op pm_M39 (pc_q := 66) (st_q := [.int 1, .ref 29]) rfl rfl rfl ?_
    refine pm_R_iald pm_M39 (pc_q := 67) (v := z5) rfl e3 (T.lt (by decide)) rfl ez6 rfl ?_
    refine pm_R_lo pm_M39 (pc_q := 68) rfl rfl rfl ?_
    refine pm_R_get pm_M39 (pc_q := 71) (v := .ref 29) rfl rfl T.e25 (by decide) (T.lt (by decide)) rfl rfl ?_
    refine pm_R_op pm_M39 (pc_q := 72) (st_q := [.int 0, .ref 29, .int z5]) rfl rfl rfl ?_
    obtain ⟨z16, ez17⟩ : ∃ y, f2 (Int32.toNatClampNeg 0) = y := ⟨_, rfl⟩
    refine pm_R_iald pm_M39 (pc_q := 73) (v := z16) rfl e3 (T.lt (by decide)) rfl ez17 rfl ?_
    refine pm_R_icmp pm_M39 (t := 80) (pc_q := 76) rfl rfl rfl (fun c19 => ?_) (fun c19 => ?_)
    · skip
      refine pm_R_op pm_M39 (pc_q := 81) (st_q := [.int 0]) rfl rfl rfl ?_
      refine pm_R_lo pm_M39 (pc_q := 83) (ls_q := [.ref 25, .int 2, .int 1, .int 0, .int 0, .int 0]) (st_q := []) rfl rfl rfl ?_
      refine pm_R_lo pm_M39 (pc_q := 84) rfl rfl rfl ?_
      refine pm_R_br pm_M39 (pc_q := 87) (st_q := []) rfl rfl ?_
      refine pm_R_lo pm_M39 (pc_q := 89) rfl rfl rfl ?_
      refine pm_R_br pm_M39 (pc_q := 92) (st_q := []) rfl rfl ?_
      refine pm_R_lo pm_M39 (pc_q := 94) rfl rfl rfl ?_
      refine pm_R_br pm_M39 (pc_q := 109) (st_q := []) rfl rfl ?_
      exact pm_R_ret pm_M39 (r := none) (pm_q39_1 (Nat.le_of_ble_eq_true rfl)) rfl (K m h T (cl_F.refl (ck := ck) (A := [25]) (n := 0) (s := 0) T.1) (rf_W.refl [3, 4] m) (fun g eg z => by rw [e3] at eg; cases eg; exact ⟨z, trivial, by rw [ez6]; exact (cl_aux63 _ (Int32.le_iff_toInt_le.mp c11))⟩))
    · have B20 : sf_B (-2147483648) 9 z16 := sf_eqR (Classical.not_not.mp c19) B12
      refine pm_R_op pm_M39 (pc_q := 77) (st_q := [.int 1]) rfl rfl rfl ?_
      refine pm_R_br pm_M39 (pc_q := 81) rfl rfl ?_
      refine pm_R_lo pm_M39 (pc_q := 83) (ls_q := [.ref 25, .int 2, .int 1, .int 0, .int 0, .int 1]) (st_q := []) rfl rfl rfl ?_
      refine pm_R_lo pm_M39 (pc_q := 84) rfl rfl rfl ?_
      refine pm_R_br pm_M39 (pc_q := 87) (st_q := []) rfl rfl ?_
      refine pm_R_lo pm_M39 (pc_q := 89) rfl rfl rfl ?_
      refine pm_R_br pm_M39 (pc_q := 92) (st_q := []) rfl rfl ?_
      refine pm_R_lo pm_M39 (pc_q := 94) rfl rfl rfl ?_
      refine pm_R_br pm_M39 (pc_q := 97) (st_q := []) rfl rfl ?_
      refine pm_R_lo pm_M39 (pc_q := 98) rfl rfl rfl ?_
      refine pm_R_op pm_M39 (pc_q := 99) (st_q := [.int 2, .ref 25]) rfl rfl rfl ?_
      refine pm_R_lo pm_M39 (pc_q := 100) rfl rfl rfl ?_
      refine pm_R_get pm_M39 (pc_q := 103) (v := .ref 30) (pm_q39_1 (Nat.le_of_ble_eq_true rfl)) rfl T.e25 (by decide) (T.lt (by decide)) rfl rfl ?_
      have B21 : sf_B 0 600 (m 11) := T.B 11
      refine pm_R_get pm_M39 (pc_q := 106) (v := .int (m 11)) (pm_q39_1 (Nat.le_of_ble_eq_true rfl)) rfl T.e30 (by decide) (T.lt (by decide)) rfl rfl ?_
      refine pm_R_cv pm_M39 (pc_q := 109) (a := 25) (ra := [.int (m 11), .int 2]) (rest := []) (ls_q := [.ref 25, .int 2, .int (m 11)]) (pm_q39_1 (Nat.le_of_ble_eq_true rfl)) rfl (Or.inl rfl) pm_M21 T.e25 rfl (by decide) (T.lt (by decide)) rfl rfl (Nat.le_of_ble_eq_true rfl) rfl rfl ?_
      refine pm_R_lo pm_M21 (pc_q := 1) rfl rfl rfl ?_
      refine pm_R_get pm_M21 (pc_q := 4) (v := .int (m 3)) rfl rfl T.e25 (by decide) (T.lt (by decide)) rfl rfl ?_
      refine pm_R_ifc pm_M21 (t := 17) (pc_q := 7) rfl rfl rfl (fun c22 => ?_) (fun c22 => ?_)
      · have B23 : sf_B 1 4 (m 3) := sf_neL0 c22 sf_k0 B1
        refine pm_R_ret pm_M21 (r := none) rfl rfl ?_
        show pm_R _ 39 109 [.ref 25, .int 2, .int 1, .int 0, .int 0, .int 1] [] _ _
        exact pm_R_ret pm_M39 (r := none) (pm_q39_1 (Nat.le_of_ble_eq_true rfl)) rfl (K m h T (cl_F.refl (ck := ck) (A := [25]) (n := 0) (s := 0) T.1) (rf_W.refl [3, 4] m) (fun g eg z => sf_pos B23 (by decide) z))
      · have B24 : sf_B 0 0 (m 3) := sf_eqL (Classical.not_not.mp c22) sf_k0
        refine pm_R_lo pm_M21 (pc_q := 8) rfl rfl rfl ?_
        refine pm_R_lo pm_M21 (pc_q := 9) rfl rfl rfl ?_
        refine cl_R_put25 G pm_M21 T (k := 3) (pc_q := 12) rfl rfl rfl (by decide) rfl rfl (sf_weak sf_k2 (by decide) (by decide)) rfl rfl rfl rfl rfl (fun h25 m28 em29 T26 F27 => ?_)
        have F30 := F27.cl (ck := ck) T.1
        have F31 := (cl_F.refl (ck := ck) (A := [25]) (n := 0) (s := 0) T.1).trans (N := 0) (S := 0) F30 (by decide) (by decide) (by decide)
        have B32 : sf_B 2 2 (m28 3) := by rw [em29]; exact sf_k2
        have W34 : rf_W [3, 4] m m28 := by rw [em29]; exact (rf_W.refl [3, 4] m).put (by decide)
        refine pm_R_lo pm_M21 (pc_q := 13) rfl rfl rfl ?_
        refine pm_R_lo pm_M21 (pc_q := 14) rfl rfl rfl ?_
        refine cl_R_put25 G pm_M21 T26 (k := 4) (pc_q := 17) rfl rfl rfl (by decide) rfl rfl (sf_weak B21 (by decide) (by decide)) rfl rfl rfl rfl rfl (fun h35 m38 em39 T36 F37 => ?_)
        have F40 := F37.cl (ck := ck) T26.1
        have F41 := F31.trans (N := 0) (S := 0) F40 (by decide) (by decide) (by decide)
        have B42 : sf_B 2 2 (m38 3) := by rw [em39]; exact B32
        have ek43 : (m38 3).toInt = ((m28 3)).toInt := by rw [em39]; rfl
        have B44 : sf_B 0 600 (m38 4) := by rw [em39]; exact B21
        have ek45 : (m38 4).toInt = ((m 11)).toInt := by rw [em39]; rfl
        have W46 : rf_W [3, 4] m m38 := by rw [em39]; exact W34.put (by decide)
        refine pm_R_ret pm_M21 (r := none) rfl rfl ?_
        show pm_R _ 39 109 [.ref 25, .int 2, .int 1, .int 0, .int 0, .int 1] [] _ _
        exact pm_R_ret pm_M39 (r := none) (pm_q39_1 (Nat.le_of_ble_eq_true rfl)) rfl (K m38 h35 T36 F41 W46 (fun g eg z => sf_pos B42 (by decide) z))
  · have B47 : sf_B 10 2147483647 z5 := sf_ltR (Int32.not_le.mp c11) sf_k9 (sf_any z5)
    refine pm_R_op pm_M39 (pc_q := 19) (st_q := [.int 1]) rfl rfl rfl ?_
    refine pm_R_br pm_M39 (pc_q := 23) rfl rfl ?_
    refine pm_R_lo pm_M39 (pc_q := 24) (ls_q := [.ref 25, .int 2, .int 1, .int 1, pm_no, pm_no]) (st_q := []) rfl rfl rfl ?_
    refine pm_R_lo pm_M39 (pc_q := 25) rfl rfl rfl ?_
    refine pm_R_op pm_M39 (pc_q := 26) (st_q := [.int 3, .int 2]) rfl rfl rfl ?_
    refine pm_R_br pm_M39 (pc_q := 43) (st_q := []) rfl rfl ?_
    refine pm_R_op pm_M39 (pc_q := 44) (st_q := [.int 0]) rfl rfl rfl ?_
    refine pm_R_lo pm_M39 (pc_q := 46) (ls_q := [.ref 25, .int 2, .int 1, .int 1, .int 0, pm_no]) (st_q := []) rfl rfl rfl ?_
    refine pm_R_lo pm_M39 (pc_q := 47) rfl rfl rfl ?_
    refine pm_R_op pm_M39 (pc_q := 48) (st_q := [.int 2, .int 2]) rfl rfl rfl ?_
    refine pm_R_br pm_M39 (pc_q := 56) (st_q := []) rfl rfl ?_
    refine pm_R_lo pm_M39 (pc_q := 57) rfl rfl rfl ?_
    refine pm_R_op pm_M39 (pc_q := 58) (st_q := [.int 1, .int 1]) rfl rfl rfl ?_
    refine pm_R_br pm_M39 (pc_q := 61) (st_q := []) rfl rfl ?_
    refine pm_R_lo pm_M39 (pc_q := 62) rfl rfl rfl ?_
    refine pm_R_get pm_M39 (pc_q := 65) (v := .ref 29) rfl rfl T.e25 (by decide) (T.lt (by decide)) rfl rfl ?_
    refine pm_R_op pm_M39 (pc_q := 66) (st_q := [.int 1, .ref 29]) rfl rfl rfl ?_
    refine pm_R_iald pm_M39 (pc_q := 67) (v := z5) rfl e3 (T.lt (by decide)) rfl ez6 rfl ?_
    refine pm_R_lo pm_M39 (pc_q := 68) rfl rfl rfl ?_
    refine pm_R_get pm_M39 (pc_q := 71) (v := .ref 29) rfl rfl T.e25 (by decide) (T.lt (by decide)) rfl rfl ?_
    refine pm_R_op pm_M39 (pc_q := 72) (st_q := [.int 0, .ref 29, .int z5]) rfl rfl rfl ?_
    obtain ⟨z51, ez52⟩ : ∃ y, f2 (Int32.toNatClampNeg 0) = y := ⟨_, rfl⟩
    refine pm_R_iald pm_M39 (pc_q := 73) (v := z51) rfl e3 (T.lt (by decide)) rfl ez52 rfl ?_
    refine pm_R_icmp pm_M39 (t := 80) (pc_q := 76) rfl rfl rfl (fun c54 => ?_) (fun c54 => ?_)
    · skip
      refine pm_R_op pm_M39 (pc_q := 81) (st_q := [.int 0]) rfl rfl rfl ?_
      refine pm_R_lo pm_M39 (pc_q := 83) (ls_q := [.ref 25, .int 2, .int 1, .int 1, .int 0, .int 0]) (st_q := []) rfl rfl rfl ?_
      refine pm_R_lo pm_M39 (pc_q := 84) rfl rfl rfl ?_
      refine pm_R_br pm_M39 (pc_q := 97) (st_q := []) rfl rfl ?_
      refine pm_R_lo pm_M39 (pc_q := 98) rfl rfl rfl ?_
      refine pm_R_op pm_M39 (pc_q := 99) (st_q := [.int 2, .ref 25]) rfl rfl rfl ?_
      refine pm_R_lo pm_M39 (pc_q := 100) rfl rfl rfl ?_
      refine pm_R_get pm_M39 (pc_q := 103) (v := .ref 30) (pm_q39_1 (Nat.le_of_ble_eq_true rfl)) rfl T.e25 (by decide) (T.lt (by decide)) rfl rfl ?_
      have B55 : sf_B 0 600 (m 11) := T.B 11
      refine pm_R_get pm_M39 (pc_q := 106) (v := .int (m 11)) (pm_q39_1 (Nat.le_of_ble_eq_true rfl)) rfl T.e30 (by decide) (T.lt (by decide)) rfl rfl ?_
      refine pm_R_cv pm_M39 (pc_q := 109) (a := 25) (ra := [.int (m 11), .int 2]) (rest := []) (ls_q := [.ref 25, .int 2, .int (m 11)]) (pm_q39_1 (Nat.le_of_ble_eq_true rfl)) rfl (Or.inl rfl) pm_M21 T.e25 rfl (by decide) (T.lt (by decide)) rfl rfl (Nat.le_of_ble_eq_true rfl) rfl rfl ?_
      refine pm_R_lo pm_M21 (pc_q := 1) rfl rfl rfl ?_
      refine pm_R_get pm_M21 (pc_q := 4) (v := .int (m 3)) rfl rfl T.e25 (by decide) (T.lt (by decide)) rfl rfl ?_
      refine pm_R_ifc pm_M21 (t := 17) (pc_q := 7) rfl rfl rfl (fun c56 => ?_) (fun c56 => ?_)
      · have B57 : sf_B 1 4 (m 3) := sf_neL0 c56 sf_k0 B1
        refine pm_R_ret pm_M21 (r := none) rfl rfl ?_
        show pm_R _ 39 109 [.ref 25, .int 2, .int 1, .int 1, .int 0, .int 0] [] _ _
        exact pm_R_ret pm_M39 (r := none) (pm_q39_1 (Nat.le_of_ble_eq_true rfl)) rfl (K m h T (cl_F.refl (ck := ck) (A := [25]) (n := 0) (s := 0) T.1) (rf_W.refl [3, 4] m) (fun g eg z => sf_pos B57 (by decide) z))
      · have B58 : sf_B 0 0 (m 3) := sf_eqL (Classical.not_not.mp c56) sf_k0
        refine pm_R_lo pm_M21 (pc_q := 8) rfl rfl rfl ?_
        refine pm_R_lo pm_M21 (pc_q := 9) rfl rfl rfl ?_
        refine cl_R_put25 G pm_M21 T (k := 3) (pc_q := 12) rfl rfl rfl (by decide) rfl rfl (sf_weak sf_k2 (by decide) (by decide)) rfl rfl rfl rfl rfl (fun h59 m62 em63 T60 F61 => ?_)
        have F64 := F61.cl (ck := ck) T.1
        have F65 := (cl_F.refl (ck := ck) (A := [25]) (n := 0) (s := 0) T.1).trans (N := 0) (S := 0) F64 (by decide) (by decide) (by decide)
        have B66 : sf_B 2 2 (m62 3) := by rw [em63]; exact sf_k2
        have W68 : rf_W [3, 4] m m62 := by rw [em63]; exact (rf_W.refl [3, 4] m).put (by decide)
        refine pm_R_lo pm_M21 (pc_q := 13) rfl rfl rfl ?_
        refine pm_R_lo pm_M21 (pc_q := 14) rfl rfl rfl ?_
        refine cl_R_put25 G pm_M21 T60 (k := 4) (pc_q := 17) rfl rfl rfl (by decide) rfl rfl (sf_weak B55 (by decide) (by decide)) rfl rfl rfl rfl rfl (fun h69 m72 em73 T70 F71 => ?_)
        have F74 := F71.cl (ck := ck) T60.1
        have F75 := F65.trans (N := 0) (S := 0) F74 (by decide) (by decide) (by decide)
        have B76 : sf_B 2 2 (m72 3) := by rw [em73]; exact B66
        have ek77 : (m72 3).toInt = ((m62 3)).toInt := by rw [em73]; rfl
        have B78 : sf_B 0 600 (m72 4) := by rw [em73]; exact B55
        have ek79 : (m72 4).toInt = ((m 11)).toInt := by rw [em73]; rfl
        have W80 : rf_W [3, 4] m m72 := by rw [em73]; exact W68.put (by decide)
        refine pm_R_ret pm_M21 (r := none) rfl rfl ?_
        show pm_R _ 39 109 [.ref 25, .int 2, .int 1, .int 1, .int 0, .int 0] [] _ _
        exact pm_R_ret pm_M39 (r := none) (pm_q39_1 (Nat.le_of_ble_eq_true rfl)) rfl (K m72 h69 T70 F75 W80 (fun g eg z => sf_pos B76 (by decide) z))
    · have B81 : sf_B 10 2147483647 z51 := sf_eqR (Classical.not_not.mp c54) B47
      refine pm_R_op pm_M39 (pc_q := 77) (st_q := [.int 1]) rfl rfl rfl ?_
      refine pm_R_br pm_M39 (pc_q := 81) rfl rfl ?_
      refine pm_R_lo pm_M39 (pc_q := 83) (ls_q := [.ref 25, .int 2, .int 1, .int 1, .int 0, .int 1]) (st_q := []) rfl rfl rfl ?_
      refine pm_R_lo pm_M39 (pc_q := 84) rfl rfl rfl ?_
      refine pm_R_br pm_M39 (pc_q := 97) (st_q := []) rfl rfl ?_
      refine pm_R_lo pm_M39 (pc_q := 98) rfl rfl rfl ?_
      refine pm_R_op pm_M39 (pc_q := 99) (st_q := [.int 2, .ref 25]) rfl rfl rfl ?_
      refine pm_R_lo pm_M39 (pc_q := 100) rfl rfl rfl ?_
      refine pm_R_get pm_M39 (pc_q := 103) (v := .ref 30) (pm_q39_1 (Nat.le_of_ble_eq_true rfl)) rfl T.e25 (by decide) (T.lt (by decide)) rfl rfl ?_
      have B82 : sf_B 0 600 (m 11) := T.B 11
      refine pm_R_get pm_M39 (pc_q := 106) (v := .int (m 11)) (pm_q39_1 (Nat.le_of_ble_eq_true rfl)) rfl T.e30 (by decide) (T.lt (by decide)) rfl rfl ?_
      refine pm_R_cv pm_M39 (pc_q := 109) (a := 25) (ra := [.int (m 11), .int 2]) (rest := []) (ls_q := [.ref 25, .int 2, .int (m 11)]) (pm_q39_1 (Nat.le_of_ble_eq_true rfl)) rfl (Or.inl rfl) pm_M21 T.e25 rfl (by decide) (T.lt (by decide)) rfl rfl (Nat.le_of_ble_eq_true rfl) rfl rfl ?_
      refine pm_R_lo pm_M21 (pc_q := 1) rfl rfl rfl ?_
      refine pm_R_get pm_M21 (pc_q := 4) (v := .int (m 3)) rfl rfl T.e25 (by decide) (T.lt (by decide)) rfl rfl ?_
      refine pm_R_ifc pm_M21 (t := 17) (pc_q := 7) rfl rfl rfl (fun c83 => ?_) (fun c83 => ?_)
      · have B84 : sf_B 1 4 (m 3) := sf_neL0 c83 sf_k0 B1
        refine pm_R_ret pm_M21 (r := none) rfl rfl ?_
        show pm_R _ 39 109 [.ref 25, .int 2, .int 1, .int 1, .int 0, .int 1] [] _ _
        exact pm_R_ret pm_M39 (r := none) (pm_q39_1 (Nat.le_of_ble_eq_true rfl)) rfl (K m h T (cl_F.refl (ck := ck) (A := [25]) (n := 0) (s := 0) T.1) (rf_W.refl [3, 4] m) (fun g eg z => sf_pos B84 (by decide) z))
      · have B85 : sf_B 0 0 (m 3) := sf_eqL (Classical.not_not.mp c83) sf_k0
        refine pm_R_lo pm_M21 (pc_q := 8) rfl rfl rfl ?_
        refine pm_R_lo pm_M21 (pc_q := 9) rfl rfl rfl ?_
        refine cl_R_put25 G pm_M21 T (k := 3) (pc_q := 12) rfl rfl rfl (by decide) rfl rfl (sf_weak sf_k2 (by decide) (by decide)) rfl rfl rfl rfl rfl (fun h86 m89 em90 T87 F88 => ?_)
        have F91 := F88.cl (ck := ck) T.1
        have F92 := (cl_F.refl (ck := ck) (A := [25]) (n := 0) (s := 0) T.1).trans (N := 0) (S := 0) F91 (by decide) (by decide) (by decide)
        have B93 : sf_B 2 2 (m89 3) := by rw [em90]; exact sf_k2
        have W95 : rf_W [3, 4] m m89 := by rw [em90]; exact (rf_W.refl [3, 4] m).put (by decide)
        refine pm_R_lo pm_M21 (pc_q := 13) rfl rfl rfl ?_
        refine pm_R_lo pm_M21 (pc_q := 14) rfl rfl rfl ?_
        refine cl_R_put25 G pm_M21 T87 (k := 4) (pc_q := 17) rfl rfl rfl (by decide) rfl rfl (sf_weak B82 (by decide) (by decide)) rfl rfl rfl rfl rfl (fun h96 m99 em100 T97 F98 => ?_)
        have F101 := F98.cl (ck := ck) T87.1
        have F102 := F92.trans (N := 0) (S := 0) F101 (by decide) (by decide) (by decide)
        have B103 : sf_B 2 2 (m99 3) := by rw [em100]; exact B93
        have ek104 : (m99 3).toInt = ((m89 3)).toInt := by rw [em100]; rfl
        have B105 : sf_B 0 600 (m99 4) := by rw [em100]; exact B82
        have ek106 : (m99 4).toInt = ((m 11)).toInt := by rw [em100]; rfl
        have W107 : rf_W [3, 4] m m99 := by rw [em100]; exact W95.put (by decide)
        refine pm_R_ret pm_M21 (r := none) rfl rfl ?_
        show pm_R _ 39 109 [.ref 25, .int 2, .int 1, .int 1, .int 0, .int 1] [] _ _
        exact pm_R_ret pm_M39 (r := none) (pm_q39_1 (Nat.le_of_ble_eq_true rfl)) rfl (K m99 h96 T97 F102 W107 (fun g eg z => sf_pos B103 (by decide) z))
