set_option maxRecDepth 100000 in
set_option maxHeartbeats 4000000 in
/-- SilentTableModel.looks -/
theorem rf_c258 {d : Nat} {m : Nat → Int32} {w : Int64} {h : pm_H} {Q : Option Value → pm_H → Prop} {a0 : Int32} {a1 : Int32} {a2 : Int32} (T : rf_T m w h)  (K : ∀ (r : Int32) (m_q : Nat → Int32) (w_q : Int64) (h_q : pm_H), rf_T m_q w_q h_q → rf_G [41, 67, 68] h h_q → rf_W [0, 42, 43, 44] m m_q → Q (some (.int r)) h_q) : pm_R (d + 3) 258 0 [.ref 41, .int a0, .int a1, .int a2] [] h Q := by
  refine pm_R_lo pm_M258 (pc_q := 1) rfl rfl rfl ?_
  refine pm_R_op pm_M258 (pc_q := 2) (st_q := [.int 0, .ref 41]) rfl rfl rfl ?_
  refine rf_R_put pm_M258 T (pc_q := 5) rfl rfl rfl (by decide) rfl rfl sf_k0 rfl rfl (fun h1 m4 em5 T2 F3 => ?_)
  have F6 := (rf_G.refl [41, 67, 68] h).trans F3 (by decide)
  have B7 : sf_B 0 0 (m4 0) := by rw [em5]; exact sf_k0
  have W9 : rf_W [0, 42, 43, 44] m m4 := by rw [em5]; exact (rf_W.refl [0, 42, 43, 44] m).put (by decide)
  refine pm_R_lo pm_M258 (pc_q := 6) rfl rfl rfl ?_
  refine pm_R_lo pm_M258 (pc_q := 7) rfl rfl rfl ?_
  refine pm_R_cv pm_M258 (pc_q := 10) (a := 41) (ra := [.int a0]) (rest := []) (ls_q := [.ref 41, .int a0, pm_no, pm_no, pm_no, pm_no]) rfl rfl (Or.inl rfl) pm_M254 T2.2.1 rfl (by decide) (Nat.lt_of_lt_of_le (by decide) T2.1) rfl rfl (Nat.le_of_ble_eq_true rfl) rfl rfl ?_
  refine rf_c254 (d := d + 0) T2  (fun r10 m12 w13 h14 T15 F16 W17 B11 => ?_)
  have F18 := F6.trans F16 (by decide)
  have W19 : rf_W [0, 42, 43, 44] m m12 := W9.trans W17 (by decide)
  show pm_R _ 258 10 [.ref 41, .int a0, .int a1, .int a2] [.int r10] _ _
  refine pm_R_ifc pm_M258 (t := 47) (pc_q := 13) rfl rfl rfl (fun c20 => ?_) (fun c20 => ?_)
  · have B21 : sf_B 0 0 r10 := sf_eqL c20 sf_k0
    refine pm_R_op pm_M258 (pc_q := 49) (st_q := [.int (-2)]) rfl rfl rfl ?_
    exact pm_R_ret pm_M258 (r := some (.int (-2))) rfl rfl (K (-2) m12 w13 h14 T15 F18 W19)
  · have B22 : sf_B 1 1 r10 := sf_neL0 c20 sf_k0 B11
    refine pm_R_lo pm_M258 (pc_q := 14) rfl rfl rfl ?_
    refine pm_R_op pm_M258 (pc_q := 15) (st_q := [.int 0, .int a1]) rfl rfl rfl ?_
    refine pm_R_lo pm_M258 (pc_q := 16) rfl rfl rfl ?_
    have B23 : sf_B 0 50 (m12 43) := T15.2.2.1 43
    refine rf_R_get pm_M258 T15 (pc_q := 19) (v := .int (m12 43)) rfl rfl rfl rfl ?_
    refine pm_R_cs pm_M258 (pc_q := 22) (ra := [.int (m12 43), .int 0, .int a1]) (rest := []) (ls_q := [.int a1, .int 0, .int (m12 43)]) rfl rfl (Or.inl rfl) pm_M174 rfl rfl (Nat.le_of_ble_eq_true rfl) rfl rfl ?_
    refine pm_R_lo pm_M174 (pc_q := 1) rfl rfl rfl ?_
    refine pm_R_lo pm_M174 (pc_q := 2) rfl rfl rfl ?_
    refine pm_R_icmp pm_M174 (t := 14) (pc_q := 5) rfl rfl rfl (fun c24 => ?_) (fun c24 => ?_)
    · have B25 : sf_B (-2147483648) (-1) a1 := sf_ltL c24 (sf_any a1) sf_k0
      refine pm_R_op pm_M174 (pc_q := 15) (st_q := [.int 0]) rfl rfl rfl ?_
      refine pm_R_ret pm_M174 (r := some (.int 0)) rfl rfl ?_
      show pm_R _ 258 22 [.ref 41, .int a0, .int a1, .int a2] [.int 0] _ _
      refine pm_R_br pm_M258 (pc_q := 47) (st_q := []) rfl rfl ?_
      refine pm_R_op pm_M258 (pc_q := 49) (st_q := [.int (-2)]) rfl rfl rfl ?_
      exact pm_R_ret pm_M258 (r := some (.int (-2))) rfl rfl (K (-2) m12 w13 h14 T15 F18 W19)
    · have B26 : sf_B 0 2147483647 a1 := sf_leR (Int32.not_lt.mp c24) sf_k0 (sf_any a1)
      refine pm_R_lo pm_M174 (pc_q := 6) rfl rfl rfl ?_
      refine pm_R_lo pm_M174 (pc_q := 7) rfl rfl rfl ?_
      refine pm_R_icmp pm_M174 (t := 14) (pc_q := 10) rfl rfl rfl (fun c27 => ?_) (fun c27 => ?_)
      · have B28 : sf_B 1 2147483647 a1 := sf_ltR c27 B23 B26
        refine pm_R_op pm_M174 (pc_q := 15) (st_q := [.int 0]) rfl rfl rfl ?_
        refine pm_R_ret pm_M174 (r := some (.int 0)) rfl rfl ?_
        show pm_R _ 258 22 [.ref 41, .int a0, .int a1, .int a2] [.int 0] _ _
        refine pm_R_br pm_M258 (pc_q := 47) (st_q := []) rfl rfl ?_
        refine pm_R_op pm_M258 (pc_q := 49) (st_q := [.int (-2)]) rfl rfl rfl ?_
        exact pm_R_ret pm_M258 (r := some (.int (-2))) rfl rfl (K (-2) m12 w13 h14 T15 F18 W19)
      · have B29 : sf_B 0 50 a1 := sf_leL (Int32.not_lt.mp c27) B26 B23
        refine pm_R_op pm_M174 (pc_q := 11) (st_q := [.int 1]) rfl rfl rfl ?_
        refine pm_R_br pm_M174 (pc_q := 15) rfl rfl ?_
        refine pm_R_ret pm_M174 (r := some (.int 1)) rfl rfl ?_
        show pm_R _ 258 22 [.ref 41, .int a0, .int a1, .int a2] [.int 1] _ _
        refine pm_R_br pm_M258 (pc_q := 25) (st_q := []) rfl rfl ?_
        refine pm_R_lo pm_M258 (pc_q := 26) rfl rfl rfl ?_
        refine pm_R_lo pm_M258 (pc_q := 27) rfl rfl rfl ?_
        refine pm_R_cv pm_M258 (pc_q := 30) (a := 41) (ra := [.int a2]) (rest := []) (ls_q := [.ref 41, .int a2]) rfl rfl (Or.inl rfl) pm_M259 T15.2.1 rfl (by decide) (Nat.lt_of_lt_of_le (by decide) T15.1) rfl rfl (Nat.le_of_ble_eq_true rfl) rfl rfl ?_
        refine pm_R_lo pm_M259 (pc_q := 1) rfl rfl rfl ?_
        refine pm_R_op pm_M259 (pc_q := 2) (st_q := [.int 0, .int a2]) rfl rfl rfl ?_
        refine pm_R_lo pm_M259 (pc_q := 3) rfl rfl rfl ?_
        have B30 : sf_B 0 6 (m12 42) := T15.2.2.1 42
        refine rf_R_get pm_M259 T15 (pc_q := 6) (v := .int (m12 42)) rfl rfl rfl rfl ?_
        refine pm_R_op pm_M259 (pc_q := 7) (st_q := [.int 1, .int (m12 42), .int 0, .int a2]) rfl rfl rfl ?_
        refine sf_R_isub pm_M259 (pc_q := 8) rfl rfl B30 sf_k1 (by decide) (by decide) (fun z31 e32 B33 => ?_)
        refine pm_R_cs pm_M259 (pc_q := 11) (ra := [.int z31, .int 0, .int a2]) (rest := []) (ls_q := [.int a2, .int 0, .int z31]) rfl rfl (Or.inl rfl) pm_M174 rfl rfl (Nat.le_of_ble_eq_true rfl) rfl rfl ?_
        refine pm_R_lo pm_M174 (pc_q := 1) rfl rfl rfl ?_
        refine pm_R_lo pm_M174 (pc_q := 2) rfl rfl rfl ?_
        refine pm_R_icmp pm_M174 (t := 14) (pc_q := 5) rfl rfl rfl (fun c34 => ?_) (fun c34 => ?_)
        · have B35 : sf_B (-2147483648) (-1) a2 := sf_ltL c34 (sf_any a2) sf_k0
          refine pm_R_op pm_M174 (pc_q := 15) (st_q := [.int 0]) rfl rfl rfl ?_
          refine pm_R_ret pm_M174 (r := some (.int 0)) rfl rfl ?_
          show pm_R _ 259 11 [.ref 41, .int a2] [.int 0] _ _
          refine pm_R_ret pm_M259 (r := some (.int 0)) rfl rfl ?_
          show pm_R _ 258 30 [.ref 41, .int a0, .int a1, .int a2] [.int 0] _ _
          refine pm_R_br pm_M258 (pc_q := 47) (st_q := []) rfl rfl ?_
          refine pm_R_op pm_M258 (pc_q := 49) (st_q := [.int (-2)]) rfl rfl rfl ?_
          exact pm_R_ret pm_M258 (r := some (.int (-2))) rfl rfl (K (-2) m12 w13 h14 T15 F18 W19)
        · have B36 : sf_B 0 2147483647 a2 := sf_leR (Int32.not_lt.mp c34) sf_k0 (sf_any a2)
          refine pm_R_lo pm_M174 (pc_q := 6) rfl rfl rfl ?_
          refine pm_R_lo pm_M174 (pc_q := 7) rfl rfl rfl ?_
          refine pm_R_icmp pm_M174 (t := 14) (pc_q := 10) rfl rfl rfl (fun c37 => ?_) (fun c37 => ?_)
          · skip
            refine pm_R_op pm_M174 (pc_q := 15) (st_q := [.int 0]) rfl rfl rfl ?_
            refine pm_R_ret pm_M174 (r := some (.int 0)) rfl rfl ?_
            show pm_R _ 259 11 [.ref 41, .int a2] [.int 0] _ _
            refine pm_R_ret pm_M259 (r := some (.int 0)) rfl rfl ?_
            show pm_R _ 258 30 [.ref 41, .int a0, .int a1, .int a2] [.int 0] _ _
            refine pm_R_br pm_M258 (pc_q := 47) (st_q := []) rfl rfl ?_
            refine pm_R_op pm_M258 (pc_q := 49) (st_q := [.int (-2)]) rfl rfl rfl ?_
            exact pm_R_ret pm_M258 (r := some (.int (-2))) rfl rfl (K (-2) m12 w13 h14 T15 F18 W19)
          · have B38 : sf_B 0 5 a2 := sf_leL (Int32.not_lt.mp c37) B36 B33
            have B39 : sf_B 0 5 z31 := sf_leR (Int32.not_lt.mp c37) B36 B33
            refine pm_R_op pm_M174 (pc_q := 11) (st_q := [.int 1]) rfl rfl rfl ?_
            refine pm_R_br pm_M174 (pc_q := 15) rfl rfl ?_
            refine pm_R_ret pm_M174 (r := some (.int 1)) rfl rfl ?_
            show pm_R _ 259 11 [.ref 41, .int a2] [.int 1] _ _
            refine pm_R_ret pm_M259 (r := some (.int 1)) rfl rfl ?_
            show pm_R _ 258 30 [.ref 41, .int a0, .int a1, .int a2] [.int 1] _ _
            refine pm_R_br pm_M258 (pc_q := 33) (st_q := []) rfl rfl ?_
            refine pm_R_lo pm_M258 (pc_q := 34) rfl rfl rfl ?_
            refine rf_R_get pm_M258 T15 (pc_q := 37) (v := .ref 67) rfl rfl rfl rfl ?_
            refine pm_R_op pm_M258 (pc_q := 39) (st_q := [.int 6, .ref 67]) rfl rfl rfl ?_
            refine pm_R_lo pm_M258 (pc_q := 40) rfl rfl rfl ?_
            refine sf_R_imul pm_M258 (pc_q := 41) rfl rfl sf_k6 B29 (by decide) (by decide) (by decide) (fun z40 e41 B42 => ?_)
            refine pm_R_lo pm_M258 (pc_q := 42) rfl rfl rfl ?_
            refine sf_R_iadd pm_M258 (pc_q := 43) rfl rfl B42 B38 (by decide) (by decide) (fun z43 e44 B45 => ?_)
            obtain ⟨f46, e47⟩ := T15.2.2.2.1 67 (by decide) (by decide)
            refine rf_R_ild pm_M258 T15 (pc_q := 44) rfl e47 (by decide) (sf_in B45 (by decide) (by decide)) rfl (fun z49 ez50 => ?_)
            refine pm_R_br pm_M258 (pc_q := 49) rfl rfl ?_
            exact pm_R_ret pm_M258 (r := some (.int z49)) rfl (pm_ret_i _) (K z49 m12 w13 h14 T15 F18 W19)

set_option maxRecDepth 100000 in
set_option maxHeartbeats 4000000 in
/-- SilentTableModel.passed -/
theorem rf_c265 {d : Nat} {m : Nat → Int32} {w : Int64} {h : pm_H} {Q : Option Value → pm_H → Prop} {a0 : Int32} {a1 : Int32} {a2 : Int32} (T : rf_T m w h)  (K : ∀ (r : Int32) (m_q : Nat → Int32) (w_q : Int64) (h_q : pm_H), rf_T m_q w_q h_q → rf_G [41, 67, 68] h h_q → rf_W [0, 42, 43, 44] m m_q → sf_B (-1) 5 r → Q (some (.int r)) h_q) : pm_R (d + 4) 265 0 [.ref 41, .int a0, .int a1, .int a2] [] h Q := by
  refine pm_R_lo pm_M265 (pc_q := 1) rfl rfl rfl ?_
  refine pm_R_op pm_M265 (pc_q := 2) (st_q := [.int 0, .ref 41]) rfl rfl rfl ?_
  refine rf_R_put pm_M265 T (pc_q := 5) rfl rfl rfl (by decide) rfl rfl sf_k0 rfl rfl (fun h1 m4 em5 T2 F3 => ?_)
  have F6 := (rf_G.refl [41, 67, 68] h).trans F3 (by decide)
  have B7 : sf_B 0 0 (m4 0) := by rw [em5]; exact sf_k0
  have W9 : rf_W [0, 42, 43, 44] m m4 := by rw [em5]; exact (rf_W.refl [0, 42, 43, 44] m).put (by decide)
  refine pm_R_lo pm_M265 (pc_q := 6) rfl rfl rfl ?_
  refine pm_R_lo pm_M265 (pc_q := 7) rfl rfl rfl ?_
  refine pm_R_lo pm_M265 (pc_q := 8) rfl rfl rfl ?_
  refine pm_R_lo pm_M265 (pc_q := 9) rfl rfl rfl ?_
  refine pm_R_cv pm_M265 (pc_q := 12) (a := 41) (ra := [.int a2, .int a1, .int a0]) (rest := []) (ls_q := [.ref 41, .int a0, .int a1, .int a2, pm_no, pm_no, pm_no, pm_no, pm_no]) rfl rfl (Or.inl rfl) pm_M266 T2.2.1 rfl (by decide) (Nat.lt_of_lt_of_le (by decide) T2.1) rfl rfl (Nat.le_of_ble_eq_true rfl) rfl rfl ?_
  refine rf_c266 (d := d + 0) T2  (fun r10 m12 w13 h14 T15 F16 W17 B11 => ?_)
  have F18 := F6.trans F16 (by decide)
  have W19 : rf_W [0, 42, 43, 44] m m12 := W9.trans W17 (by decide)
  show pm_R _ 265 12 [.ref 41, .int a0, .int a1, .int a2] [.int r10] _ _
  exact pm_R_ret pm_M265 (r := some (.int r10)) rfl (pm_ret_i _) (K r10 m12 w13 h14 T15 F18 W19 B11)

set_option maxRecDepth 100000 in
set_option maxHeartbeats 4000000 in
/-- SilentTableModel.watch -/
theorem rf_c269 {d : Nat} {m : Nat → Int32} {w : Int64} {h : pm_H} {Q : Option Value → pm_H → Prop} {a0 : Int32} {a1 : Int32} {a2 : Int32} (T : rf_T m w h)  (K : ∀ (r : Int32) (m_q : Nat → Int32) (w_q : Int64) (h_q : pm_H), rf_T m_q w_q h_q → rf_G [41, 67, 68] h h_q → rf_W [0, 42, 43, 44] m m_q → sf_B (-1) 2147483647 r → Q (some (.int r)) h_q) : pm_R (d + 3) 269 0 [.ref 41, .int a0, .int a1, .int a2, pm_no, pm_no, pm_no, pm_no] [] h Q := by
  refine pm_R_lo pm_M269 (pc_q := 1) rfl rfl rfl ?_
  refine pm_R_op pm_M269 (pc_q := 2) (st_q := [.int 0, .ref 41]) rfl rfl rfl ?_
  refine rf_R_put pm_M269 T (pc_q := 5) rfl rfl rfl (by decide) rfl rfl sf_k0 rfl rfl (fun h1 m4 em5 T2 F3 => ?_)
  have F6 := (rf_G.refl [41, 67, 68] h).trans F3 (by decide)
  have B7 : sf_B 0 0 (m4 0) := by rw [em5]; exact sf_k0
  have W9 : rf_W [0, 42, 43, 44] m m4 := by rw [em5]; exact (rf_W.refl [0, 42, 43, 44] m).put (by decide)
  refine pm_R_lo pm_M269 (pc_q := 6) rfl rfl rfl ?_
  refine pm_R_lo pm_M269 (pc_q := 7) rfl rfl rfl ?_
  refine pm_R_cv pm_M269 (pc_q := 10) (a := 41) (ra := [.int a0]) (rest := []) (ls_q := [.ref 41, .int a0, pm_no, pm_no, pm_no, pm_no]) rfl rfl (Or.inl rfl) pm_M254 T2.2.1 rfl (by decide) (Nat.lt_of_lt_of_le (by decide) T2.1) rfl rfl (Nat.le_of_ble_eq_true rfl) rfl rfl ?_
  refine rf_c254 (d := d + 0) T2  (fun r10 m12 w13 h14 T15 F16 W17 B11 => ?_)
  have F18 := F6.trans F16 (by decide)
  have W19 : rf_W [0, 42, 43, 44] m m12 := W9.trans W17 (by decide)
  show pm_R _ 269 10 [.ref 41, .int a0, .int a1, .int a2, pm_no, pm_no, pm_no, pm_no] [.int r10] _ _
  refine pm_R_ifc pm_M269 (t := 29) (pc_q := 13) rfl rfl rfl (fun c20 => ?_) (fun c20 => ?_)
  · have B21 : sf_B 0 0 r10 := sf_eqL c20 sf_k0
    refine pm_R_op pm_M269 (pc_q := 30) (st_q := [.int (-1)]) rfl rfl rfl ?_
    exact pm_R_ret pm_M269 (r := some (.int (-1))) rfl rfl (K (-1) m12 w13 h14 T15 F18 W19 (sf_weak sf_kn1 (by decide) (by decide)))
  · have B22 : sf_B 1 1 r10 := sf_neL0 c20 sf_k0 B11
    refine pm_R_lo pm_M269 (pc_q := 14) rfl rfl rfl ?_
    refine pm_R_lo pm_M269 (pc_q := 15) rfl rfl rfl ?_
    refine pm_R_cv pm_M269 (pc_q := 18) (a := 41) (ra := [.int a1]) (rest := []) (ls_q := [.ref 41, .int a1]) rfl rfl (Or.inl rfl) pm_M259 T15.2.1 rfl (by decide) (Nat.lt_of_lt_of_le (by decide) T15.1) rfl rfl (Nat.le_of_ble_eq_true rfl) rfl rfl ?_
    refine pm_R_lo pm_M259 (pc_q := 1) rfl rfl rfl ?_
    refine pm_R_op pm_M259 (pc_q := 2) (st_q := [.int 0, .int a1]) rfl rfl rfl ?_
    refine pm_R_lo pm_M259 (pc_q := 3) rfl rfl rfl ?_
    have B23 : sf_B 0 6 (m12 42) := T15.2.2.1 42
    refine rf_R_get pm_M259 T15 (pc_q := 6) (v := .int (m12 42)) rfl rfl rfl rfl ?_
    refine pm_R_op pm_M259 (pc_q := 7) (st_q := [.int 1, .int (m12 42), .int 0, .int a1]) rfl rfl rfl ?_
    refine sf_R_isub pm_M259 (pc_q := 8) rfl rfl B23 sf_k1 (by decide) (by decide) (fun z24 e25 B26 => ?_)
    refine pm_R_cs pm_M259 (pc_q := 11) (ra := [.int z24, .int 0, .int a1]) (rest := []) (ls_q := [.int a1, .int 0, .int z24]) rfl rfl (Or.inl rfl) pm_M174 rfl rfl (Nat.le_of_ble_eq_true rfl) rfl rfl ?_
    refine pm_R_lo pm_M174 (pc_q := 1) rfl rfl rfl ?_
    refine pm_R_lo pm_M174 (pc_q := 2) rfl rfl rfl ?_
    refine pm_R_icmp pm_M174 (t := 14) (pc_q := 5) rfl rfl rfl (fun c27 => ?_) (fun c27 => ?_)
    · have B28 : sf_B (-2147483648) (-1) a1 := sf_ltL c27 (sf_any a1) sf_k0
      refine pm_R_op pm_M174 (pc_q := 15) (st_q := [.int 0]) rfl rfl rfl ?_
      refine pm_R_ret pm_M174 (r := some (.int 0)) rfl rfl ?_
      show pm_R _ 259 11 [.ref 41, .int a1] [.int 0] _ _
      refine pm_R_ret pm_M259 (r := some (.int 0)) rfl rfl ?_
      show pm_R _ 269 18 [.ref 41, .int a0, .int a1, .int a2, pm_no, pm_no, pm_no, pm_no] [.int 0] _ _
      refine pm_R_br pm_M269 (pc_q := 29) (st_q := []) rfl rfl ?_
      refine pm_R_op pm_M269 (pc_q := 30) (st_q := [.int (-1)]) rfl rfl rfl ?_
      exact pm_R_ret pm_M269 (r := some (.int (-1))) rfl rfl (K (-1) m12 w13 h14 T15 F18 W19 (sf_weak sf_kn1 (by decide) (by decide)))
    · have B29 : sf_B 0 2147483647 a1 := sf_leR (Int32.not_lt.mp c27) sf_k0 (sf_any a1)
      refine pm_R_lo pm_M174 (pc_q := 6) rfl rfl rfl ?_
      refine pm_R_lo pm_M174 (pc_q := 7) rfl rfl rfl ?_
      refine pm_R_icmp pm_M174 (t := 14) (pc_q := 10) rfl rfl rfl (fun c30 => ?_) (fun c30 => ?_)
      · skip
        refine pm_R_op pm_M174 (pc_q := 15) (st_q := [.int 0]) rfl rfl rfl ?_
        refine pm_R_ret pm_M174 (r := some (.int 0)) rfl rfl ?_
        show pm_R _ 259 11 [.ref 41, .int a1] [.int 0] _ _
        refine pm_R_ret pm_M259 (r := some (.int 0)) rfl rfl ?_
        show pm_R _ 269 18 [.ref 41, .int a0, .int a1, .int a2, pm_no, pm_no, pm_no, pm_no] [.int 0] _ _
        refine pm_R_br pm_M269 (pc_q := 29) (st_q := []) rfl rfl ?_
        refine pm_R_op pm_M269 (pc_q := 30) (st_q := [.int (-1)]) rfl rfl rfl ?_
        exact pm_R_ret pm_M269 (r := some (.int (-1))) rfl rfl (K (-1) m12 w13 h14 T15 F18 W19 (sf_weak sf_kn1 (by decide) (by decide)))
      · have B31 : sf_B 0 5 a1 := sf_leL (Int32.not_lt.mp c30) B29 B26
        have B32 : sf_B 0 5 z24 := sf_leR (Int32.not_lt.mp c30) B29 B26
        refine pm_R_op pm_M174 (pc_q := 11) (st_q := [.int 1]) rfl rfl rfl ?_
        refine pm_R_br pm_M174 (pc_q := 15) rfl rfl ?_
        refine pm_R_ret pm_M174 (r := some (.int 1)) rfl rfl ?_
        show pm_R _ 259 11 [.ref 41, .int a1] [.int 1] _ _
        refine pm_R_ret pm_M259 (r := some (.int 1)) rfl rfl ?_
        show pm_R _ 269 18 [.ref 41, .int a0, .int a1, .int a2, pm_no, pm_no, pm_no, pm_no] [.int 1] _ _
        refine pm_R_br pm_M269 (pc_q := 21) (st_q := []) rfl rfl ?_
        refine pm_R_lo pm_M269 (pc_q := 22) rfl rfl rfl ?_
        refine rf_R_get pm_M269 T15 (pc_q := 25) (v := .int (m12 42)) rfl rfl rfl rfl ?_
        refine pm_R_op pm_M269 (pc_q := 26) (st_q := [.int 1, .int (m12 42)]) rfl rfl rfl ?_
        refine pm_R_icmp pm_M269 (t := 31) (pc_q := 29) rfl rfl rfl (fun c33 => ?_) (fun c33 => ?_)
        · skip
          refine pm_R_op pm_M269 (pc_q := 32) (st_q := [.int (-1)]) rfl rfl rfl ?_
          refine pm_R_lo pm_M269 (pc_q := 34) (ls_q := [.ref 41, .int a0, .int a1, .int a2, .int (-1), pm_no, pm_no, pm_no]) (st_q := []) rfl rfl rfl ?_
          refine pm_R_op pm_M269 (pc_q := 35) (st_q := [.int (-1)]) rfl rfl rfl ?_
          refine pm_R_lo pm_M269 (pc_q := 37) (ls_q := [.ref 41, .int a0, .int a1, .int a2, .int (-1), .int (-1), pm_no, pm_no]) (st_q := []) rfl rfl rfl ?_
          refine pm_R_op pm_M269 (pc_q := 38) (st_q := [.int 0]) rfl rfl rfl ?_
          refine pm_R_lo pm_M269 (pc_q := 40) (ls_q := [.ref 41, .int a0, .int a1, .int a2, .int (-1), .int (-1), .int 0, pm_no]) (st_q := []) rfl rfl rfl ?_
          have L_241 : ∀ (N : Nat) (x4_241 : Int32) (x5_241 : Int32) (x6_241 : Int32) (g7_241 : Value), sf_B (-1) 2147483647 x4_241 → sf_B (-1) 2147483647 x5_241 → sf_B 0 6 x6_241 → g7_241.category = 1 → (6 - x6_241.toInt).toNat = N → pm_R (d + 3) 269 40 [.ref 41, .int a0, .int a1, .int a2, .int x4_241, .int x5_241, .int x6_241, g7_241] [] h14 Q := by
            intro N
            induction N using Nat.strongRecOn with
            | ind N ih_241 =>
              intro x4_241 x5_241 x6_241 g7_241 Bx4_241 Bx5_241 Bx6_241 Cg7_241 hN_241
              refine pm_R_lo pm_M269 (pc_q := 42) rfl rfl rfl ?_
              refine pm_R_lo pm_M269 (pc_q := 43) rfl rfl rfl ?_
              refine rf_R_get pm_M269 T15 (pc_q := 46) (v := .int (m12 42)) rfl rfl rfl rfl ?_
              refine pm_R_icmp pm_M269 (t := 105) (pc_q := 49) rfl rfl rfl (fun c242 => ?_) (fun c242 => ?_)
              · skip
                refine pm_R_lo pm_M269 (pc_q := 106) rfl rfl rfl ?_
                refine pm_R_ifc pm_M269 (t := 114) (pc_q := 109) rfl rfl rfl (fun c243 => ?_) (fun c243 => ?_)
                · have B244 : sf_B 0 0 a2 := sf_eqL c243 sf_k0
                  refine pm_R_lo pm_M269 (pc_q := 116) rfl rfl rfl ?_
                  exact pm_R_ret pm_M269 (r := some (.int x4_241)) rfl (pm_ret_i _) (K x4_241 m12 w13 h14 T15 F18 W19 Bx4_241)
                · skip
                  refine pm_R_lo pm_M269 (pc_q := 111) rfl rfl rfl ?_
                  refine pm_R_br pm_M269 (pc_q := 116) rfl rfl ?_
                  exact pm_R_ret pm_M269 (r := some (.int x5_241)) rfl (pm_ret_i _) (K x5_241 m12 w13 h14 T15 F18 W19 Bx5_241)
              · have B245 : sf_B 0 5 x6_241 := sf_ltL (Int32.not_le.mp c242) Bx6_241 B23
                have B246 : sf_B 1 6 (m12 42) := sf_ltR (Int32.not_le.mp c242) Bx6_241 B23
                refine pm_R_lo pm_M269 (pc_q := 51) rfl rfl rfl ?_
                refine pm_R_lo pm_M269 (pc_q := 52) rfl rfl rfl ?_
                refine pm_R_icmp pm_M269 (t := 59) (pc_q := 55) rfl rfl rfl (fun c247 => ?_) (fun c247 => ?_)
                · skip
                  refine pm_R_lo pm_M269 (pc_q := 60) rfl rfl rfl ?_
                  refine pm_R_lo pm_M269 (pc_q := 62) rfl rfl rfl ?_
                  refine pm_R_cv pm_M269 (pc_q := 65) (a := 41) (ra := [.int x6_241]) (rest := []) (ls_q := [.ref 41, .int x6_241, pm_no, pm_no]) rfl rfl (Or.inl rfl) pm_M270 T15.2.1 rfl (by decide) (Nat.lt_of_lt_of_le (by decide) T15.1) rfl rfl (Nat.le_of_ble_eq_true rfl) rfl rfl ?_
                  refine rf_c270 (d := d + 0) T15  (fun r248 => ?_)
                  show pm_R _ 269 65 [.ref 41, .int a0, .int a1, .int a2, .int x4_241, .int x5_241, .int x6_241, g7_241] [.int r248] _ _
                  refine pm_R_lo pm_M269 (pc_q := 67) (ls_q := [.ref 41, .int a0, .int a1, .int a2, .int x4_241, .int x5_241, .int x6_241, .int r248]) (st_q := []) rfl rfl rfl ?_
                  refine pm_R_lo pm_M269 (pc_q := 69) rfl rfl rfl ?_
                  refine pm_R_lo pm_M269 (pc_q := 71) rfl rfl rfl ?_
                  refine pm_R_icmp pm_M269 (t := 79) (pc_q := 74) rfl rfl rfl (fun c256 => ?_) (fun c256 => ?_)
                  · skip
                    refine pm_R_lo pm_M269 (pc_q := 81) rfl rfl rfl ?_
                    refine pm_R_lo pm_M269 (pc_q := 83) (ls_q := [.ref 41, .int a0, .int a1, .int a2, .int x4_241, .int x5_241, .int x6_241, .int r248]) (st_q := []) rfl rfl rfl ?_
                    refine pm_R_lo pm_M269 (pc_q := 85) rfl rfl rfl ?_
                    refine pm_R_lo pm_M269 (pc_q := 87) rfl rfl rfl ?_
                    refine pm_R_icmp pm_M269 (t := 95) (pc_q := 90) rfl rfl rfl (fun c257 => ?_) (fun c257 => absurd (Int32.not_le.mp c257) (Int32.not_lt.mpr c256))
                    skip
                    refine pm_R_lo pm_M269 (pc_q := 97) rfl rfl rfl ?_
                    refine pm_R_lo pm_M269 (pc_q := 99) (ls_q := [.ref 41, .int a0, .int a1, .int a2, .int x4_241, .int x5_241, .int x6_241, .int r248]) (st_q := []) rfl rfl rfl ?_
                    refine sf_R_iinc pm_M269 (pc_q := 102) (ls_q := fun z => [.ref 41, .int a0, .int a1, .int a2, .int x4_241, .int x5_241, .int z, .int r248]) rfl B245 rfl (by decide) (by decide) (by decide) (fun _ => rfl) rfl (fun z258 e259 B260 => ?_)
                    show pm_R _ 269 102 [.ref 41, .int a0, .int a1, .int a2, .int x4_241, .int x5_241, .int z258, .int r248] [] _ _
                    refine pm_R_br pm_M269 (pc_q := 40) rfl rfl ?_
                    exact ih_241 _ (sf_up hN_241 e259 B245 (by decide) (by decide)) x4_241 x5_241 z258 (.int r248) Bx4_241 Bx5_241 (sf_weak B260 (by decide) (by decide)) rfl rfl
                  · have B261 : sf_B (-1) 2147483646 x5_241 := sf_ltL (Int32.not_le.mp c256) Bx5_241 (sf_any r248)
                    have B262 : sf_B 0 2147483647 r248 := sf_ltR (Int32.not_le.mp c256) Bx5_241 (sf_any r248)
                    refine pm_R_lo pm_M269 (pc_q := 76) rfl rfl rfl ?_
                    refine pm_R_br pm_M269 (pc_q := 81) rfl rfl ?_
                    refine pm_R_lo pm_M269 (pc_q := 83) (ls_q := [.ref 41, .int a0, .int a1, .int a2, .int x6_241, .int x5_241, .int x6_241, .int r248]) (st_q := []) rfl rfl rfl ?_
                    refine pm_R_lo pm_M269 (pc_q := 85) rfl rfl rfl ?_
                    refine pm_R_lo pm_M269 (pc_q := 87) rfl rfl rfl ?_
                    refine pm_R_icmp pm_M269 (t := 95) (pc_q := 90) rfl rfl rfl (fun c263 => absurd c263 (Int32.not_le.mpr (Int32.not_le.mp c256))) (fun c263 => ?_)
                    skip
                    refine pm_R_lo pm_M269 (pc_q := 92) rfl rfl rfl ?_
                    refine pm_R_br pm_M269 (pc_q := 97) rfl rfl ?_
                    refine pm_R_lo pm_M269 (pc_q := 99) (ls_q := [.ref 41, .int a0, .int a1, .int a2, .int x6_241, .int r248, .int x6_241, .int r248]) (st_q := []) rfl rfl rfl ?_
                    refine sf_R_iinc pm_M269 (pc_q := 102) (ls_q := fun z => [.ref 41, .int a0, .int a1, .int a2, .int x6_241, .int r248, .int z, .int r248]) rfl B245 rfl (by decide) (by decide) (by decide) (fun _ => rfl) rfl (fun z264 e265 B266 => ?_)
                    show pm_R _ 269 102 [.ref 41, .int a0, .int a1, .int a2, .int x6_241, .int r248, .int z264, .int r248] [] _ _
                    refine pm_R_br pm_M269 (pc_q := 40) rfl rfl ?_
                    exact ih_241 _ (sf_up hN_241 e265 B245 (by decide) (by decide)) x6_241 r248 z264 (.int r248) (sf_weak B245 (by decide) (by decide)) (sf_weak B262 (by decide) (by decide)) (sf_weak B266 (by decide) (by decide)) rfl rfl
                · refine pm_R_op pm_M269 (pc_q := 56) (st_q := [.int (-1)]) rfl rfl rfl ?_
                  refine pm_R_br pm_M269 (pc_q := 65) rfl rfl ?_
                  refine pm_R_lo pm_M269 (pc_q := 67) (ls_q := [.ref 41, .int a0, .int a1, .int a2, .int x4_241, .int x5_241, .int x6_241, .int (-1)]) (st_q := []) rfl rfl rfl ?_
                  refine pm_R_lo pm_M269 (pc_q := 69) rfl rfl rfl ?_
                  refine pm_R_lo pm_M269 (pc_q := 71) rfl rfl rfl ?_
                  refine pm_R_icmp pm_M269 (t := 79) (pc_q := 74) rfl rfl rfl (fun c267 => ?_) (fun c267 => absurd (Int32.not_le.mp c267) (sf_nlt Bx5_241 sf_kn1 (by decide)))
                  skip
                  refine pm_R_lo pm_M269 (pc_q := 81) rfl rfl rfl ?_
                  refine pm_R_lo pm_M269 (pc_q := 83) (ls_q := [.ref 41, .int a0, .int a1, .int a2, .int x4_241, .int x5_241, .int x6_241, .int (-1)]) (st_q := []) rfl rfl rfl ?_
                  refine pm_R_lo pm_M269 (pc_q := 85) rfl rfl rfl ?_
                  refine pm_R_lo pm_M269 (pc_q := 87) rfl rfl rfl ?_
                  refine pm_R_icmp pm_M269 (t := 95) (pc_q := 90) rfl rfl rfl (fun c268 => ?_) (fun c268 => absurd (Int32.not_le.mp c268) (sf_nlt Bx5_241 sf_kn1 (by decide)))
                  skip
                  refine pm_R_lo pm_M269 (pc_q := 97) rfl rfl rfl ?_
                  refine pm_R_lo pm_M269 (pc_q := 99) (ls_q := [.ref 41, .int a0, .int a1, .int a2, .int x4_241, .int x5_241, .int x6_241, .int (-1)]) (st_q := []) rfl rfl rfl ?_
                  refine sf_R_iinc pm_M269 (pc_q := 102) (ls_q := fun z => [.ref 41, .int a0, .int a1, .int a2, .int x4_241, .int x5_241, .int z, .int (-1)]) rfl B245 rfl (by decide) (by decide) (by decide) (fun _ => rfl) rfl (fun z269 e270 B271 => ?_)
                  show pm_R _ 269 102 [.ref 41, .int a0, .int a1, .int a2, .int x4_241, .int x5_241, .int z269, .int (-1)] [] _ _
                  refine pm_R_br pm_M269 (pc_q := 40) rfl rfl ?_
                  exact ih_241 _ (sf_up hN_241 e270 B245 (by decide) (by decide)) x4_241 x5_241 z269 (.int (-1)) Bx4_241 Bx5_241 (sf_weak B271 (by decide) (by decide)) rfl rfl
          exact L_241 _ (-1) (-1) 0 (pm_no) (sf_weak sf_kn1 (by decide) (by decide)) (sf_weak sf_kn1 (by decide) (by decide)) (sf_weak sf_k0 (by decide) (by decide)) rfl rfl
        · have B272 : sf_B 1 1 (m12 42) := sf_eqL (Classical.not_not.mp c33) sf_k1
          refine pm_R_op pm_M269 (pc_q := 30) (st_q := [.int (-1)]) rfl rfl rfl ?_
          exact pm_R_ret pm_M269 (r := some (.int (-1))) rfl rfl (K (-1) m12 w13 h14 T15 F18 W19 (sf_weak sf_kn1 (by decide) (by decide)))

theorem sf_aux27 (v0 v1 v2 : Int) (q0 : v0 = v1) (q1 : v2 = 25 * v0) : v2 = 25 * v1 + 0 := by omega
set_option maxRecDepth 100000 in
set_option maxHeartbeats 4000000 in
/-- SilentTableModel.law -/
theorem rf_c271 {d : Nat} {m : Nat → Int32} {w : Int64} {h : pm_H} {Q : Option Value → pm_H → Prop} {a0 : Int32} {a1 : Int32} {a2 : Int32} (T : rf_T m w h)  (K : ∀ (r : Int32) (m_q : Nat → Int32) (w_q : Int64) (h_q : pm_H), rf_T m_q w_q h_q → rf_G [41] h h_q → rf_W [0, 49] m m_q → Q (some (.int r)) h_q) : pm_R (d + 2) 271 0 [.ref 41, .int a0, .int a1, .int a2] [] h Q := by
  refine pm_R_lo pm_M271 (pc_q := 1) rfl rfl rfl ?_
  refine pm_R_op pm_M271 (pc_q := 2) (st_q := [.int 0, .ref 41]) rfl rfl rfl ?_
  refine rf_R_put pm_M271 T (pc_q := 5) rfl rfl rfl (by decide) rfl rfl sf_k0 rfl rfl (fun h1 m4 em5 T2 F3 => ?_)
  have F6 := (rf_G.refl [41] h).trans F3 (by decide)
  have B7 : sf_B 0 0 (m4 0) := by rw [em5]; exact sf_k0
  have W9 : rf_W [0, 49] m m4 := by rw [em5]; exact (rf_W.refl [0, 49] m).put (by decide)
  refine pm_R_lo pm_M271 (pc_q := 6) rfl rfl rfl ?_
  refine pm_R_op pm_M271 (pc_q := 7) (st_q := [.int 3, .ref 41]) rfl rfl rfl ?_
  refine pm_R_lo pm_M271 (pc_q := 8) rfl rfl rfl ?_
  refine pm_R_cv pm_M271 (pc_q := 11) (a := 41) (ra := [.int a0, .int 3]) (rest := []) (ls_q := [.ref 41, .int 3, .int a0]) rfl rfl (Or.inl rfl) pm_M177 T2.2.1 rfl (by decide) (Nat.lt_of_lt_of_le (by decide) T2.1) rfl rfl (Nat.le_of_ble_eq_true rfl) rfl rfl ?_
  refine pm_R_lo pm_M177 (pc_q := 1) rfl rfl rfl ?_
  refine pm_R_op pm_M177 (pc_q := 2) (st_q := [.int 0, .int a0]) rfl rfl rfl ?_
  refine pm_R_lo pm_M177 (pc_q := 3) rfl rfl rfl ?_
  refine rf_R_get pm_M177 T2 (pc_q := 6) (v := .ref 46) rfl rfl rfl rfl ?_
  refine pm_R_lo pm_M177 (pc_q := 7) rfl rfl rfl ?_
  obtain ⟨f10, e11, b12⟩ := T2.2.2.2.1 46 (by decide) (by decide)
  refine rf_R_ild pm_M177 T2 (pc_q := 8) rfl e11 (by decide) rfl rfl (fun z13 ez14 => ?_)
  have B15 : sf_B 0 2 z13 := ez14 ▸ (b12 3)
  refine pm_R_op pm_M177 (pc_q := 9) (st_q := [.int 1, .int z13, .int 0, .int a0]) rfl rfl rfl ?_
  refine sf_R_isub pm_M177 (pc_q := 10) rfl rfl B15 sf_k1 (by decide) (by decide) (fun z16 e17 B18 => ?_)
  refine pm_R_cs pm_M177 (pc_q := 13) (ra := [.int z16, .int 0, .int a0]) (rest := []) (ls_q := [.int a0, .int 0, .int z16]) rfl rfl (Or.inl rfl) pm_M174 rfl rfl (Nat.le_of_ble_eq_true rfl) rfl rfl ?_
  refine pm_R_lo pm_M174 (pc_q := 1) rfl rfl rfl ?_
  refine pm_R_lo pm_M174 (pc_q := 2) rfl rfl rfl ?_
  refine pm_R_icmp pm_M174 (t := 14) (pc_q := 5) rfl rfl rfl (fun c19 => ?_) (fun c19 => ?_)
  · have B20 : sf_B (-2147483648) (-1) a0 := sf_ltL c19 (sf_any a0) sf_k0
    refine pm_R_op pm_M174 (pc_q := 15) (st_q := [.int 0]) rfl rfl rfl ?_
    refine pm_R_ret pm_M174 (r := some (.int 0)) rfl rfl ?_
    show pm_R _ 177 13 [.ref 41, .int 3, .int a0] [.int 0] _ _
    refine pm_R_ret pm_M177 (r := some (.int 0)) rfl rfl ?_
    show pm_R _ 271 11 [.ref 41, .int a0, .int a1, .int a2] [.int 0] _ _
    refine pm_R_br pm_M271 (pc_q := 14) (st_q := []) rfl rfl ?_
    refine pm_R_op pm_M271 (pc_q := 16) (st_q := [.int (-2)]) rfl rfl rfl ?_
    exact pm_R_ret pm_M271 (r := some (.int (-2))) rfl rfl (K (-2) m4 w h1 T2 F6 W9)
  · have B21 : sf_B 0 2147483647 a0 := sf_leR (Int32.not_lt.mp c19) sf_k0 (sf_any a0)
    refine pm_R_lo pm_M174 (pc_q := 6) rfl rfl rfl ?_
    refine pm_R_lo pm_M174 (pc_q := 7) rfl rfl rfl ?_
    refine pm_R_icmp pm_M174 (t := 14) (pc_q := 10) rfl rfl rfl (fun c22 => ?_) (fun c22 => ?_)
    · skip
      refine pm_R_op pm_M174 (pc_q := 15) (st_q := [.int 0]) rfl rfl rfl ?_
      refine pm_R_ret pm_M174 (r := some (.int 0)) rfl rfl ?_
      show pm_R _ 177 13 [.ref 41, .int 3, .int a0] [.int 0] _ _
      refine pm_R_ret pm_M177 (r := some (.int 0)) rfl rfl ?_
      show pm_R _ 271 11 [.ref 41, .int a0, .int a1, .int a2] [.int 0] _ _
      refine pm_R_br pm_M271 (pc_q := 14) (st_q := []) rfl rfl ?_
      refine pm_R_op pm_M271 (pc_q := 16) (st_q := [.int (-2)]) rfl rfl rfl ?_
      exact pm_R_ret pm_M271 (r := some (.int (-2))) rfl rfl (K (-2) m4 w h1 T2 F6 W9)
    · have B23 : sf_B 0 1 a0 := sf_leL (Int32.not_lt.mp c22) B21 B18
      have B24 : sf_B 0 1 z16 := sf_leR (Int32.not_lt.mp c22) B21 B18
      refine pm_R_op pm_M174 (pc_q := 11) (st_q := [.int 1]) rfl rfl rfl ?_
      refine pm_R_br pm_M174 (pc_q := 15) rfl rfl ?_
      refine pm_R_ret pm_M174 (r := some (.int 1)) rfl rfl ?_
      show pm_R _ 177 13 [.ref 41, .int 3, .int a0] [.int 1] _ _
      refine pm_R_ret pm_M177 (r := some (.int 1)) rfl rfl ?_
      show pm_R _ 271 11 [.ref 41, .int a0, .int a1, .int a2] [.int 1] _ _
      refine pm_R_br pm_M271 (pc_q := 17) (st_q := []) rfl rfl ?_
      refine pm_R_lo pm_M271 (pc_q := 18) rfl rfl rfl ?_
      refine pm_R_lo pm_M271 (pc_q := 19) rfl rfl rfl ?_
      refine rf_R_put pm_M271 T2 (pc_q := 22) rfl rfl rfl (by decide) rfl rfl B23 rfl rfl (fun h25 m28 em29 T26 F27 => ?_)
      have F30 := F6.trans F27 (by decide)
      have B31 : sf_B 0 1 (m28 49) := by rw [em29]; exact B23
      have ek32 : (m28 49).toInt = (a0).toInt := by rw [em29]; rfl
      have W33 : rf_W [0, 49] m m28 := by rw [em29]; exact W9.put (by decide)
      refine pm_R_lo pm_M271 (pc_q := 23) rfl rfl rfl ?_
      refine pm_R_op pm_M271 (pc_q := 24) (st_q := [.int (-1), .int a1]) rfl rfl rfl ?_
      refine pm_R_icmp pm_M271 (t := 41) (pc_q := 27) rfl rfl rfl (fun c34 => ?_) (fun c34 => ?_)
      · skip
        refine pm_R_lo pm_M271 (pc_q := 42) rfl rfl rfl ?_
        refine pm_R_op pm_M271 (pc_q := 43) (st_q := [.int 0, .int a1]) rfl rfl rfl ?_
        refine pm_R_lo pm_M271 (pc_q := 44) rfl rfl rfl ?_
        refine pm_R_cv pm_M271 (pc_q := 47) (a := 41) (ra := []) (rest := [.int 0, .int a1]) (ls_q := [.ref 41]) rfl rfl (Or.inl rfl) pm_M272 T26.2.1 rfl (by decide) (Nat.lt_of_lt_of_le (by decide) T26.1) rfl rfl (Nat.le_of_ble_eq_true rfl) rfl rfl ?_
        refine pm_R_lo pm_M272 (pc_q := 1) rfl rfl rfl ?_
        refine rf_R_get pm_M272 T26 (pc_q := 4) (v := .ref 50) rfl rfl rfl rfl ?_
        refine pm_R_op pm_M272 (pc_q := 6) (st_q := [.int 25, .ref 50]) rfl rfl rfl ?_
        refine pm_R_lo pm_M272 (pc_q := 7) rfl rfl rfl ?_
        refine rf_R_get pm_M272 T26 (pc_q := 10) (v := .int (m28 49)) rfl rfl rfl rfl ?_
        refine sf_R_imul pm_M272 (pc_q := 11) rfl rfl sf_k25 B31 (by decide) (by decide) (by decide) (fun z35 e36 B37 => ?_)
        obtain ⟨f38, e39, b40⟩ := T26.2.2.2.1 50 (by decide) (by decide)
        refine rf_R_ild pm_M272 T26 (pc_q := 12) rfl e39 (by decide) (sf_in B37 (by decide) (by decide)) rfl (fun z41 ez42 => ?_)
        have e43 : (z35).toInt = 25 * (a0).toInt + 0 := (sf_aux27 _ _ _ ek32 e36)
        have B44 : sf_B 0 8 z41 := ez42 ▸ rf_p50a b40 e43 B23 (by decide)
        refine pm_R_ret pm_M272 (r := some (.int z41)) rfl (pm_ret_i _) ?_
        show pm_R _ 271 47 [.ref 41, .int a0, .int a1, .int a2] [.int z41, .int 0, .int a1] _ _
        refine pm_R_op pm_M271 (pc_q := 48) (st_q := [.int 1, .int z41, .int 0, .int a1]) rfl rfl rfl ?_
        refine sf_R_isub pm_M271 (pc_q := 49) rfl rfl B44 sf_k1 (by decide) (by decide) (fun z45 e46 B47 => ?_)
        refine pm_R_cs pm_M271 (pc_q := 52) (ra := [.int z45, .int 0, .int a1]) (rest := []) (ls_q := [.int a1, .int 0, .int z45]) rfl rfl (Or.inl rfl) pm_M174 rfl rfl (Nat.le_of_ble_eq_true rfl) rfl rfl ?_
        refine pm_R_lo pm_M174 (pc_q := 1) rfl rfl rfl ?_
        refine pm_R_lo pm_M174 (pc_q := 2) rfl rfl rfl ?_
        refine pm_R_icmp pm_M174 (t := 14) (pc_q := 5) rfl rfl rfl (fun c48 => ?_) (fun c48 => ?_)
        · have B49 : sf_B (-2147483648) (-1) a1 := sf_ltL c48 (sf_any a1) sf_k0
          refine pm_R_op pm_M174 (pc_q := 15) (st_q := [.int 0]) rfl rfl rfl ?_
          refine pm_R_ret pm_M174 (r := some (.int 0)) rfl rfl ?_
          show pm_R _ 271 52 [.ref 41, .int a0, .int a1, .int a2] [.int 0] _ _
          refine pm_R_br pm_M271 (pc_q := 73) (st_q := []) rfl rfl ?_
          refine pm_R_op pm_M271 (pc_q := 75) (st_q := [.int (-2)]) rfl rfl rfl ?_
          exact pm_R_ret pm_M271 (r := some (.int (-2))) rfl rfl (K (-2) m28 w h25 T26 F30 W33)
        · have B50 : sf_B 0 2147483647 a1 := sf_leR (Int32.not_lt.mp c48) sf_k0 (sf_any a1)
          refine pm_R_lo pm_M174 (pc_q := 6) rfl rfl rfl ?_
          refine pm_R_lo pm_M174 (pc_q := 7) rfl rfl rfl ?_
          refine pm_R_icmp pm_M174 (t := 14) (pc_q := 10) rfl rfl rfl (fun c51 => ?_) (fun c51 => ?_)
          · skip
            refine pm_R_op pm_M174 (pc_q := 15) (st_q := [.int 0]) rfl rfl rfl ?_
            refine pm_R_ret pm_M174 (r := some (.int 0)) rfl rfl ?_
            show pm_R _ 271 52 [.ref 41, .int a0, .int a1, .int a2] [.int 0] _ _
            refine pm_R_br pm_M271 (pc_q := 73) (st_q := []) rfl rfl ?_
            refine pm_R_op pm_M271 (pc_q := 75) (st_q := [.int (-2)]) rfl rfl rfl ?_
            exact pm_R_ret pm_M271 (r := some (.int (-2))) rfl rfl (K (-2) m28 w h25 T26 F30 W33)
          · have B52 : sf_B 0 7 a1 := sf_leL (Int32.not_lt.mp c51) B50 B47
            have B53 : sf_B 0 7 z45 := sf_leR (Int32.not_lt.mp c51) B50 B47
            refine pm_R_op pm_M174 (pc_q := 11) (st_q := [.int 1]) rfl rfl rfl ?_
            refine pm_R_br pm_M174 (pc_q := 15) rfl rfl ?_
            refine pm_R_ret pm_M174 (r := some (.int 1)) rfl rfl ?_
            show pm_R _ 271 52 [.ref 41, .int a0, .int a1, .int a2] [.int 1] _ _
            refine pm_R_br pm_M271 (pc_q := 55) (st_q := []) rfl rfl ?_
            refine pm_R_lo pm_M271 (pc_q := 56) rfl rfl rfl ?_
            refine pm_R_op pm_M271 (pc_q := 57) (st_q := [.int 0, .int a2]) rfl rfl rfl ?_
            refine pm_R_op pm_M271 (pc_q := 58) (st_q := [.int 2, .int 0, .int a2]) rfl rfl rfl ?_
            refine pm_R_cs pm_M271 (pc_q := 61) (ra := [.int 2, .int 0, .int a2]) (rest := []) (ls_q := [.int a2, .int 0, .int 2]) rfl rfl (Or.inl rfl) pm_M174 rfl rfl (Nat.le_of_ble_eq_true rfl) rfl rfl ?_
            refine pm_R_lo pm_M174 (pc_q := 1) rfl rfl rfl ?_
            refine pm_R_lo pm_M174 (pc_q := 2) rfl rfl rfl ?_
            refine pm_R_icmp pm_M174 (t := 14) (pc_q := 5) rfl rfl rfl (fun c54 => ?_) (fun c54 => ?_)
            · have B55 : sf_B (-2147483648) (-1) a2 := sf_ltL c54 (sf_any a2) sf_k0
              refine pm_R_op pm_M174 (pc_q := 15) (st_q := [.int 0]) rfl rfl rfl ?_
              refine pm_R_ret pm_M174 (r := some (.int 0)) rfl rfl ?_
              show pm_R _ 271 61 [.ref 41, .int a0, .int a1, .int a2] [.int 0] _ _
              refine pm_R_br pm_M271 (pc_q := 73) (st_q := []) rfl rfl ?_
              refine pm_R_op pm_M271 (pc_q := 75) (st_q := [.int (-2)]) rfl rfl rfl ?_
              exact pm_R_ret pm_M271 (r := some (.int (-2))) rfl rfl (K (-2) m28 w h25 T26 F30 W33)
            · have B56 : sf_B 0 2147483647 a2 := sf_leR (Int32.not_lt.mp c54) sf_k0 (sf_any a2)
              refine pm_R_lo pm_M174 (pc_q := 6) rfl rfl rfl ?_
              refine pm_R_lo pm_M174 (pc_q := 7) rfl rfl rfl ?_
              refine pm_R_icmp pm_M174 (t := 14) (pc_q := 10) rfl rfl rfl (fun c57 => ?_) (fun c57 => ?_)
              · have B58 : sf_B 3 2147483647 a2 := sf_ltR c57 sf_k2 B56
                refine pm_R_op pm_M174 (pc_q := 15) (st_q := [.int 0]) rfl rfl rfl ?_
                refine pm_R_ret pm_M174 (r := some (.int 0)) rfl rfl ?_
                show pm_R _ 271 61 [.ref 41, .int a0, .int a1, .int a2] [.int 0] _ _
                refine pm_R_br pm_M271 (pc_q := 73) (st_q := []) rfl rfl ?_
                refine pm_R_op pm_M271 (pc_q := 75) (st_q := [.int (-2)]) rfl rfl rfl ?_
                exact pm_R_ret pm_M271 (r := some (.int (-2))) rfl rfl (K (-2) m28 w h25 T26 F30 W33)
              · have B59 : sf_B 0 2 a2 := sf_leL (Int32.not_lt.mp c57) B56 sf_k2
                refine pm_R_op pm_M174 (pc_q := 11) (st_q := [.int 1]) rfl rfl rfl ?_
                refine pm_R_br pm_M174 (pc_q := 15) rfl rfl ?_
                refine pm_R_ret pm_M174 (r := some (.int 1)) rfl rfl ?_
                show pm_R _ 271 61 [.ref 41, .int a0, .int a1, .int a2] [.int 1] _ _
                refine pm_R_br pm_M271 (pc_q := 64) (st_q := []) rfl rfl ?_
                refine pm_R_lo pm_M271 (pc_q := 65) rfl rfl rfl ?_
                refine pm_R_lo pm_M271 (pc_q := 66) rfl rfl rfl ?_
                refine pm_R_lo pm_M271 (pc_q := 67) rfl rfl rfl ?_
                refine pm_R_cv pm_M271 (pc_q := 70) (a := 41) (ra := [.int a2, .int a1]) (rest := []) (ls_q := [.ref 41, .int a1, .int a2]) rfl rfl (Or.inl rfl) pm_M273 T26.2.1 rfl (by decide) (Nat.lt_of_lt_of_le (by decide) T26.1) rfl rfl (Nat.le_of_ble_eq_true rfl) rfl rfl ?_
                refine pm_R_lo pm_M273 (pc_q := 1) rfl rfl rfl ?_
                refine rf_R_get pm_M273 T26 (pc_q := 4) (v := .ref 50) rfl rfl rfl rfl ?_
                refine pm_R_op pm_M273 (pc_q := 6) (st_q := [.int 25, .ref 50]) rfl rfl rfl ?_
                refine pm_R_lo pm_M273 (pc_q := 7) rfl rfl rfl ?_
                refine rf_R_get pm_M273 T26 (pc_q := 10) (v := .int (m28 49)) rfl rfl rfl rfl ?_
                refine sf_R_imulV pm_M273 (pc_q := 11) rfl rfl sf_k25 B31 (by decide) (by decide) (by decide) e36 ?_
                refine pm_R_op pm_M273 (pc_q := 12) (st_q := [.int 1, .int z35, .ref 50]) rfl rfl rfl ?_
                refine sf_R_iadd pm_M273 (pc_q := 13) rfl rfl B37 sf_k1 (by decide) (by decide) (fun z60 e61 B62 => ?_)
                refine pm_R_op pm_M273 (pc_q := 14) (st_q := [.int 3, .int z60, .ref 50]) rfl rfl rfl ?_
                refine pm_R_lo pm_M273 (pc_q := 15) rfl rfl rfl ?_
                refine sf_R_imul pm_M273 (pc_q := 16) rfl rfl sf_k3 B52 (by decide) (by decide) (by decide) (fun z63 e64 B65 => ?_)
                refine sf_R_iadd pm_M273 (pc_q := 17) rfl rfl B62 B65 (by decide) (by decide) (fun z66 e67 B68 => ?_)
                refine pm_R_lo pm_M273 (pc_q := 18) rfl rfl rfl ?_
                refine sf_R_iadd pm_M273 (pc_q := 19) rfl rfl B68 B59 (by decide) (by decide) (fun z69 e70 B71 => ?_)
                refine rf_R_ild pm_M273 T26 (pc_q := 20) rfl e39 (by decide) (sf_in B71 (by decide) (by decide)) rfl (fun z72 ez73 => ?_)
                refine pm_R_ret pm_M273 (r := some (.int z72)) rfl (pm_ret_i _) ?_
                show pm_R _ 271 70 [.ref 41, .int a0, .int a1, .int a2] [.int z72] _ _
                refine pm_R_br pm_M271 (pc_q := 75) rfl rfl ?_
                exact pm_R_ret pm_M271 (r := some (.int z72)) rfl (pm_ret_i _) (K z72 m28 w h25 T26 F30 W33)
      · have B74 : sf_B (-1) (-1) a1 := sf_eqL (Classical.not_not.mp c34) sf_kn1
        refine pm_R_lo pm_M271 (pc_q := 28) rfl rfl rfl ?_
        refine pm_R_ifc pm_M271 (t := 38) (pc_q := 31) rfl rfl rfl (fun c75 => ?_) (fun c75 => ?_)
        · skip
          refine pm_R_op pm_M271 (pc_q := 40) (st_q := [.int (-2)]) rfl rfl rfl ?_
          exact pm_R_ret pm_M271 (r := some (.int (-2))) rfl rfl (K (-2) m28 w h25 T26 F30 W33)
        · have B76 : sf_B 0 0 a2 := sf_eqL (Classical.not_not.mp c75) sf_k0
          refine pm_R_lo pm_M271 (pc_q := 32) rfl rfl rfl ?_
          refine pm_R_cv pm_M271 (pc_q := 35) (a := 41) (ra := []) (rest := []) (ls_q := [.ref 41]) rfl rfl (Or.inl rfl) pm_M272 T26.2.1 rfl (by decide) (Nat.lt_of_lt_of_le (by decide) T26.1) rfl rfl (Nat.le_of_ble_eq_true rfl) rfl rfl ?_
          refine pm_R_lo pm_M272 (pc_q := 1) rfl rfl rfl ?_
          refine rf_R_get pm_M272 T26 (pc_q := 4) (v := .ref 50) rfl rfl rfl rfl ?_
          refine pm_R_op pm_M272 (pc_q := 6) (st_q := [.int 25, .ref 50]) rfl rfl rfl ?_
          refine pm_R_lo pm_M272 (pc_q := 7) rfl rfl rfl ?_
          refine rf_R_get pm_M272 T26 (pc_q := 10) (v := .int (m28 49)) rfl rfl rfl rfl ?_
          refine sf_R_imul pm_M272 (pc_q := 11) rfl rfl sf_k25 B31 (by decide) (by decide) (by decide) (fun z77 e78 B79 => ?_)
          obtain ⟨f80, e81, b82⟩ := T26.2.2.2.1 50 (by decide) (by decide)
          refine rf_R_ild pm_M272 T26 (pc_q := 12) rfl e81 (by decide) (sf_in B79 (by decide) (by decide)) rfl (fun z83 ez84 => ?_)
          have e85 : (z77).toInt = 25 * (a0).toInt + 0 := (sf_aux27 _ _ _ ek32 e78)
          have B86 : sf_B 0 8 z83 := ez84 ▸ rf_p50a b82 e85 B23 (by decide)
          refine pm_R_ret pm_M272 (r := some (.int z83)) rfl (pm_ret_i _) ?_
          show pm_R _ 271 35 [.ref 41, .int a0, .int a1, .int a2] [.int z83] _ _
          refine pm_R_br pm_M271 (pc_q := 40) rfl rfl ?_
          exact pm_R_ret pm_M271 (r := some (.int z83)) rfl (pm_ret_i _) (K z83 m28 w h25 T26 F30 W33)

set_option maxRecDepth 100000 in
set_option maxHeartbeats 4000000 in
/-- SilentTableModel.breaks -/
theorem rf_c274 {d : Nat} {m : Nat → Int32} {w : Int64} {h : pm_H} {Q : Option Value → pm_H → Prop} {a0 : Int32} {a1 : Int32} {a2 : Int32} (T : rf_T m w h)  (K : ∀ (r : Int32) (m_q : Nat → Int32) (w_q : Int64) (h_q : pm_H), rf_T m_q w_q h_q → rf_G [41, 67, 68] h h_q → rf_W [0, 42, 43, 44, 49] m m_q → sf_B (-1) 49 r → Q (some (.int r)) h_q) : pm_R (d + 5) 274 0 [.ref 41, .int a0, .int a1, .int a2, pm_no, pm_no] [] h Q := by
  refine pm_R_lo pm_M274 (pc_q := 1) rfl rfl rfl ?_
  refine pm_R_op pm_M274 (pc_q := 2) (st_q := [.int 0, .ref 41]) rfl rfl rfl ?_
  refine rf_R_put pm_M274 T (pc_q := 5) rfl rfl rfl (by decide) rfl rfl sf_k0 rfl rfl (fun h1 m4 em5 T2 F3 => ?_)
  have F6 := (rf_G.refl [41, 67, 68] h).trans F3 (by decide)
  have B7 : sf_B 0 0 (m4 0) := by rw [em5]; exact sf_k0
  have W9 : rf_W [0, 42, 43, 44, 49] m m4 := by rw [em5]; exact (rf_W.refl [0, 42, 43, 44, 49] m).put (by decide)
  refine pm_R_lo pm_M274 (pc_q := 6) rfl rfl rfl ?_
  refine pm_R_lo pm_M274 (pc_q := 7) rfl rfl rfl ?_
  refine pm_R_lo pm_M274 (pc_q := 8) rfl rfl rfl ?_
  refine pm_R_cv pm_M274 (pc_q := 11) (a := 41) (ra := [.int a1, .int a0]) (rest := []) (ls_q := [.ref 41, .int a0, .int a1]) rfl rfl (Or.inl rfl) pm_M275 T2.2.1 rfl (by decide) (Nat.lt_of_lt_of_le (by decide) T2.1) rfl rfl (Nat.le_of_ble_eq_true rfl) rfl rfl ?_
  refine pm_R_lo pm_M275 (pc_q := 1) rfl rfl rfl ?_
  refine pm_R_op pm_M275 (pc_q := 2) (st_q := [.int 3, .ref 41]) rfl rfl rfl ?_
  refine pm_R_lo pm_M275 (pc_q := 3) rfl rfl rfl ?_
  refine pm_R_cv pm_M275 (pc_q := 6) (a := 41) (ra := [.int a0, .int 3]) (rest := []) (ls_q := [.ref 41, .int 3, .int a0]) rfl rfl (Or.inl rfl) pm_M177 T2.2.1 rfl (by decide) (Nat.lt_of_lt_of_le (by decide) T2.1) rfl rfl (Nat.le_of_ble_eq_true rfl) rfl rfl ?_
  refine pm_R_lo pm_M177 (pc_q := 1) rfl rfl rfl ?_
  refine pm_R_op pm_M177 (pc_q := 2) (st_q := [.int 0, .int a0]) rfl rfl rfl ?_
  refine pm_R_lo pm_M177 (pc_q := 3) rfl rfl rfl ?_
  refine rf_R_get pm_M177 T2 (pc_q := 6) (v := .ref 46) rfl rfl rfl rfl ?_
  refine pm_R_lo pm_M177 (pc_q := 7) rfl rfl rfl ?_
  obtain ⟨f10, e11, b12⟩ := T2.2.2.2.1 46 (by decide) (by decide)
  refine rf_R_ild pm_M177 T2 (pc_q := 8) rfl e11 (by decide) rfl rfl (fun z13 ez14 => ?_)
  have B15 : sf_B 0 2 z13 := ez14 ▸ (b12 3)
  refine pm_R_op pm_M177 (pc_q := 9) (st_q := [.int 1, .int z13, .int 0, .int a0]) rfl rfl rfl ?_
  refine sf_R_isub pm_M177 (pc_q := 10) rfl rfl B15 sf_k1 (by decide) (by decide) (fun z16 e17 B18 => ?_)
  refine pm_R_cs pm_M177 (pc_q := 13) (ra := [.int z16, .int 0, .int a0]) (rest := []) (ls_q := [.int a0, .int 0, .int z16]) rfl rfl (Or.inl rfl) pm_M174 rfl rfl (Nat.le_of_ble_eq_true rfl) rfl rfl ?_
  refine pm_R_lo pm_M174 (pc_q := 1) rfl rfl rfl ?_
  refine pm_R_lo pm_M174 (pc_q := 2) rfl rfl rfl ?_
  refine pm_R_icmp pm_M174 (t := 14) (pc_q := 5) rfl rfl rfl (fun c19 => ?_) (fun c19 => ?_)
  · have B20 : sf_B (-2147483648) (-1) a0 := sf_ltL c19 (sf_any a0) sf_k0
    refine pm_R_op pm_M174 (pc_q := 15) (st_q := [.int 0]) rfl rfl rfl ?_
    refine pm_R_ret pm_M174 (r := some (.int 0)) rfl rfl ?_
    show pm_R _ 177 13 [.ref 41, .int 3, .int a0] [.int 0] _ _
    refine pm_R_ret pm_M177 (r := some (.int 0)) rfl rfl ?_
    show pm_R _ 275 6 [.ref 41, .int a0, .int a1] [.int 0] _ _
    refine pm_R_br pm_M275 (pc_q := 17) (st_q := []) rfl rfl ?_
    refine pm_R_op pm_M275 (pc_q := 18) (st_q := [.int 0]) rfl rfl rfl ?_
    refine pm_R_ret pm_M275 (r := some (.int 0)) rfl rfl ?_
    show pm_R _ 274 11 [.ref 41, .int a0, .int a1, .int a2, pm_no, pm_no] [.int 0] _ _
    refine pm_R_br pm_M274 (pc_q := 23) (st_q := []) rfl rfl ?_
    refine pm_R_op pm_M274 (pc_q := 24) (st_q := [.int (-1)]) rfl rfl rfl ?_
    exact pm_R_ret pm_M274 (r := some (.int (-1))) rfl rfl (K (-1) m4 w h1 T2 F6 W9 (sf_weak sf_kn1 (by decide) (by decide)))
  · have B21 : sf_B 0 2147483647 a0 := sf_leR (Int32.not_lt.mp c19) sf_k0 (sf_any a0)
    refine pm_R_lo pm_M174 (pc_q := 6) rfl rfl rfl ?_
    refine pm_R_lo pm_M174 (pc_q := 7) rfl rfl rfl ?_
    refine pm_R_icmp pm_M174 (t := 14) (pc_q := 10) rfl rfl rfl (fun c22 => ?_) (fun c22 => ?_)
    · skip
      refine pm_R_op pm_M174 (pc_q := 15) (st_q := [.int 0]) rfl rfl rfl ?_
      refine pm_R_ret pm_M174 (r := some (.int 0)) rfl rfl ?_
      show pm_R _ 177 13 [.ref 41, .int 3, .int a0] [.int 0] _ _
      refine pm_R_ret pm_M177 (r := some (.int 0)) rfl rfl ?_
      show pm_R _ 275 6 [.ref 41, .int a0, .int a1] [.int 0] _ _
      refine pm_R_br pm_M275 (pc_q := 17) (st_q := []) rfl rfl ?_
      refine pm_R_op pm_M275 (pc_q := 18) (st_q := [.int 0]) rfl rfl rfl ?_
      refine pm_R_ret pm_M275 (r := some (.int 0)) rfl rfl ?_
      show pm_R _ 274 11 [.ref 41, .int a0, .int a1, .int a2, pm_no, pm_no] [.int 0] _ _
      refine pm_R_br pm_M274 (pc_q := 23) (st_q := []) rfl rfl ?_
      refine pm_R_op pm_M274 (pc_q := 24) (st_q := [.int (-1)]) rfl rfl rfl ?_
      exact pm_R_ret pm_M274 (r := some (.int (-1))) rfl rfl (K (-1) m4 w h1 T2 F6 W9 (sf_weak sf_kn1 (by decide) (by decide)))
    · have B23 : sf_B 0 1 a0 := sf_leL (Int32.not_lt.mp c22) B21 B18
      have B24 : sf_B 0 1 z16 := sf_leR (Int32.not_lt.mp c22) B21 B18
      refine pm_R_op pm_M174 (pc_q := 11) (st_q := [.int 1]) rfl rfl rfl ?_
      refine pm_R_br pm_M174 (pc_q := 15) rfl rfl ?_
      refine pm_R_ret pm_M174 (r := some (.int 1)) rfl rfl ?_
      show pm_R _ 177 13 [.ref 41, .int 3, .int a0] [.int 1] _ _
      refine pm_R_ret pm_M177 (r := some (.int 1)) rfl rfl ?_
      show pm_R _ 275 6 [.ref 41, .int a0, .int a1] [.int 1] _ _
      refine pm_R_br pm_M275 (pc_q := 9) (st_q := []) rfl rfl ?_
      refine pm_R_lo pm_M275 (pc_q := 10) rfl rfl rfl ?_
      refine pm_R_lo pm_M275 (pc_q := 11) rfl rfl rfl ?_
      refine pm_R_cv pm_M275 (pc_q := 14) (a := 41) (ra := [.int a1]) (rest := []) (ls_q := [.ref 41, .int a1, pm_no, pm_no, pm_no, pm_no]) rfl rfl (Or.inl rfl) pm_M254 T2.2.1 rfl (by decide) (Nat.lt_of_lt_of_le (by decide) T2.1) rfl rfl (Nat.le_of_ble_eq_true rfl) rfl rfl ?_
      refine rf_c254 (d := d + 1) T2  (fun r25 m27 w28 h29 T30 F31 W32 B26 => ?_)
      have F33 := F6.trans F31 (by decide)
      have W34 : rf_W [0, 42, 43, 44, 49] m m27 := W9.trans W32 (by decide)
      show pm_R _ 275 14 [.ref 41, .int a0, .int a1] [.int r25] _ _
      refine pm_R_ifc pm_M275 (t := 19) (pc_q := 17) rfl rfl rfl (fun c35 => ?_) (fun c35 => ?_)
      · have B36 : sf_B 1 1 r25 := sf_neL0 c35 sf_k0 B26
        refine pm_R_lo pm_M275 (pc_q := 20) rfl rfl rfl ?_
        refine pm_R_lo pm_M275 (pc_q := 21) rfl rfl rfl ?_
        refine rf_R_put pm_M275 T30 (pc_q := 24) rfl rfl rfl (by decide) rfl rfl B23 rfl rfl (fun h37 m40 em41 T38 F39 => ?_)
        have F42 := F33.trans F39 (by decide)
        have B43 : sf_B 0 1 (m40 49) := by rw [em41]; exact B23
        have ek44 : (m40 49).toInt = (a0).toInt := by rw [em41]; rfl
        have W45 : rf_W [0, 42, 43, 44, 49] m m40 := by rw [em41]; exact W34.put (by decide)
        refine pm_R_op pm_M275 (pc_q := 25) (st_q := [.int 1]) rfl rfl rfl ?_
        refine pm_R_ret pm_M275 (r := some (.int 1)) rfl rfl ?_
        show pm_R _ 274 11 [.ref 41, .int a0, .int a1, .int a2, pm_no, pm_no] [.int 1] _ _
        refine pm_R_br pm_M274 (pc_q := 14) (st_q := []) rfl rfl ?_
        refine pm_R_lo pm_M274 (pc_q := 15) rfl rfl rfl ?_
        refine pm_R_op pm_M274 (pc_q := 16) (st_q := [.int 0, .int a2]) rfl rfl rfl ?_
        refine pm_R_op pm_M274 (pc_q := 17) (st_q := [.int 2, .int 0, .int a2]) rfl rfl rfl ?_
        refine pm_R_cs pm_M274 (pc_q := 20) (ra := [.int 2, .int 0, .int a2]) (rest := []) (ls_q := [.int a2, .int 0, .int 2]) rfl rfl (Or.inl rfl) pm_M174 rfl rfl (Nat.le_of_ble_eq_true rfl) rfl rfl ?_
        refine pm_R_lo pm_M174 (pc_q := 1) rfl rfl rfl ?_
        refine pm_R_lo pm_M174 (pc_q := 2) rfl rfl rfl ?_
        refine pm_R_icmp pm_M174 (t := 14) (pc_q := 5) rfl rfl rfl (fun c46 => ?_) (fun c46 => ?_)
        · have B47 : sf_B (-2147483648) (-1) a2 := sf_ltL c46 (sf_any a2) sf_k0
          refine pm_R_op pm_M174 (pc_q := 15) (st_q := [.int 0]) rfl rfl rfl ?_
          refine pm_R_ret pm_M174 (r := some (.int 0)) rfl rfl ?_
          show pm_R _ 274 20 [.ref 41, .int a0, .int a1, .int a2, pm_no, pm_no] [.int 0] _ _
          refine pm_R_br pm_M274 (pc_q := 23) (st_q := []) rfl rfl ?_
          refine pm_R_op pm_M274 (pc_q := 24) (st_q := [.int (-1)]) rfl rfl rfl ?_
          exact pm_R_ret pm_M274 (r := some (.int (-1))) rfl rfl (K (-1) m40 w28 h37 T38 F42 W45 (sf_weak sf_kn1 (by decide) (by decide)))
        · have B48 : sf_B 0 2147483647 a2 := sf_leR (Int32.not_lt.mp c46) sf_k0 (sf_any a2)
          refine pm_R_lo pm_M174 (pc_q := 6) rfl rfl rfl ?_
          refine pm_R_lo pm_M174 (pc_q := 7) rfl rfl rfl ?_
          refine pm_R_icmp pm_M174 (t := 14) (pc_q := 10) rfl rfl rfl (fun c49 => ?_) (fun c49 => ?_)
          · have B50 : sf_B 3 2147483647 a2 := sf_ltR c49 sf_k2 B48
            refine pm_R_op pm_M174 (pc_q := 15) (st_q := [.int 0]) rfl rfl rfl ?_
            refine pm_R_ret pm_M174 (r := some (.int 0)) rfl rfl ?_
            show pm_R _ 274 20 [.ref 41, .int a0, .int a1, .int a2, pm_no, pm_no] [.int 0] _ _
            refine pm_R_br pm_M274 (pc_q := 23) (st_q := []) rfl rfl ?_
            refine pm_R_op pm_M274 (pc_q := 24) (st_q := [.int (-1)]) rfl rfl rfl ?_
            exact pm_R_ret pm_M274 (r := some (.int (-1))) rfl rfl (K (-1) m40 w28 h37 T38 F42 W45 (sf_weak sf_kn1 (by decide) (by decide)))
          · have B51 : sf_B 0 2 a2 := sf_leL (Int32.not_lt.mp c49) B48 sf_k2
            refine pm_R_op pm_M174 (pc_q := 11) (st_q := [.int 1]) rfl rfl rfl ?_
            refine pm_R_br pm_M174 (pc_q := 15) rfl rfl ?_
            refine pm_R_ret pm_M174 (r := some (.int 1)) rfl rfl ?_
            show pm_R _ 274 20 [.ref 41, .int a0, .int a1, .int a2, pm_no, pm_no] [.int 1] _ _
            refine pm_R_br pm_M274 (pc_q := 25) (st_q := []) rfl rfl ?_
            refine pm_R_op pm_M274 (pc_q := 26) (st_q := [.int 0]) rfl rfl rfl ?_
            refine pm_R_lo pm_M274 (pc_q := 28) (ls_q := [.ref 41, .int a0, .int a1, .int a2, .int 0, pm_no]) (st_q := []) rfl rfl rfl ?_
            have L_297 : ∀ (N : Nat) (x4_297 : Int32) (g5_297 : Value), sf_B 0 50 x4_297 → g5_297.category = 1 → (50 - x4_297.toInt).toNat = N → pm_R (d + 5) 274 28 [.ref 41, .int a0, .int a1, .int a2, .int x4_297, g5_297] [] h37 Q := by
              intro N
              induction N using Nat.strongRecOn with
              | ind N ih_297 =>
                intro x4_297 g5_297 Bx4_297 Cg5_297 hN_297
                refine pm_R_lo pm_M274 (pc_q := 30) rfl rfl rfl ?_
                refine pm_R_lo pm_M274 (pc_q := 31) rfl rfl rfl ?_
                have B298 : sf_B 0 50 (m40 43) := T38.2.2.1 43
                refine rf_R_get pm_M274 T38 (pc_q := 34) (v := .int (m40 43)) rfl rfl rfl rfl ?_
                refine pm_R_icmp pm_M274 (t := 85) (pc_q := 37) rfl rfl rfl (fun c299 => ?_) (fun c299 => ?_)
                · skip
                  refine pm_R_op pm_M274 (pc_q := 86) (st_q := [.int (-1)]) rfl rfl rfl ?_
                  exact pm_R_ret pm_M274 (r := some (.int (-1))) rfl rfl (K (-1) m40 w28 h37 T38 F42 W45 (sf_weak sf_kn1 (by decide) (by decide)))
                · have B300 : sf_B 0 49 x4_297 := sf_ltL (Int32.not_le.mp c299) Bx4_297 B298
                  have B301 : sf_B 1 50 (m40 43) := sf_ltR (Int32.not_le.mp c299) Bx4_297 B298
                  refine pm_R_lo pm_M274 (pc_q := 38) rfl rfl rfl ?_
                  refine pm_R_lo pm_M274 (pc_q := 40) rfl rfl rfl ?_
                  refine pm_R_op pm_M274 (pc_q := 41) (st_q := [.int (-1), .int x4_297, .ref 41]) rfl rfl rfl ?_
                  refine pm_R_cv pm_M274 (pc_q := 44) (a := 41) (ra := [.int (-1), .int x4_297]) (rest := []) (ls_q := [.ref 41, .int x4_297, .int (-1), pm_no]) rfl rfl (Or.inl rfl) pm_M276 T38.2.1 rfl (by decide) (Nat.lt_of_lt_of_le (by decide) T38.1) rfl rfl (Nat.le_of_ble_eq_true rfl) rfl rfl ?_
                  refine rf_c276 (d := d + 0) T38 B300 (fun r302 B303 => ?_)
                  show pm_R _ 274 44 [.ref 41, .int a0, .int a1, .int a2, .int x4_297, g5_297] [.int r302] _ _
                  refine pm_R_lo pm_M274 (pc_q := 46) (ls_q := [.ref 41, .int a0, .int a1, .int a2, .int x4_297, .int r302]) (st_q := []) rfl rfl rfl ?_
                  refine pm_R_lo pm_M274 (pc_q := 48) rfl rfl rfl ?_
                  refine pm_R_op pm_M274 (pc_q := 49) (st_q := [.int (-1), .int r302]) rfl rfl rfl ?_
                  refine pm_R_icmp pm_M274 (t := 79) (pc_q := 52) rfl rfl rfl (fun c310 => ?_) (fun c310 => ?_)
                  · have B311 : sf_B (-1) (-1) r302 := sf_eqL c310 sf_kn1
                    refine sf_R_iinc pm_M274 (pc_q := 82) (ls_q := fun z => [.ref 41, .int a0, .int a1, .int a2, .int z, .int r302]) rfl B300 rfl (by decide) (by decide) (by decide) (fun _ => rfl) rfl (fun z312 e313 B314 => ?_)
                    show pm_R _ 274 82 [.ref 41, .int a0, .int a1, .int a2, .int z312, .int r302] [] _ _
                    refine pm_R_br pm_M274 (pc_q := 28) rfl rfl ?_
                    exact ih_297 _ (sf_up hN_297 e313 B300 (by decide) (by decide)) z312 (.int r302) (sf_weak B314 (by decide) (by decide)) rfl rfl
                  · have B315 : sf_B 0 7 r302 := sf_neL0 c310 sf_kn1 B303
                    refine pm_R_lo pm_M274 (pc_q := 53) rfl rfl rfl ?_
                    refine pm_R_ifc pm_M274 (t := 61) (pc_q := 56) rfl rfl rfl (fun c316 => ?_) (fun c316 => ?_)
                    · have B317 : sf_B 1 2 a2 := sf_neL0 c316 sf_k0 B51
                      refine pm_R_lo pm_M274 (pc_q := 62) rfl rfl rfl ?_
                      refine pm_R_op pm_M274 (pc_q := 63) (st_q := [.int 1, .int a2]) rfl rfl rfl ?_
                      refine pm_R_icmp pm_M274 (t := 71) (pc_q := 66) rfl rfl rfl (fun c318 => ?_) (fun c318 => ?_)
                      · have B319 : sf_B 2 2 a2 := sf_neL0 c318 sf_k1 B317
                        refine pm_R_lo pm_M274 (pc_q := 72) rfl rfl rfl ?_
                        refine pm_R_lo pm_M274 (pc_q := 74) rfl rfl rfl ?_
                        refine pm_R_op pm_M274 (pc_q := 75) (st_q := [.int 1, .int x4_297, .ref 41]) rfl rfl rfl ?_
                        refine pm_R_cv pm_M274 (pc_q := 78) (a := 41) (ra := [.int 1, .int x4_297]) (rest := []) (ls_q := [.ref 41, .int x4_297, .int 1]) rfl rfl (Or.inl rfl) pm_M255 T38.2.1 rfl (by decide) (Nat.lt_of_lt_of_le (by decide) T38.1) rfl rfl (Nat.le_of_ble_eq_true rfl) rfl rfl ?_
                        refine pm_R_lo pm_M255 (pc_q := 1) rfl rfl rfl ?_
                        refine rf_R_get pm_M255 T38 (pc_q := 4) (v := .ref 49) rfl rfl rfl rfl ?_
                        refine pm_R_op pm_M255 (pc_q := 7) (st_q := [.int 152, .ref 49]) rfl rfl rfl ?_
                        refine pm_R_lo pm_M255 (pc_q := 8) rfl rfl rfl ?_
                        have B320 : sf_B 0 1 (m40 44) := T38.2.2.1 44
                        refine rf_R_get pm_M255 T38 (pc_q := 11) (v := .int (m40 44)) rfl rfl rfl rfl ?_
                        refine sf_R_imul pm_M255 (pc_q := 12) rfl rfl sf_k152 B320 (by decide) (by decide) (by decide) (fun z321 e322 B323 => ?_)
                        refine pm_R_op pm_M255 (pc_q := 13) (st_q := [.int 2, .int z321, .ref 49]) rfl rfl rfl ?_
                        refine sf_R_iadd pm_M255 (pc_q := 14) rfl rfl B323 sf_k2 (by decide) (by decide) (fun z324 e325 B326 => ?_)
                        refine pm_R_op pm_M255 (pc_q := 15) (st_q := [.int 3, .int z324, .ref 49]) rfl rfl rfl ?_
                        refine pm_R_lo pm_M255 (pc_q := 16) rfl rfl rfl ?_
                        refine sf_R_imul pm_M255 (pc_q := 17) rfl rfl sf_k3 B300 (by decide) (by decide) (by decide) (fun z327 e328 B329 => ?_)
                        refine sf_R_iadd pm_M255 (pc_q := 18) rfl rfl B326 B329 (by decide) (by decide) (fun z330 e331 B332 => ?_)
                        refine pm_R_lo pm_M255 (pc_q := 19) rfl rfl rfl ?_
                        refine sf_R_iadd pm_M255 (pc_q := 20) rfl rfl B332 sf_k1 (by decide) (by decide) (fun z333 e334 B335 => ?_)
                        obtain ⟨f336, e337, b338⟩ := T38.2.2.2.1 49 (by decide) (by decide)
                        refine rf_R_ild pm_M255 T38 (pc_q := 21) rfl e337 (by decide) (sf_in B335 (by decide) (by decide)) rfl (fun z339 ez340 => ?_)
                        have e341 : (z333).toInt = 152 * ((m40 44)).toInt + 3 * (x4_297).toInt + 3 := (sf_aux17 _ _ _ _ _ _ _ e322 e325 e328 e331 e334)
                        have B342 : sf_B 0 5 z339 := ez340 ▸ rf_p49w b338 e341 B320 B300 (by decide) (by decide) (by decide)
                        refine pm_R_ret pm_M255 (r := some (.int z339)) rfl (pm_ret_i _) ?_
                        show pm_R _ 274 78 [.ref 41, .int a0, .int a1, .int a2, .int x4_297, .int r302] [.int z339] _ _
                        exact pm_R_ret pm_M274 (r := some (.int z339)) rfl (pm_ret_i _) (K z339 m40 w28 h37 T38 F42 W45 (sf_weak B342 (by decide) (by decide)))
                      · have B343 : sf_B 1 1 a2 := sf_eqL (Classical.not_not.mp c318) sf_k1
                        refine pm_R_lo pm_M274 (pc_q := 68) rfl rfl rfl ?_
                        refine pm_R_br pm_M274 (pc_q := 78) rfl rfl ?_
                        exact pm_R_ret pm_M274 (r := some (.int r302)) rfl (pm_ret_i _) (K r302 m40 w28 h37 T38 F42 W45 (sf_weak B315 (by decide) (by decide)))
                    · have B344 : sf_B 0 0 a2 := sf_eqL (Classical.not_not.mp c316) sf_k0
                      refine pm_R_lo pm_M274 (pc_q := 58) rfl rfl rfl ?_
                      refine pm_R_br pm_M274 (pc_q := 78) rfl rfl ?_
                      exact pm_R_ret pm_M274 (r := some (.int x4_297)) rfl (pm_ret_i _) (K x4_297 m40 w28 h37 T38 F42 W45 (sf_weak B300 (by decide) (by decide)))
            exact L_297 _ 0 (pm_no) (sf_weak sf_k0 (by decide) (by decide)) rfl rfl
      · have B345 : sf_B 0 0 r25 := sf_eqL (Classical.not_not.mp c35) sf_k0
        refine pm_R_op pm_M275 (pc_q := 18) (st_q := [.int 0]) rfl rfl rfl ?_
        refine pm_R_ret pm_M275 (r := some (.int 0)) rfl rfl ?_
        show pm_R _ 274 11 [.ref 41, .int a0, .int a1, .int a2, pm_no, pm_no] [.int 0] _ _
        refine pm_R_br pm_M274 (pc_q := 23) (st_q := []) rfl rfl ?_
        refine pm_R_op pm_M274 (pc_q := 24) (st_q := [.int (-1)]) rfl rfl rfl ?_
        exact pm_R_ret pm_M274 (r := some (.int (-1))) rfl rfl (K (-1) m27 w28 h29 T30 F33 W34 (sf_weak sf_kn1 (by decide) (by decide)))

set_option maxRecDepth 100000 in
set_option maxHeartbeats 4000000 in
/-- SilentTableModel.sins -/
theorem rf_c280 {d : Nat} {m : Nat → Int32} {w : Int64} {h : pm_H} {Q : Option Value → pm_H → Prop} {a0 : Int32} {a1 : Int32} {a2 : Int32} (T : rf_T m w h)  (K : ∀ (r : Int32) (m_q : Nat → Int32) (w_q : Int64) (h_q : pm_H), rf_T m_q w_q h_q → rf_G [41, 67, 68] h h_q → rf_W [0, 42, 43, 44, 49] m m_q → Q (some (.int r)) h_q) : pm_R (d + 6) 280 0 [.ref 41, .int a0, .int a1, .int a2] [] h Q := by
  refine pm_R_lo pm_M280 (pc_q := 1) rfl rfl rfl ?_
  refine pm_R_op pm_M280 (pc_q := 2) (st_q := [.int 0, .ref 41]) rfl rfl rfl ?_
  refine rf_R_put pm_M280 T (pc_q := 5) rfl rfl rfl (by decide) rfl rfl sf_k0 rfl rfl (fun h1 m4 em5 T2 F3 => ?_)
  have F6 := (rf_G.refl [41, 67, 68] h).trans F3 (by decide)
  have B7 : sf_B 0 0 (m4 0) := by rw [em5]; exact sf_k0
  have W9 : rf_W [0, 42, 43, 44, 49] m m4 := by rw [em5]; exact (rf_W.refl [0, 42, 43, 44, 49] m).put (by decide)
  refine pm_R_lo pm_M280 (pc_q := 6) rfl rfl rfl ?_
  refine pm_R_lo pm_M280 (pc_q := 7) rfl rfl rfl ?_
  refine pm_R_lo pm_M280 (pc_q := 8) rfl rfl rfl ?_
  refine pm_R_cv pm_M280 (pc_q := 11) (a := 41) (ra := [.int a1, .int a0]) (rest := []) (ls_q := [.ref 41, .int a0, .int a1]) rfl rfl (Or.inl rfl) pm_M275 T2.2.1 rfl (by decide) (Nat.lt_of_lt_of_le (by decide) T2.1) rfl rfl (Nat.le_of_ble_eq_true rfl) rfl rfl ?_
  refine pm_R_lo pm_M275 (pc_q := 1) rfl rfl rfl ?_
  refine pm_R_op pm_M275 (pc_q := 2) (st_q := [.int 3, .ref 41]) rfl rfl rfl ?_
  refine pm_R_lo pm_M275 (pc_q := 3) rfl rfl rfl ?_
  refine pm_R_cv pm_M275 (pc_q := 6) (a := 41) (ra := [.int a0, .int 3]) (rest := []) (ls_q := [.ref 41, .int 3, .int a0]) rfl rfl (Or.inl rfl) pm_M177 T2.2.1 rfl (by decide) (Nat.lt_of_lt_of_le (by decide) T2.1) rfl rfl (Nat.le_of_ble_eq_true rfl) rfl rfl ?_
  refine pm_R_lo pm_M177 (pc_q := 1) rfl rfl rfl ?_
  refine pm_R_op pm_M177 (pc_q := 2) (st_q := [.int 0, .int a0]) rfl rfl rfl ?_
  refine pm_R_lo pm_M177 (pc_q := 3) rfl rfl rfl ?_
  refine rf_R_get pm_M177 T2 (pc_q := 6) (v := .ref 46) rfl rfl rfl rfl ?_
  refine pm_R_lo pm_M177 (pc_q := 7) rfl rfl rfl ?_
  obtain ⟨f10, e11, b12⟩ := T2.2.2.2.1 46 (by decide) (by decide)
  refine rf_R_ild pm_M177 T2 (pc_q := 8) rfl e11 (by decide) rfl rfl (fun z13 ez14 => ?_)
  have B15 : sf_B 0 2 z13 := ez14 ▸ (b12 3)
  refine pm_R_op pm_M177 (pc_q := 9) (st_q := [.int 1, .int z13, .int 0, .int a0]) rfl rfl rfl ?_
  refine sf_R_isub pm_M177 (pc_q := 10) rfl rfl B15 sf_k1 (by decide) (by decide) (fun z16 e17 B18 => ?_)
  refine pm_R_cs pm_M177 (pc_q := 13) (ra := [.int z16, .int 0, .int a0]) (rest := []) (ls_q := [.int a0, .int 0, .int z16]) rfl rfl (Or.inl rfl) pm_M174 rfl rfl (Nat.le_of_ble_eq_true rfl) rfl rfl ?_
  refine pm_R_lo pm_M174 (pc_q := 1) rfl rfl rfl ?_
  refine pm_R_lo pm_M174 (pc_q := 2) rfl rfl rfl ?_
  refine pm_R_icmp pm_M174 (t := 14) (pc_q := 5) rfl rfl rfl (fun c19 => ?_) (fun c19 => ?_)
  · have B20 : sf_B (-2147483648) (-1) a0 := sf_ltL c19 (sf_any a0) sf_k0
    refine pm_R_op pm_M174 (pc_q := 15) (st_q := [.int 0]) rfl rfl rfl ?_
    refine pm_R_ret pm_M174 (r := some (.int 0)) rfl rfl ?_
    show pm_R _ 177 13 [.ref 41, .int 3, .int a0] [.int 0] _ _
    refine pm_R_ret pm_M177 (r := some (.int 0)) rfl rfl ?_
    show pm_R _ 275 6 [.ref 41, .int a0, .int a1] [.int 0] _ _
    refine pm_R_br pm_M275 (pc_q := 17) (st_q := []) rfl rfl ?_
    refine pm_R_op pm_M275 (pc_q := 18) (st_q := [.int 0]) rfl rfl rfl ?_
    refine pm_R_ret pm_M275 (r := some (.int 0)) rfl rfl ?_
    show pm_R _ 280 11 [.ref 41, .int a0, .int a1, .int a2] [.int 0] _ _
    refine pm_R_br pm_M280 (pc_q := 36) (st_q := []) rfl rfl ?_
    refine pm_R_op pm_M280 (pc_q := 37) (st_q := [.int (-1)]) rfl rfl rfl ?_
    exact pm_R_ret pm_M280 (r := some (.int (-1))) rfl rfl (K (-1) m4 w h1 T2 F6 W9)
  · have B21 : sf_B 0 2147483647 a0 := sf_leR (Int32.not_lt.mp c19) sf_k0 (sf_any a0)
    refine pm_R_lo pm_M174 (pc_q := 6) rfl rfl rfl ?_
    refine pm_R_lo pm_M174 (pc_q := 7) rfl rfl rfl ?_
    refine pm_R_icmp pm_M174 (t := 14) (pc_q := 10) rfl rfl rfl (fun c22 => ?_) (fun c22 => ?_)
    · skip
      refine pm_R_op pm_M174 (pc_q := 15) (st_q := [.int 0]) rfl rfl rfl ?_
      refine pm_R_ret pm_M174 (r := some (.int 0)) rfl rfl ?_
      show pm_R _ 177 13 [.ref 41, .int 3, .int a0] [.int 0] _ _
      refine pm_R_ret pm_M177 (r := some (.int 0)) rfl rfl ?_
      show pm_R _ 275 6 [.ref 41, .int a0, .int a1] [.int 0] _ _
      refine pm_R_br pm_M275 (pc_q := 17) (st_q := []) rfl rfl ?_
      refine pm_R_op pm_M275 (pc_q := 18) (st_q := [.int 0]) rfl rfl rfl ?_
      refine pm_R_ret pm_M275 (r := some (.int 0)) rfl rfl ?_
      show pm_R _ 280 11 [.ref 41, .int a0, .int a1, .int a2] [.int 0] _ _
      refine pm_R_br pm_M280 (pc_q := 36) (st_q := []) rfl rfl ?_
      refine pm_R_op pm_M280 (pc_q := 37) (st_q := [.int (-1)]) rfl rfl rfl ?_
      exact pm_R_ret pm_M280 (r := some (.int (-1))) rfl rfl (K (-1) m4 w h1 T2 F6 W9)
    · have B23 : sf_B 0 1 a0 := sf_leL (Int32.not_lt.mp c22) B21 B18
      have B24 : sf_B 0 1 z16 := sf_leR (Int32.not_lt.mp c22) B21 B18
      refine pm_R_op pm_M174 (pc_q := 11) (st_q := [.int 1]) rfl rfl rfl ?_
      refine pm_R_br pm_M174 (pc_q := 15) rfl rfl ?_
      refine pm_R_ret pm_M174 (r := some (.int 1)) rfl rfl ?_
      show pm_R _ 177 13 [.ref 41, .int 3, .int a0] [.int 1] _ _
      refine pm_R_ret pm_M177 (r := some (.int 1)) rfl rfl ?_
      show pm_R _ 275 6 [.ref 41, .int a0, .int a1] [.int 1] _ _
      refine pm_R_br pm_M275 (pc_q := 9) (st_q := []) rfl rfl ?_
      refine pm_R_lo pm_M275 (pc_q := 10) rfl rfl rfl ?_
      refine pm_R_lo pm_M275 (pc_q := 11) rfl rfl rfl ?_
      refine pm_R_cv pm_M275 (pc_q := 14) (a := 41) (ra := [.int a1]) (rest := []) (ls_q := [.ref 41, .int a1, pm_no, pm_no, pm_no, pm_no]) rfl rfl (Or.inl rfl) pm_M254 T2.2.1 rfl (by decide) (Nat.lt_of_lt_of_le (by decide) T2.1) rfl rfl (Nat.le_of_ble_eq_true rfl) rfl rfl ?_
      refine rf_c254 (d := d + 2) T2  (fun r25 m27 w28 h29 T30 F31 W32 B26 => ?_)
      have F33 := F6.trans F31 (by decide)
      have W34 : rf_W [0, 42, 43, 44, 49] m m27 := W9.trans W32 (by decide)
      show pm_R _ 275 14 [.ref 41, .int a0, .int a1] [.int r25] _ _
      refine pm_R_ifc pm_M275 (t := 19) (pc_q := 17) rfl rfl rfl (fun c35 => ?_) (fun c35 => ?_)
      · have B36 : sf_B 1 1 r25 := sf_neL0 c35 sf_k0 B26
        refine pm_R_lo pm_M275 (pc_q := 20) rfl rfl rfl ?_
        refine pm_R_lo pm_M275 (pc_q := 21) rfl rfl rfl ?_
        refine rf_R_put pm_M275 T30 (pc_q := 24) rfl rfl rfl (by decide) rfl rfl B23 rfl rfl (fun h37 m40 em41 T38 F39 => ?_)
        have F42 := F33.trans F39 (by decide)
        have B43 : sf_B 0 1 (m40 49) := by rw [em41]; exact B23
        have ek44 : (m40 49).toInt = (a0).toInt := by rw [em41]; rfl
        have W45 : rf_W [0, 42, 43, 44, 49] m m40 := by rw [em41]; exact W34.put (by decide)
        refine pm_R_op pm_M275 (pc_q := 25) (st_q := [.int 1]) rfl rfl rfl ?_
        refine pm_R_ret pm_M275 (r := some (.int 1)) rfl rfl ?_
        show pm_R _ 280 11 [.ref 41, .int a0, .int a1, .int a2] [.int 1] _ _
        refine pm_R_br pm_M280 (pc_q := 14) (st_q := []) rfl rfl ?_
        refine pm_R_lo pm_M280 (pc_q := 15) rfl rfl rfl ?_
        refine pm_R_op pm_M280 (pc_q := 16) (st_q := [.int (-1), .int a2]) rfl rfl rfl ?_
        refine pm_R_icmp pm_M280 (t := 27) (pc_q := 19) rfl rfl rfl (fun c46 => ?_) (fun c46 => ?_)
        · have B47 : sf_B (-1) (-1) a2 := sf_eqL c46 sf_kn1
          refine pm_R_lo pm_M280 (pc_q := 28) rfl rfl rfl ?_
          refine pm_R_lo pm_M280 (pc_q := 29) rfl rfl rfl ?_
          refine pm_R_op pm_M280 (pc_q := 30) (st_q := [.int (-1), .int a2, .ref 41]) rfl rfl rfl ?_
          refine pm_R_cv pm_M280 (pc_q := 33) (a := 41) (ra := [.int (-1), .int a2]) (rest := []) (ls_q := [.ref 41, .int a2, .int (-1), pm_no, pm_no]) rfl rfl (Or.inl rfl) pm_M281 T38.2.1 rfl (by decide) (Nat.lt_of_lt_of_le (by decide) T38.1) rfl rfl (Nat.le_of_ble_eq_true rfl) rfl rfl ?_
          refine rf_c281 (d := d + 0) T38  (fun r48 => ?_)
          show pm_R _ 280 33 [.ref 41, .int a0, .int a1, .int a2] [.int r48] _ _
          refine pm_R_br pm_M280 (pc_q := 37) rfl rfl ?_
          exact pm_R_ret pm_M280 (r := some (.int r48)) rfl (pm_ret_i _) (K r48 m40 w28 h37 T38 F42 W45)
        · skip
          refine pm_R_lo pm_M280 (pc_q := 20) rfl rfl rfl ?_
          refine pm_R_lo pm_M280 (pc_q := 21) rfl rfl rfl ?_
          refine pm_R_cv pm_M280 (pc_q := 24) (a := 41) (ra := [.int a2]) (rest := []) (ls_q := [.ref 41, .int a2]) rfl rfl (Or.inl rfl) pm_M259 T38.2.1 rfl (by decide) (Nat.lt_of_lt_of_le (by decide) T38.1) rfl rfl (Nat.le_of_ble_eq_true rfl) rfl rfl ?_
          refine pm_R_lo pm_M259 (pc_q := 1) rfl rfl rfl ?_
          refine pm_R_op pm_M259 (pc_q := 2) (st_q := [.int 0, .int a2]) rfl rfl rfl ?_
          refine pm_R_lo pm_M259 (pc_q := 3) rfl rfl rfl ?_
          have B56 : sf_B 0 6 (m40 42) := T38.2.2.1 42
          refine rf_R_get pm_M259 T38 (pc_q := 6) (v := .int (m40 42)) rfl rfl rfl rfl ?_
          refine pm_R_op pm_M259 (pc_q := 7) (st_q := [.int 1, .int (m40 42), .int 0, .int a2]) rfl rfl rfl ?_
          refine sf_R_isub pm_M259 (pc_q := 8) rfl rfl B56 sf_k1 (by decide) (by decide) (fun z57 e58 B59 => ?_)
          refine pm_R_cs pm_M259 (pc_q := 11) (ra := [.int z57, .int 0, .int a2]) (rest := []) (ls_q := [.int a2, .int 0, .int z57]) rfl rfl (Or.inl rfl) pm_M174 rfl rfl (Nat.le_of_ble_eq_true rfl) rfl rfl ?_
          refine pm_R_lo pm_M174 (pc_q := 1) rfl rfl rfl ?_
          refine pm_R_lo pm_M174 (pc_q := 2) rfl rfl rfl ?_
          refine pm_R_icmp pm_M174 (t := 14) (pc_q := 5) rfl rfl rfl (fun c60 => ?_) (fun c60 => ?_)
          · have B61 : sf_B (-2147483648) (-1) a2 := sf_ltL c60 (sf_any a2) sf_k0
            refine pm_R_op pm_M174 (pc_q := 15) (st_q := [.int 0]) rfl rfl rfl ?_
            refine pm_R_ret pm_M174 (r := some (.int 0)) rfl rfl ?_
            show pm_R _ 259 11 [.ref 41, .int a2] [.int 0] _ _
            refine pm_R_ret pm_M259 (r := some (.int 0)) rfl rfl ?_
            show pm_R _ 280 24 [.ref 41, .int a0, .int a1, .int a2] [.int 0] _ _
            refine pm_R_br pm_M280 (pc_q := 36) (st_q := []) rfl rfl ?_
            refine pm_R_op pm_M280 (pc_q := 37) (st_q := [.int (-1)]) rfl rfl rfl ?_
            exact pm_R_ret pm_M280 (r := some (.int (-1))) rfl rfl (K (-1) m40 w28 h37 T38 F42 W45)
          · have B62 : sf_B 0 2147483647 a2 := sf_leR (Int32.not_lt.mp c60) sf_k0 (sf_any a2)
            refine pm_R_lo pm_M174 (pc_q := 6) rfl rfl rfl ?_
            refine pm_R_lo pm_M174 (pc_q := 7) rfl rfl rfl ?_
            refine pm_R_icmp pm_M174 (t := 14) (pc_q := 10) rfl rfl rfl (fun c63 => ?_) (fun c63 => ?_)
            · skip
              refine pm_R_op pm_M174 (pc_q := 15) (st_q := [.int 0]) rfl rfl rfl ?_
              refine pm_R_ret pm_M174 (r := some (.int 0)) rfl rfl ?_
              show pm_R _ 259 11 [.ref 41, .int a2] [.int 0] _ _
              refine pm_R_ret pm_M259 (r := some (.int 0)) rfl rfl ?_
              show pm_R _ 280 24 [.ref 41, .int a0, .int a1, .int a2] [.int 0] _ _
              refine pm_R_br pm_M280 (pc_q := 36) (st_q := []) rfl rfl ?_
              refine pm_R_op pm_M280 (pc_q := 37) (st_q := [.int (-1)]) rfl rfl rfl ?_
              exact pm_R_ret pm_M280 (r := some (.int (-1))) rfl rfl (K (-1) m40 w28 h37 T38 F42 W45)
            · have B64 : sf_B 0 5 a2 := sf_leL (Int32.not_lt.mp c63) B62 B59
              have B65 : sf_B 0 5 z57 := sf_leR (Int32.not_lt.mp c63) B62 B59
              refine pm_R_op pm_M174 (pc_q := 11) (st_q := [.int 1]) rfl rfl rfl ?_
              refine pm_R_br pm_M174 (pc_q := 15) rfl rfl ?_
              refine pm_R_ret pm_M174 (r := some (.int 1)) rfl rfl ?_
              show pm_R _ 259 11 [.ref 41, .int a2] [.int 1] _ _
              refine pm_R_ret pm_M259 (r := some (.int 1)) rfl rfl ?_
              show pm_R _ 280 24 [.ref 41, .int a0, .int a1, .int a2] [.int 1] _ _
              refine pm_R_br pm_M280 (pc_q := 27) (st_q := []) rfl rfl ?_
              refine pm_R_lo pm_M280 (pc_q := 28) rfl rfl rfl ?_
              refine pm_R_lo pm_M280 (pc_q := 29) rfl rfl rfl ?_
              refine pm_R_op pm_M280 (pc_q := 30) (st_q := [.int (-1), .int a2, .ref 41]) rfl rfl rfl ?_
              refine pm_R_cv pm_M280 (pc_q := 33) (a := 41) (ra := [.int (-1), .int a2]) (rest := []) (ls_q := [.ref 41, .int a2, .int (-1), pm_no, pm_no]) rfl rfl (Or.inl rfl) pm_M281 T38.2.1 rfl (by decide) (Nat.lt_of_lt_of_le (by decide) T38.1) rfl rfl (Nat.le_of_ble_eq_true rfl) rfl rfl ?_
              refine rf_c281 (d := d + 0) T38  (fun r66 => ?_)
              show pm_R _ 280 33 [.ref 41, .int a0, .int a1, .int a2] [.int r66] _ _
              refine pm_R_br pm_M280 (pc_q := 37) rfl rfl ?_
              exact pm_R_ret pm_M280 (r := some (.int r66)) rfl (pm_ret_i _) (K r66 m40 w28 h37 T38 F42 W45)
      · have B74 : sf_B 0 0 r25 := sf_eqL (Classical.not_not.mp c35) sf_k0
        refine pm_R_op pm_M275 (pc_q := 18) (st_q := [.int 0]) rfl rfl rfl ?_
        refine pm_R_ret pm_M275 (r := some (.int 0)) rfl rfl ?_
        show pm_R _ 280 11 [.ref 41, .int a0, .int a1, .int a2] [.int 0] _ _
        refine pm_R_br pm_M280 (pc_q := 36) (st_q := []) rfl rfl ?_
        refine pm_R_op pm_M280 (pc_q := 37) (st_q := [.int (-1)]) rfl rfl rfl ?_
        exact pm_R_ret pm_M280 (r := some (.int (-1))) rfl rfl (K (-1) m27 w28 h29 T30 F33 W34)

set_option maxRecDepth 100000 in
set_option maxHeartbeats 4000000 in
/-- SilentTableModel.mildest -/
theorem rf_c282 {d : Nat} {m : Nat → Int32} {w : Int64} {h : pm_H} {Q : Option Value → pm_H → Prop} {a0 : Int32} {a1 : Int32} (T : rf_T m w h)  (K : ∀ (r : Int32) (m_q : Nat → Int32) (w_q : Int64) (h_q : pm_H), rf_T m_q w_q h_q → rf_G [41, 67, 68] h h_q → rf_W [0, 42, 43, 44, 49] m m_q → sf_B (-1) 2147483647 r → Q (some (.int r)) h_q) : pm_R (d + 6) 282 0 [.ref 41, .int a0, .int a1, pm_no, pm_no, pm_no, pm_no] [] h Q := by
  refine pm_R_lo pm_M282 (pc_q := 1) rfl rfl rfl ?_
  refine pm_R_op pm_M282 (pc_q := 2) (st_q := [.int 0, .ref 41]) rfl rfl rfl ?_
  refine rf_R_put pm_M282 T (pc_q := 5) rfl rfl rfl (by decide) rfl rfl sf_k0 rfl rfl (fun h1 m4 em5 T2 F3 => ?_)
  have F6 := (rf_G.refl [41, 67, 68] h).trans F3 (by decide)
  have B7 : sf_B 0 0 (m4 0) := by rw [em5]; exact sf_k0
  have W9 : rf_W [0, 42, 43, 44, 49] m m4 := by rw [em5]; exact (rf_W.refl [0, 42, 43, 44, 49] m).put (by decide)
  refine pm_R_lo pm_M282 (pc_q := 6) rfl rfl rfl ?_
  refine pm_R_lo pm_M282 (pc_q := 7) rfl rfl rfl ?_
  refine pm_R_lo pm_M282 (pc_q := 8) rfl rfl rfl ?_
  refine pm_R_cv pm_M282 (pc_q := 11) (a := 41) (ra := [.int a1, .int a0]) (rest := []) (ls_q := [.ref 41, .int a0, .int a1]) rfl rfl (Or.inl rfl) pm_M275 T2.2.1 rfl (by decide) (Nat.lt_of_lt_of_le (by decide) T2.1) rfl rfl (Nat.le_of_ble_eq_true rfl) rfl rfl ?_
  refine pm_R_lo pm_M275 (pc_q := 1) rfl rfl rfl ?_
  refine pm_R_op pm_M275 (pc_q := 2) (st_q := [.int 3, .ref 41]) rfl rfl rfl ?_
  refine pm_R_lo pm_M275 (pc_q := 3) rfl rfl rfl ?_
  refine pm_R_cv pm_M275 (pc_q := 6) (a := 41) (ra := [.int a0, .int 3]) (rest := []) (ls_q := [.ref 41, .int 3, .int a0]) rfl rfl (Or.inl rfl) pm_M177 T2.2.1 rfl (by decide) (Nat.lt_of_lt_of_le (by decide) T2.1) rfl rfl (Nat.le_of_ble_eq_true rfl) rfl rfl ?_
  refine pm_R_lo pm_M177 (pc_q := 1) rfl rfl rfl ?_
  refine pm_R_op pm_M177 (pc_q := 2) (st_q := [.int 0, .int a0]) rfl rfl rfl ?_
  refine pm_R_lo pm_M177 (pc_q := 3) rfl rfl rfl ?_
  refine rf_R_get pm_M177 T2 (pc_q := 6) (v := .ref 46) rfl rfl rfl rfl ?_
  refine pm_R_lo pm_M177 (pc_q := 7) rfl rfl rfl ?_
  obtain ⟨f10, e11, b12⟩ := T2.2.2.2.1 46 (by decide) (by decide)
  refine rf_R_ild pm_M177 T2 (pc_q := 8) rfl e11 (by decide) rfl rfl (fun z13 ez14 => ?_)
  have B15 : sf_B 0 2 z13 := ez14 ▸ (b12 3)
  refine pm_R_op pm_M177 (pc_q := 9) (st_q := [.int 1, .int z13, .int 0, .int a0]) rfl rfl rfl ?_
  refine sf_R_isub pm_M177 (pc_q := 10) rfl rfl B15 sf_k1 (by decide) (by decide) (fun z16 e17 B18 => ?_)
  refine pm_R_cs pm_M177 (pc_q := 13) (ra := [.int z16, .int 0, .int a0]) (rest := []) (ls_q := [.int a0, .int 0, .int z16]) rfl rfl (Or.inl rfl) pm_M174 rfl rfl (Nat.le_of_ble_eq_true rfl) rfl rfl ?_
  refine pm_R_lo pm_M174 (pc_q := 1) rfl rfl rfl ?_
  refine pm_R_lo pm_M174 (pc_q := 2) rfl rfl rfl ?_
  refine pm_R_icmp pm_M174 (t := 14) (pc_q := 5) rfl rfl rfl (fun c19 => ?_) (fun c19 => ?_)
  · have B20 : sf_B (-2147483648) (-1) a0 := sf_ltL c19 (sf_any a0) sf_k0
    refine pm_R_op pm_M174 (pc_q := 15) (st_q := [.int 0]) rfl rfl rfl ?_
    refine pm_R_ret pm_M174 (r := some (.int 0)) rfl rfl ?_
    show pm_R _ 177 13 [.ref 41, .int 3, .int a0] [.int 0] _ _
    refine pm_R_ret pm_M177 (r := some (.int 0)) rfl rfl ?_
    show pm_R _ 275 6 [.ref 41, .int a0, .int a1] [.int 0] _ _
    refine pm_R_br pm_M275 (pc_q := 17) (st_q := []) rfl rfl ?_
    refine pm_R_op pm_M275 (pc_q := 18) (st_q := [.int 0]) rfl rfl rfl ?_
    refine pm_R_ret pm_M275 (r := some (.int 0)) rfl rfl ?_
    show pm_R _ 282 11 [.ref 41, .int a0, .int a1, pm_no, pm_no, pm_no, pm_no] [.int 0] _ _
    refine pm_R_br pm_M282 (pc_q := 14) (st_q := []) rfl rfl ?_
    refine pm_R_op pm_M282 (pc_q := 15) (st_q := [.int (-1)]) rfl rfl rfl ?_
    exact pm_R_ret pm_M282 (r := some (.int (-1))) rfl rfl (K (-1) m4 w h1 T2 F6 W9 (sf_weak sf_kn1 (by decide) (by decide)))
  · have B21 : sf_B 0 2147483647 a0 := sf_leR (Int32.not_lt.mp c19) sf_k0 (sf_any a0)
    refine pm_R_lo pm_M174 (pc_q := 6) rfl rfl rfl ?_
    refine pm_R_lo pm_M174 (pc_q := 7) rfl rfl rfl ?_
    refine pm_R_icmp pm_M174 (t := 14) (pc_q := 10) rfl rfl rfl (fun c22 => ?_) (fun c22 => ?_)
    · skip
      refine pm_R_op pm_M174 (pc_q := 15) (st_q := [.int 0]) rfl rfl rfl ?_
      refine pm_R_ret pm_M174 (r := some (.int 0)) rfl rfl ?_
      show pm_R _ 177 13 [.ref 41, .int 3, .int a0] [.int 0] _ _
      refine pm_R_ret pm_M177 (r := some (.int 0)) rfl rfl ?_
      show pm_R _ 275 6 [.ref 41, .int a0, .int a1] [.int 0] _ _
      refine pm_R_br pm_M275 (pc_q := 17) (st_q := []) rfl rfl ?_
      refine pm_R_op pm_M275 (pc_q := 18) (st_q := [.int 0]) rfl rfl rfl ?_
      refine pm_R_ret pm_M275 (r := some (.int 0)) rfl rfl ?_
      show pm_R _ 282 11 [.ref 41, .int a0, .int a1, pm_no, pm_no, pm_no, pm_no] [.int 0] _ _
      refine pm_R_br pm_M282 (pc_q := 14) (st_q := []) rfl rfl ?_
      refine pm_R_op pm_M282 (pc_q := 15) (st_q := [.int (-1)]) rfl rfl rfl ?_
      exact pm_R_ret pm_M282 (r := some (.int (-1))) rfl rfl (K (-1) m4 w h1 T2 F6 W9 (sf_weak sf_kn1 (by decide) (by decide)))
    · have B23 : sf_B 0 1 a0 := sf_leL (Int32.not_lt.mp c22) B21 B18
      have B24 : sf_B 0 1 z16 := sf_leR (Int32.not_lt.mp c22) B21 B18
      refine pm_R_op pm_M174 (pc_q := 11) (st_q := [.int 1]) rfl rfl rfl ?_
      refine pm_R_br pm_M174 (pc_q := 15) rfl rfl ?_
      refine pm_R_ret pm_M174 (r := some (.int 1)) rfl rfl ?_
      show pm_R _ 177 13 [.ref 41, .int 3, .int a0] [.int 1] _ _
      refine pm_R_ret pm_M177 (r := some (.int 1)) rfl rfl ?_
      show pm_R _ 275 6 [.ref 41, .int a0, .int a1] [.int 1] _ _
      refine pm_R_br pm_M275 (pc_q := 9) (st_q := []) rfl rfl ?_
      refine pm_R_lo pm_M275 (pc_q := 10) rfl rfl rfl ?_
      refine pm_R_lo pm_M275 (pc_q := 11) rfl rfl rfl ?_
      refine pm_R_cv pm_M275 (pc_q := 14) (a := 41) (ra := [.int a1]) (rest := []) (ls_q := [.ref 41, .int a1, pm_no, pm_no, pm_no, pm_no]) rfl rfl (Or.inl rfl) pm_M254 T2.2.1 rfl (by decide) (Nat.lt_of_lt_of_le (by decide) T2.1) rfl rfl (Nat.le_of_ble_eq_true rfl) rfl rfl ?_
      refine rf_c254 (d := d + 2) T2  (fun r25 m27 w28 h29 T30 F31 W32 B26 => ?_)
      have F33 := F6.trans F31 (by decide)
      have W34 : rf_W [0, 42, 43, 44, 49] m m27 := W9.trans W32 (by decide)
      show pm_R _ 275 14 [.ref 41, .int a0, .int a1] [.int r25] _ _
      refine pm_R_ifc pm_M275 (t := 19) (pc_q := 17) rfl rfl rfl (fun c35 => ?_) (fun c35 => ?_)
      · have B36 : sf_B 1 1 r25 := sf_neL0 c35 sf_k0 B26
        refine pm_R_lo pm_M275 (pc_q := 20) rfl rfl rfl ?_
        refine pm_R_lo pm_M275 (pc_q := 21) rfl rfl rfl ?_
        refine rf_R_put pm_M275 T30 (pc_q := 24) rfl rfl rfl (by decide) rfl rfl B23 rfl rfl (fun h37 m40 em41 T38 F39 => ?_)
        have F42 := F33.trans F39 (by decide)
        have B43 : sf_B 0 1 (m40 49) := by rw [em41]; exact B23
        have ek44 : (m40 49).toInt = (a0).toInt := by rw [em41]; rfl
        have W45 : rf_W [0, 42, 43, 44, 49] m m40 := by rw [em41]; exact W34.put (by decide)
        refine pm_R_op pm_M275 (pc_q := 25) (st_q := [.int 1]) rfl rfl rfl ?_
        refine pm_R_ret pm_M275 (r := some (.int 1)) rfl rfl ?_
        show pm_R _ 282 11 [.ref 41, .int a0, .int a1, pm_no, pm_no, pm_no, pm_no] [.int 1] _ _
        refine pm_R_br pm_M282 (pc_q := 16) (st_q := []) rfl rfl ?_
        refine pm_R_op pm_M282 (pc_q := 17) (st_q := [.int (-1)]) rfl rfl rfl ?_
        refine pm_R_lo pm_M282 (pc_q := 18) (ls_q := [.ref 41, .int a0, .int a1, .int (-1), pm_no, pm_no, pm_no]) (st_q := []) rfl rfl rfl ?_
        refine pm_R_op pm_M282 (pc_q := 20) (st_q := [.int 51]) rfl rfl rfl ?_
        refine pm_R_lo pm_M282 (pc_q := 22) (ls_q := [.ref 41, .int a0, .int a1, .int (-1), .int 51, pm_no, pm_no]) (st_q := []) rfl rfl rfl ?_
        refine pm_R_op pm_M282 (pc_q := 23) (st_q := [.int 0]) rfl rfl rfl ?_
        refine pm_R_lo pm_M282 (pc_q := 25) (ls_q := [.ref 41, .int a0, .int a1, .int (-1), .int 51, .int 0, pm_no]) (st_q := []) rfl rfl rfl ?_
        have L_226 : ∀ (N : Nat) (x3_226 : Int32) (x4_226 : Int32) (x5_226 : Int32) (g6_226 : Value), sf_B (-1) 2147483647 x3_226 → sf_B (-2147483648) 51 x4_226 → sf_B 0 8 x5_226 → g6_226.category = 1 → (8 - x5_226.toInt).toNat = N → pm_R (d + 6) 282 25 [.ref 41, .int a0, .int a1, .int x3_226, .int x4_226, .int x5_226, g6_226] [] h37 Q := by
          intro N
          induction N using Nat.strongRecOn with
          | ind N ih_226 =>
            intro x3_226 x4_226 x5_226 g6_226 Bx3_226 Bx4_226 Bx5_226 Cg6_226 hN_226
            refine pm_R_lo pm_M282 (pc_q := 27) rfl rfl rfl ?_
            refine pm_R_lo pm_M282 (pc_q := 28) rfl rfl rfl ?_
            refine pm_R_cv pm_M282 (pc_q := 31) (a := 41) (ra := []) (rest := [.int x5_226]) (ls_q := [.ref 41]) rfl rfl (Or.inl rfl) pm_M272 T38.2.1 rfl (by decide) (Nat.lt_of_lt_of_le (by decide) T38.1) rfl rfl (Nat.le_of_ble_eq_true rfl) rfl rfl ?_
            refine pm_R_lo pm_M272 (pc_q := 1) rfl rfl rfl ?_
            refine rf_R_get pm_M272 T38 (pc_q := 4) (v := .ref 50) rfl rfl rfl rfl ?_
            refine pm_R_op pm_M272 (pc_q := 6) (st_q := [.int 25, .ref 50]) rfl rfl rfl ?_
            refine pm_R_lo pm_M272 (pc_q := 7) rfl rfl rfl ?_
            refine rf_R_get pm_M272 T38 (pc_q := 10) (v := .int (m40 49)) rfl rfl rfl rfl ?_
            refine sf_R_imul pm_M272 (pc_q := 11) rfl rfl sf_k25 B43 (by decide) (by decide) (by decide) (fun z227 e228 B229 => ?_)
            obtain ⟨f230, e231, b232⟩ := T38.2.2.2.1 50 (by decide) (by decide)
            refine rf_R_ild pm_M272 T38 (pc_q := 12) rfl e231 (by decide) (sf_in B229 (by decide) (by decide)) rfl (fun z233 ez234 => ?_)
            have e235 : (z227).toInt = 25 * (a0).toInt + 0 := (sf_aux27 _ _ _ ek44 e228)
            have B236 : sf_B 0 8 z233 := ez234 ▸ rf_p50a b232 e235 B23 (by decide)
            refine pm_R_ret pm_M272 (r := some (.int z233)) rfl (pm_ret_i _) ?_
            show pm_R _ 282 31 [.ref 41, .int a0, .int a1, .int x3_226, .int x4_226, .int x5_226, g6_226] [.int z233, .int x5_226] _ _
            refine pm_R_icmp pm_M282 (t := 72) (pc_q := 34) rfl rfl rfl (fun c237 => ?_) (fun c237 => ?_)
            · skip
              refine pm_R_lo pm_M282 (pc_q := 73) rfl rfl rfl ?_
              exact pm_R_ret pm_M282 (r := some (.int x3_226)) rfl (pm_ret_i _) (K x3_226 m40 w28 h37 T38 F42 W45 Bx3_226)
            · have B238 : sf_B 0 7 x5_226 := sf_ltL (Int32.not_le.mp c237) Bx5_226 B236
              have B239 : sf_B 1 8 z233 := sf_ltR (Int32.not_le.mp c237) Bx5_226 B236
              refine pm_R_lo pm_M282 (pc_q := 35) rfl rfl rfl ?_
              refine pm_R_op pm_M282 (pc_q := 36) (st_q := [.int (-1), .ref 41]) rfl rfl rfl ?_
              refine pm_R_lo pm_M282 (pc_q := 38) rfl rfl rfl ?_
              refine pm_R_cv pm_M282 (pc_q := 41) (a := 41) (ra := [.int x5_226, .int (-1)]) (rest := []) (ls_q := [.ref 41, .int (-1), .int x5_226, pm_no, pm_no]) rfl rfl (Or.inl rfl) pm_M281 T38.2.1 rfl (by decide) (Nat.lt_of_lt_of_le (by decide) T38.1) rfl rfl (Nat.le_of_ble_eq_true rfl) rfl rfl ?_
              refine rf_c281 (d := d + 0) T38  (fun r240 => ?_)
              show pm_R _ 282 41 [.ref 41, .int a0, .int a1, .int x3_226, .int x4_226, .int x5_226, g6_226] [.int r240] _ _
              refine pm_R_lo pm_M282 (pc_q := 43) (ls_q := [.ref 41, .int a0, .int a1, .int x3_226, .int x4_226, .int x5_226, .int r240]) (st_q := []) rfl rfl rfl ?_
              refine pm_R_lo pm_M282 (pc_q := 45) rfl rfl rfl ?_
              refine pm_R_lo pm_M282 (pc_q := 47) rfl rfl rfl ?_
              refine pm_R_icmp pm_M282 (t := 55) (pc_q := 50) rfl rfl rfl (fun c248 => ?_) (fun c248 => ?_)
              · skip
                refine pm_R_lo pm_M282 (pc_q := 56) rfl rfl rfl ?_
                refine pm_R_lo pm_M282 (pc_q := 57) (ls_q := [.ref 41, .int a0, .int a1, .int x3_226, .int x4_226, .int x5_226, .int r240]) (st_q := []) rfl rfl rfl ?_
                refine pm_R_lo pm_M282 (pc_q := 59) rfl rfl rfl ?_
                refine pm_R_lo pm_M282 (pc_q := 61) rfl rfl rfl ?_
                refine pm_R_cs pm_M282 (pc_q := 64) (ra := [.int x4_226, .int r240]) (rest := []) (ls_q := [.int r240, .int x4_226]) rfl rfl (Or.inl rfl) pm_M283 rfl rfl (Nat.le_of_ble_eq_true rfl) rfl rfl ?_
                refine pm_R_lo pm_M283 (pc_q := 1) rfl rfl rfl ?_
                refine pm_R_lo pm_M283 (pc_q := 2) rfl rfl rfl ?_
                refine pm_R_icmp pm_M283 (t := 9) (pc_q := 5) rfl rfl rfl (fun c249 => ?_) (fun c249 => absurd (Int32.not_le.mp c249) (Int32.not_lt.mpr c248))
                skip
                refine pm_R_lo pm_M283 (pc_q := 10) rfl rfl rfl ?_
                refine pm_R_ret pm_M283 (r := some (.int x4_226)) rfl (pm_ret_i _) ?_
                show pm_R _ 282 64 [.ref 41, .int a0, .int a1, .int x3_226, .int x4_226, .int x5_226, .int r240] [.int x4_226] _ _
                refine pm_R_lo pm_M282 (pc_q := 66) (ls_q := [.ref 41, .int a0, .int a1, .int x3_226, .int x4_226, .int x5_226, .int r240]) (st_q := []) rfl rfl rfl ?_
                refine sf_R_iinc pm_M282 (pc_q := 69) (ls_q := fun z => [.ref 41, .int a0, .int a1, .int x3_226, .int x4_226, .int z, .int r240]) rfl B238 rfl (by decide) (by decide) (by decide) (fun _ => rfl) rfl (fun z250 e251 B252 => ?_)
                show pm_R _ 282 69 [.ref 41, .int a0, .int a1, .int x3_226, .int x4_226, .int z250, .int r240] [] _ _
                refine pm_R_br pm_M282 (pc_q := 25) rfl rfl ?_
                exact ih_226 _ (sf_up hN_226 e251 B238 (by decide) (by decide)) x3_226 x4_226 z250 (.int r240) Bx3_226 Bx4_226 (sf_weak B252 (by decide) (by decide)) rfl rfl
              · have B253 : sf_B (-2147483648) 50 r240 := sf_ltL (Int32.not_le.mp c248) (sf_any r240) Bx4_226
                have B254 : sf_B (-2147483647) 51 x4_226 := sf_ltR (Int32.not_le.mp c248) (sf_any r240) Bx4_226
                refine pm_R_lo pm_M282 (pc_q := 52) rfl rfl rfl ?_
                refine pm_R_br pm_M282 (pc_q := 56) rfl rfl ?_
                refine pm_R_lo pm_M282 (pc_q := 57) (ls_q := [.ref 41, .int a0, .int a1, .int x5_226, .int x4_226, .int x5_226, .int r240]) (st_q := []) rfl rfl rfl ?_
                refine pm_R_lo pm_M282 (pc_q := 59) rfl rfl rfl ?_
                refine pm_R_lo pm_M282 (pc_q := 61) rfl rfl rfl ?_
                refine pm_R_cs pm_M282 (pc_q := 64) (ra := [.int x4_226, .int r240]) (rest := []) (ls_q := [.int r240, .int x4_226]) rfl rfl (Or.inl rfl) pm_M283 rfl rfl (Nat.le_of_ble_eq_true rfl) rfl rfl ?_
                refine pm_R_lo pm_M283 (pc_q := 1) rfl rfl rfl ?_
                refine pm_R_lo pm_M283 (pc_q := 2) rfl rfl rfl ?_
                refine pm_R_icmp pm_M283 (t := 9) (pc_q := 5) rfl rfl rfl (fun c255 => absurd c255 (Int32.not_le.mpr (Int32.not_le.mp c248))) (fun c255 => ?_)
                skip
                refine pm_R_lo pm_M283 (pc_q := 6) rfl rfl rfl ?_
                refine pm_R_br pm_M283 (pc_q := 10) rfl rfl ?_
                refine pm_R_ret pm_M283 (r := some (.int r240)) rfl (pm_ret_i _) ?_
                show pm_R _ 282 64 [.ref 41, .int a0, .int a1, .int x5_226, .int x4_226, .int x5_226, .int r240] [.int r240] _ _
                refine pm_R_lo pm_M282 (pc_q := 66) (ls_q := [.ref 41, .int a0, .int a1, .int x5_226, .int r240, .int x5_226, .int r240]) (st_q := []) rfl rfl rfl ?_
                refine sf_R_iinc pm_M282 (pc_q := 69) (ls_q := fun z => [.ref 41, .int a0, .int a1, .int x5_226, .int r240, .int z, .int r240]) rfl B238 rfl (by decide) (by decide) (by decide) (fun _ => rfl) rfl (fun z256 e257 B258 => ?_)
                show pm_R _ 282 69 [.ref 41, .int a0, .int a1, .int x5_226, .int r240, .int z256, .int r240] [] _ _
                refine pm_R_br pm_M282 (pc_q := 25) rfl rfl ?_
                exact ih_226 _ (sf_up hN_226 e257 B238 (by decide) (by decide)) x5_226 r240 z256 (.int r240) (sf_weak B238 (by decide) (by decide)) (sf_weak B253 (by decide) (by decide)) (sf_weak B258 (by decide) (by decide)) rfl rfl
        exact L_226 _ (-1) 51 0 (pm_no) (sf_weak sf_kn1 (by decide) (by decide)) (sf_weak sf_k51 (by decide) (by decide)) (sf_weak sf_k0 (by decide) (by decide)) rfl rfl
      · have B259 : sf_B 0 0 r25 := sf_eqL (Classical.not_not.mp c35) sf_k0
        refine pm_R_op pm_M275 (pc_q := 18) (st_q := [.int 0]) rfl rfl rfl ?_
        refine pm_R_ret pm_M275 (r := some (.int 0)) rfl rfl ?_
        show pm_R _ 282 11 [.ref 41, .int a0, .int a1, pm_no, pm_no, pm_no, pm_no] [.int 0] _ _
        refine pm_R_br pm_M282 (pc_q := 14) (st_q := []) rfl rfl ?_
        refine pm_R_op pm_M282 (pc_q := 15) (st_q := [.int (-1)]) rfl rfl rfl ?_
        exact pm_R_ret pm_M282 (r := some (.int (-1))) rfl rfl (K (-1) m27 w28 h29 T30 F33 W34 (sf_weak sf_kn1 (by decide) (by decide)))

set_option maxRecDepth 100000 in
set_option maxHeartbeats 4000000 in
/-- SilentTableModel.hears -/
theorem rf_c291 {d : Nat} {m : Nat → Int32} {w : Int64} {h : pm_H} {Q : Option Value → pm_H → Prop} {a0 : Int32} {a1 : Int32} (T : rf_T m w h)  (K : ∀ (r : Int32) (m_q : Nat → Int32) (w_q : Int64) (h_q : pm_H), rf_T m_q w_q h_q → rf_G [41, 67, 68] h h_q → rf_W [0, 42, 43, 44] m m_q → Q (some (.int r)) h_q) : pm_R (d + 4) 291 0 [.ref 41, .int a0, .int a1, pm_no, pm_no, pm_no] [] h Q := by
  refine pm_R_lo pm_M291 (pc_q := 1) rfl rfl rfl ?_
  refine pm_R_op pm_M291 (pc_q := 2) (st_q := [.int 0, .ref 41]) rfl rfl rfl ?_
  refine rf_R_put pm_M291 T (pc_q := 5) rfl rfl rfl (by decide) rfl rfl sf_k0 rfl rfl (fun h1 m4 em5 T2 F3 => ?_)
  have F6 := (rf_G.refl [41, 67, 68] h).trans F3 (by decide)
  have B7 : sf_B 0 0 (m4 0) := by rw [em5]; exact sf_k0
  have W9 : rf_W [0, 42, 43, 44] m m4 := by rw [em5]; exact (rf_W.refl [0, 42, 43, 44] m).put (by decide)
  refine pm_R_lo pm_M291 (pc_q := 6) rfl rfl rfl ?_
  refine pm_R_lo pm_M291 (pc_q := 7) rfl rfl rfl ?_
  refine pm_R_cv pm_M291 (pc_q := 10) (a := 41) (ra := [.int a0]) (rest := []) (ls_q := [.ref 41, .int a0, pm_no, pm_no, pm_no, pm_no]) rfl rfl (Or.inl rfl) pm_M254 T2.2.1 rfl (by decide) (Nat.lt_of_lt_of_le (by decide) T2.1) rfl rfl (Nat.le_of_ble_eq_true rfl) rfl rfl ?_
  refine rf_c254 (d := d + 1) T2  (fun r10 m12 w13 h14 T15 F16 W17 B11 => ?_)
  have F18 := F6.trans F16 (by decide)
  have W19 : rf_W [0, 42, 43, 44] m m12 := W9.trans W17 (by decide)
  show pm_R _ 291 10 [.ref 41, .int a0, .int a1, pm_no, pm_no, pm_no] [.int r10] _ _
  refine pm_R_ifc pm_M291 (t := 16) (pc_q := 13) rfl rfl rfl (fun c20 => ?_) (fun c20 => ?_)
  · have B21 : sf_B 1 1 r10 := sf_neL0 c20 sf_k0 B11
    refine pm_R_lo pm_M291 (pc_q := 17) rfl rfl rfl ?_
    refine pm_R_ifc pm_M291 (t := 25) (pc_q := 20) rfl rfl rfl (fun c22 => ?_) (fun c22 => ?_)
    · skip
      refine pm_R_op pm_M291 (pc_q := 26) (st_q := [.int 0]) rfl rfl rfl ?_
      refine pm_R_lo pm_M291 (pc_q := 27) (ls_q := [.ref 41, .int a0, .int a1, .int 0, pm_no, pm_no]) (st_q := []) rfl rfl rfl ?_
      refine pm_R_op pm_M291 (pc_q := 28) (st_q := [.int 0]) rfl rfl rfl ?_
      refine pm_R_lo pm_M291 (pc_q := 30) (ls_q := [.ref 41, .int a0, .int a1, .int 0, .int 0, pm_no]) (st_q := []) rfl rfl rfl ?_
      refine pm_R_op pm_M291 (pc_q := 31) (st_q := [.int 0]) rfl rfl rfl ?_
      refine pm_R_lo pm_M291 (pc_q := 33) (ls_q := [.ref 41, .int a0, .int a1, .int 0, .int 0, .int 0]) (st_q := []) rfl rfl rfl ?_
      have L_1110 : ∀ (N : Nat) (x3_1110 : Int32) (x4_1110 : Int32) (x5_1110 : Int32), sf_B (-2147483648) 2147483647 x3_1110 → sf_B (-2147483648) 2147483647 x4_1110 → sf_B 0 50 x5_1110 → (50 - x5_1110.toInt).toNat = N → pm_R (d + 4) 291 33 [.ref 41, .int a0, .int a1, .int x3_1110, .int x4_1110, .int x5_1110] [] h14 Q := by
        intro N
        induction N using Nat.strongRecOn with
        | ind N ih_1110 =>
          intro x3_1110 x4_1110 x5_1110 Bx3_1110 Bx4_1110 Bx5_1110 hN_1110
          refine pm_R_lo pm_M291 (pc_q := 35) rfl rfl rfl ?_
          refine pm_R_lo pm_M291 (pc_q := 36) rfl rfl rfl ?_
          have B1111 : sf_B 0 50 (m12 43) := T15.2.2.1 43
          refine rf_R_get pm_M291 T15 (pc_q := 39) (v := .int (m12 43)) rfl rfl rfl rfl ?_
          refine pm_R_icmp pm_M291 (t := 126) (pc_q := 42) rfl rfl rfl (fun c1112 => ?_) (fun c1112 => ?_)
          · skip
            refine pm_R_lo pm_M291 (pc_q := 127) (pm_q291_1 (Nat.le_of_ble_eq_true rfl)) rfl rfl ?_
            refine pm_R_op pm_M291 (pc_q := 128) (st_q := [.int 1, .int a1]) (pm_q291_1 (Nat.le_of_ble_eq_true rfl)) rfl rfl ?_
            refine pm_R_icmp pm_M291 (t := 135) (pc_q := 131) (pm_q291_1 (Nat.le_of_ble_eq_true rfl)) rfl rfl (fun c1113 => ?_) (fun c1113 => ?_)
            · skip
              refine pm_R_lo pm_M291 (pc_q := 136) (pm_q291_1 (Nat.le_of_ble_eq_true rfl)) rfl rfl ?_
              refine pm_R_op pm_M291 (pc_q := 138) (st_q := [.int 10, .int a1]) (pm_q291_1 (Nat.le_of_ble_eq_true rfl)) rfl rfl ?_
              refine pm_R_op pm_M291 (pc_q := 140) (st_q := [.int 9, .int 10, .int a1]) (pm_q291_1 (Nat.le_of_ble_eq_true rfl)) rfl rfl ?_
              refine pm_R_lo pm_M291 (pc_q := 141) (pm_q291_1 (Nat.le_of_ble_eq_true rfl)) rfl rfl ?_
              have B1114 : sf_B 0 6 (m12 42) := T15.2.2.1 42
              refine rf_R_get pm_M291 T15 (pc_q := 144) (v := .int (m12 42)) (pm_q291_1 (Nat.le_of_ble_eq_true rfl)) rfl rfl rfl ?_
              refine sf_R_iadd pm_M291 (pc_q := 145) (pm_q291_1 (Nat.le_of_ble_eq_true rfl)) rfl sf_k9 B1114 (by decide) (by decide) (fun z1115 e1116 B1117 => ?_)
              refine pm_R_cs pm_M291 (pc_q := 148) (ra := [.int z1115, .int 10, .int a1]) (rest := []) (ls_q := [.int a1, .int 10, .int z1115]) (pm_q291_1 (Nat.le_of_ble_eq_true rfl)) rfl (Or.inl rfl) pm_M174 rfl rfl (Nat.le_of_ble_eq_true rfl) rfl rfl ?_
              refine pm_R_lo pm_M174 (pc_q := 1) rfl rfl rfl ?_
              refine pm_R_lo pm_M174 (pc_q := 2) rfl rfl rfl ?_
              refine pm_R_icmp pm_M174 (t := 14) (pc_q := 5) rfl rfl rfl (fun c1118 => ?_) (fun c1118 => ?_)
              · have B1119 : sf_B (-2147483648) 9 a1 := sf_ltL c1118 (sf_any a1) sf_k10
                refine pm_R_op pm_M174 (pc_q := 15) (st_q := [.int 0]) rfl rfl rfl ?_
                refine pm_R_ret pm_M174 (r := some (.int 0)) rfl rfl ?_
                show pm_R _ 291 148 [.ref 41, .int a0, .int a1, .int x3_1110, .int x4_1110, .int x5_1110] [.int 0] _ _
                refine pm_R_br pm_M291 (pc_q := 156) (st_q := []) (pm_q291_1 (Nat.le_of_ble_eq_true rfl)) rfl ?_
                refine pm_R_op pm_M291 (pc_q := 158) (st_q := [.int (-2)]) (pm_q291_1 (Nat.le_of_ble_eq_true rfl)) rfl rfl ?_
                exact pm_R_ret pm_M291 (r := some (.int (-2))) (pm_q291_1 (Nat.le_of_ble_eq_true rfl)) rfl (K (-2) m12 w13 h14 T15 F18 W19)
              · have B1120 : sf_B 10 2147483647 a1 := sf_leR (Int32.not_lt.mp c1118) sf_k10 (sf_any a1)
                refine pm_R_lo pm_M174 (pc_q := 6) rfl rfl rfl ?_
                refine pm_R_lo pm_M174 (pc_q := 7) rfl rfl rfl ?_
                refine pm_R_icmp pm_M174 (t := 14) (pc_q := 10) rfl rfl rfl (fun c1121 => ?_) (fun c1121 => ?_)
                · skip
                  refine pm_R_op pm_M174 (pc_q := 15) (st_q := [.int 0]) rfl rfl rfl ?_
                  refine pm_R_ret pm_M174 (r := some (.int 0)) rfl rfl ?_
                  show pm_R _ 291 148 [.ref 41, .int a0, .int a1, .int x3_1110, .int x4_1110, .int x5_1110] [.int 0] _ _
                  refine pm_R_br pm_M291 (pc_q := 156) (st_q := []) (pm_q291_1 (Nat.le_of_ble_eq_true rfl)) rfl ?_
                  refine pm_R_op pm_M291 (pc_q := 158) (st_q := [.int (-2)]) (pm_q291_1 (Nat.le_of_ble_eq_true rfl)) rfl rfl ?_
                  exact pm_R_ret pm_M291 (r := some (.int (-2))) (pm_q291_1 (Nat.le_of_ble_eq_true rfl)) rfl (K (-2) m12 w13 h14 T15 F18 W19)
                · have B1122 : sf_B 10 15 a1 := sf_leL (Int32.not_lt.mp c1121) B1120 B1117
                  have B1123 : sf_B 10 15 z1115 := sf_leR (Int32.not_lt.mp c1121) B1120 B1117
                  refine pm_R_op pm_M174 (pc_q := 11) (st_q := [.int 1]) rfl rfl rfl ?_
                  refine pm_R_br pm_M174 (pc_q := 15) rfl rfl ?_
                  refine pm_R_ret pm_M174 (r := some (.int 1)) rfl rfl ?_
                  show pm_R _ 291 148 [.ref 41, .int a0, .int a1, .int x3_1110, .int x4_1110, .int x5_1110] [.int 1] _ _
                  refine pm_R_br pm_M291 (pc_q := 151) (st_q := []) (pm_q291_1 (Nat.le_of_ble_eq_true rfl)) rfl ?_
                  refine pm_R_lo pm_M291 (pc_q := 153) (pm_q291_1 (Nat.le_of_ble_eq_true rfl)) rfl rfl ?_
                  refine pm_R_br pm_M291 (pc_q := 158) (pm_q291_1 (Nat.le_of_ble_eq_true rfl)) rfl ?_
                  exact pm_R_ret pm_M291 (r := some (.int x4_1110)) (pm_q291_1 (Nat.le_of_ble_eq_true rfl)) (pm_ret_i _) (K x4_1110 m12 w13 h14 T15 F18 W19)
            · have B1124 : sf_B 1 1 a1 := sf_eqL (Classical.not_not.mp c1113) sf_k1
              refine pm_R_lo pm_M291 (pc_q := 132) (pm_q291_1 (Nat.le_of_ble_eq_true rfl)) rfl rfl ?_
              refine pm_R_br pm_M291 (pc_q := 158) (pm_q291_1 (Nat.le_of_ble_eq_true rfl)) rfl ?_
              exact pm_R_ret pm_M291 (r := some (.int x3_1110)) (pm_q291_1 (Nat.le_of_ble_eq_true rfl)) (pm_ret_i _) (K x3_1110 m12 w13 h14 T15 F18 W19)
          · have B1125 : sf_B 0 49 x5_1110 := sf_ltL (Int32.not_le.mp c1112) Bx5_1110 B1111
            have B1126 : sf_B 1 50 (m12 43) := sf_ltR (Int32.not_le.mp c1112) Bx5_1110 B1111
            refine pm_R_lo pm_M291 (pc_q := 43) rfl rfl rfl ?_
            refine pm_R_lo pm_M291 (pc_q := 44) rfl rfl rfl ?_
            refine pm_R_lo pm_M291 (pc_q := 46) rfl rfl rfl ?_
            refine pm_R_cv pm_M291 (pc_q := 49) (a := 41) (ra := [.int x5_1110]) (rest := [.int x3_1110]) (ls_q := [.ref 41, .int x5_1110]) rfl rfl (Or.inl rfl) pm_M256 T15.2.1 rfl (by decide) (Nat.lt_of_lt_of_le (by decide) T15.1) rfl rfl (Nat.le_of_ble_eq_true rfl) rfl rfl ?_
            refine pm_R_lo pm_M256 (pc_q := 1) rfl rfl rfl ?_
            refine pm_R_lo pm_M256 (pc_q := 2) rfl rfl rfl ?_
            refine pm_R_op pm_M256 (pc_q := 3) (st_q := [.int 0, .int x5_1110, .ref 41]) rfl rfl rfl ?_
            refine pm_R_cv pm_M256 (pc_q := 6) (a := 41) (ra := [.int 0, .int x5_1110]) (rest := []) (ls_q := [.ref 41, .int x5_1110, .int 0]) rfl rfl (Or.inl rfl) pm_M255 T15.2.1 rfl (by decide) (Nat.lt_of_lt_of_le (by decide) T15.1) rfl rfl (Nat.le_of_ble_eq_true rfl) rfl rfl ?_
            refine pm_R_lo pm_M255 (pc_q := 1) rfl rfl rfl ?_
            refine rf_R_get pm_M255 T15 (pc_q := 4) (v := .ref 49) rfl rfl rfl rfl ?_
            refine pm_R_op pm_M255 (pc_q := 7) (st_q := [.int 152, .ref 49]) rfl rfl rfl ?_
            refine pm_R_lo pm_M255 (pc_q := 8) rfl rfl rfl ?_
            have B1127 : sf_B 0 1 (m12 44) := T15.2.2.1 44
            refine rf_R_get pm_M255 T15 (pc_q := 11) (v := .int (m12 44)) rfl rfl rfl rfl ?_
            refine sf_R_imul pm_M255 (pc_q := 12) rfl rfl sf_k152 B1127 (by decide) (by decide) (by decide) (fun z1128 e1129 B1130 => ?_)
            refine pm_R_op pm_M255 (pc_q := 13) (st_q := [.int 2, .int z1128, .ref 49]) rfl rfl rfl ?_
            refine sf_R_iadd pm_M255 (pc_q := 14) rfl rfl B1130 sf_k2 (by decide) (by decide) (fun z1131 e1132 B1133 => ?_)
            refine pm_R_op pm_M255 (pc_q := 15) (st_q := [.int 3, .int z1131, .ref 49]) rfl rfl rfl ?_
            refine pm_R_lo pm_M255 (pc_q := 16) rfl rfl rfl ?_
            refine sf_R_imul pm_M255 (pc_q := 17) rfl rfl sf_k3 B1125 (by decide) (by decide) (by decide) (fun z1134 e1135 B1136 => ?_)
            refine sf_R_iadd pm_M255 (pc_q := 18) rfl rfl B1133 B1136 (by decide) (by decide) (fun z1137 e1138 B1139 => ?_)
            refine pm_R_lo pm_M255 (pc_q := 19) rfl rfl rfl ?_
            refine sf_R_iadd pm_M255 (pc_q := 20) rfl rfl B1139 sf_k0 (by decide) (by decide) (fun z1140 e1141 B1142 => ?_)
            obtain ⟨f1143, e1144, b1145⟩ := T15.2.2.2.1 49 (by decide) (by decide)
            refine rf_R_ild pm_M255 T15 (pc_q := 21) rfl e1144 (by decide) (sf_in B1142 (by decide) (by decide)) rfl (fun z1146 ez1147 => ?_)
            have e1148 : (z1140).toInt = 152 * ((m12 44)).toInt + 3 * (x5_1110).toInt + 2 := (sf_aux18 _ _ _ _ _ _ _ e1129 e1132 e1135 e1138 e1141)
            have B1149 : sf_B 0 2 z1146 := ez1147 ▸ rf_p49s b1145 e1148 B1127 B1125 (by decide) (by decide) (by decide)
            refine pm_R_ret pm_M255 (r := some (.int z1146)) rfl (pm_ret_i _) ?_
            show pm_R _ 256 6 [.ref 41, .int x5_1110] [.int z1146] _ _
            refine pm_R_op pm_M256 (pc_q := 7) (st_q := [.int 2, .int z1146]) rfl rfl rfl ?_
            refine pm_R_icmp pm_M256 (t := 14) (pc_q := 10) rfl rfl rfl (fun c1150 => ?_) (fun c1150 => ?_)
            · have B1151 : sf_B 0 1 z1146 := sf_neH0 c1150 sf_k2 B1149
              refine pm_R_op pm_M256 (pc_q := 15) (st_q := [.int 0]) rfl rfl rfl ?_
              refine pm_R_ret pm_M256 (r := some (.int 0)) rfl rfl ?_
              show pm_R _ 291 49 [.ref 41, .int a0, .int a1, .int x3_1110, .int x4_1110, .int x5_1110] [.int 0, .int x3_1110] _ _
              refine pm_R_br pm_M291 (pc_q := 78) (st_q := [.int x3_1110]) rfl rfl ?_
              refine pm_R_op pm_M291 (pc_q := 79) (st_q := [.int 0, .int x3_1110]) rfl rfl rfl ?_
              refine sf_R_iadd pm_M291 (pc_q := 80) rfl rfl Bx3_1110 sf_k0 (by decide) (by decide) (fun z1152 e1153 B1154 => ?_)
              refine pm_R_lo pm_M291 (pc_q := 81) (ls_q := [.ref 41, .int a0, .int a1, .int z1152, .int x4_1110, .int x5_1110]) (st_q := []) rfl rfl rfl ?_
              refine pm_R_lo pm_M291 (pc_q := 83) rfl rfl rfl ?_
              refine pm_R_lo pm_M291 (pc_q := 84) rfl rfl rfl ?_
              refine pm_R_op pm_M291 (pc_q := 86) (st_q := [.int 10, .int a1, .int x4_1110]) rfl rfl rfl ?_
              refine pm_R_op pm_M291 (pc_q := 88) (st_q := [.int 15, .int 10, .int a1, .int x4_1110]) rfl rfl rfl ?_
              refine pm_R_cs pm_M291 (pc_q := 91) (ra := [.int 15, .int 10, .int a1]) (rest := [.int x4_1110]) (ls_q := [.int a1, .int 10, .int 15]) rfl rfl (Or.inl rfl) pm_M174 rfl rfl (Nat.le_of_ble_eq_true rfl) rfl rfl ?_
              refine pm_R_lo pm_M174 (pc_q := 1) rfl rfl rfl ?_
              refine pm_R_lo pm_M174 (pc_q := 2) rfl rfl rfl ?_
              refine pm_R_icmp pm_M174 (t := 14) (pc_q := 5) rfl rfl rfl (fun c1155 => ?_) (fun c1155 => ?_)
              · have B1156 : sf_B (-2147483648) 9 a1 := sf_ltL c1155 (sf_any a1) sf_k10
                refine pm_R_op pm_M174 (pc_q := 15) (st_q := [.int 0]) rfl rfl rfl ?_
                refine pm_R_ret pm_M174 (r := some (.int 0)) rfl rfl ?_
                show pm_R _ 291 91 [.ref 41, .int a0, .int a1, .int z1152, .int x4_1110, .int x5_1110] [.int 0, .int x4_1110] _ _
                refine pm_R_br pm_M291 (pc_q := 116) (st_q := [.int x4_1110]) rfl rfl ?_
                refine pm_R_op pm_M291 (pc_q := 117) (st_q := [.int 0, .int x4_1110]) (pm_q291_1 (Nat.le_of_ble_eq_true rfl)) rfl rfl ?_
                refine sf_R_iadd pm_M291 (pc_q := 118) (pm_q291_1 (Nat.le_of_ble_eq_true rfl)) rfl Bx4_1110 sf_k0 (by decide) (by decide) (fun z1157 e1158 B1159 => ?_)
                refine pm_R_lo pm_M291 (pc_q := 120) (ls_q := [.ref 41, .int a0, .int a1, .int z1152, .int z1157, .int x5_1110]) (st_q := []) (pm_q291_1 (Nat.le_of_ble_eq_true rfl)) rfl rfl ?_
                refine sf_R_iinc pm_M291 (pc_q := 123) (ls_q := fun z => [.ref 41, .int a0, .int a1, .int z1152, .int z1157, .int z]) (pm_q291_1 (Nat.le_of_ble_eq_true rfl)) B1125 rfl (by decide) (by decide) (by decide) (fun _ => rfl) rfl (fun z1160 e1161 B1162 => ?_)
                show pm_R _ 291 123 [.ref 41, .int a0, .int a1, .int z1152, .int z1157, .int z1160] [] _ _
                refine pm_R_br pm_M291 (pc_q := 33) (pm_q291_1 (Nat.le_of_ble_eq_true rfl)) rfl ?_
                exact ih_1110 _ (sf_up hN_1110 e1161 B1125 (by decide) (by decide)) z1152 z1157 z1160 B1154 B1159 (sf_weak B1162 (by decide) (by decide)) rfl
              · have B1163 : sf_B 10 2147483647 a1 := sf_leR (Int32.not_lt.mp c1155) sf_k10 (sf_any a1)
                refine pm_R_lo pm_M174 (pc_q := 6) rfl rfl rfl ?_
                refine pm_R_lo pm_M174 (pc_q := 7) rfl rfl rfl ?_
                refine pm_R_icmp pm_M174 (t := 14) (pc_q := 10) rfl rfl rfl (fun c1164 => ?_) (fun c1164 => ?_)
                · have B1165 : sf_B 16 2147483647 a1 := sf_ltR c1164 sf_k15 B1163
                  refine pm_R_op pm_M174 (pc_q := 15) (st_q := [.int 0]) rfl rfl rfl ?_
                  refine pm_R_ret pm_M174 (r := some (.int 0)) rfl rfl ?_
                  show pm_R _ 291 91 [.ref 41, .int a0, .int a1, .int z1152, .int x4_1110, .int x5_1110] [.int 0, .int x4_1110] _ _
                  refine pm_R_br pm_M291 (pc_q := 116) (st_q := [.int x4_1110]) rfl rfl ?_
                  refine pm_R_op pm_M291 (pc_q := 117) (st_q := [.int 0, .int x4_1110]) (pm_q291_1 (Nat.le_of_ble_eq_true rfl)) rfl rfl ?_
                  refine sf_R_iadd pm_M291 (pc_q := 118) (pm_q291_1 (Nat.le_of_ble_eq_true rfl)) rfl Bx4_1110 sf_k0 (by decide) (by decide) (fun z1166 e1167 B1168 => ?_)
                  refine pm_R_lo pm_M291 (pc_q := 120) (ls_q := [.ref 41, .int a0, .int a1, .int z1152, .int z1166, .int x5_1110]) (st_q := []) (pm_q291_1 (Nat.le_of_ble_eq_true rfl)) rfl rfl ?_
                  refine sf_R_iinc pm_M291 (pc_q := 123) (ls_q := fun z => [.ref 41, .int a0, .int a1, .int z1152, .int z1166, .int z]) (pm_q291_1 (Nat.le_of_ble_eq_true rfl)) B1125 rfl (by decide) (by decide) (by decide) (fun _ => rfl) rfl (fun z1169 e1170 B1171 => ?_)
                  show pm_R _ 291 123 [.ref 41, .int a0, .int a1, .int z1152, .int z1166, .int z1169] [] _ _
                  refine pm_R_br pm_M291 (pc_q := 33) (pm_q291_1 (Nat.le_of_ble_eq_true rfl)) rfl ?_
                  exact ih_1110 _ (sf_up hN_1110 e1170 B1125 (by decide) (by decide)) z1152 z1166 z1169 B1154 B1168 (sf_weak B1171 (by decide) (by decide)) rfl
                · have B1172 : sf_B 10 15 a1 := sf_leL (Int32.not_lt.mp c1164) B1163 sf_k15
                  refine pm_R_op pm_M174 (pc_q := 11) (st_q := [.int 1]) rfl rfl rfl ?_
                  refine pm_R_br pm_M174 (pc_q := 15) rfl rfl ?_
                  refine pm_R_ret pm_M174 (r := some (.int 1)) rfl rfl ?_
                  show pm_R _ 291 91 [.ref 41, .int a0, .int a1, .int z1152, .int x4_1110, .int x5_1110] [.int 1, .int x4_1110] _ _
                  refine pm_R_br pm_M291 (pc_q := 94) (st_q := [.int x4_1110]) rfl rfl ?_
                  refine pm_R_lo pm_M291 (pc_q := 95) rfl rfl rfl ?_
                  refine rf_R_get pm_M291 T15 (pc_q := 98) (v := .ref 68) rfl rfl rfl rfl ?_
                  refine pm_R_lo pm_M291 (pc_q := 100) rfl rfl rfl ?_
                  obtain ⟨f1173, e1174⟩ := T15.2.2.2.1 68 (by decide) (by decide)
                  refine rf_R_ild pm_M291 T15 (pc_q := 101) rfl e1174 (by decide) (sf_in B1125 (by decide) (by decide)) rfl (fun z1176 ez1177 => ?_)
                  refine sf_R_lany pm_M291 (pc_q := 102) (st := [.int x4_1110]) rfl rfl rfl (fun z1178 => ?_)
                  refine pm_R_lo pm_M291 (pc_q := 103) rfl rfl rfl ?_
                  refine pm_R_op pm_M291 (pc_q := 105) (st_q := [.int 10, .int a1, .long z1178, .int x4_1110]) rfl rfl rfl ?_
                  refine sf_R_isub pm_M291 (pc_q := 106) (pm_q291_1 (Nat.le_of_ble_eq_true rfl)) rfl B1172 sf_k10 (by decide) (by decide) (fun z1179 e1180 B1181 => ?_)
                  refine pm_R_cs pm_M291 (pc_q := 109) (ra := [.int z1179, .long z1178]) (rest := [.int x4_1110]) (ls_q := [.long z1178, pm_no, .int z1179]) (pm_q291_1 (Nat.le_of_ble_eq_true rfl)) rfl (Or.inl rfl) pm_M206 rfl rfl (Nat.le_of_ble_eq_true rfl) rfl rfl ?_
                  refine pm_R_lo pm_M206 (pc_q := 1) rfl rfl rfl ?_
                  refine pm_R_lo pm_M206 (pc_q := 2) rfl rfl rfl ?_
                  refine sf_R_lany pm_M206 (pc_q := 3) (st := []) rfl rfl rfl (fun z1182 => ?_)
                  refine pm_R_op pm_M206 (pc_q := 4) (st_q := [.long 1, .long z1182]) rfl rfl rfl ?_
                  refine sf_R_lany pm_M206 (pc_q := 5) (st := []) rfl rfl rfl (fun z1183 => ?_)
                  refine pm_R_op pm_M206 (pc_q := 6) (st_q := [.long 1, .long z1183]) rfl rfl rfl ?_
                  refine sf_R_lcmp pm_M206 (pc_q := 7) rfl rfl (fun z1184 e1185 => ?_)
                  refine pm_R_ifc pm_M206 (t := 14) (pc_q := 10) rfl rfl rfl (fun c1186 => ?_) (fun c1186 => ?_)
                  · have k1187 := sf_lneC e1185 c1186
                    refine pm_R_op pm_M206 (pc_q := 15) (st_q := [.int 0]) rfl rfl rfl ?_
                    refine pm_R_ret pm_M206 (r := some (.int 0)) rfl rfl ?_
                    show pm_R _ 291 109 [.ref 41, .int a0, .int a1, .int z1152, .int x4_1110, .int x5_1110] [.int 0, .int x4_1110] _ _
                    refine pm_R_br pm_M291 (pc_q := 116) (st_q := [.int x4_1110]) (pm_q291_1 (Nat.le_of_ble_eq_true rfl)) rfl ?_
                    refine pm_R_op pm_M291 (pc_q := 117) (st_q := [.int 0, .int x4_1110]) (pm_q291_1 (Nat.le_of_ble_eq_true rfl)) rfl rfl ?_
                    refine sf_R_iadd pm_M291 (pc_q := 118) (pm_q291_1 (Nat.le_of_ble_eq_true rfl)) rfl Bx4_1110 sf_k0 (by decide) (by decide) (fun z1188 e1189 B1190 => ?_)
                    refine pm_R_lo pm_M291 (pc_q := 120) (ls_q := [.ref 41, .int a0, .int a1, .int z1152, .int z1188, .int x5_1110]) (st_q := []) (pm_q291_1 (Nat.le_of_ble_eq_true rfl)) rfl rfl ?_
                    refine sf_R_iinc pm_M291 (pc_q := 123) (ls_q := fun z => [.ref 41, .int a0, .int a1, .int z1152, .int z1188, .int z]) (pm_q291_1 (Nat.le_of_ble_eq_true rfl)) B1125 rfl (by decide) (by decide) (by decide) (fun _ => rfl) rfl (fun z1191 e1192 B1193 => ?_)
                    show pm_R _ 291 123 [.ref 41, .int a0, .int a1, .int z1152, .int z1188, .int z1191] [] _ _
                    refine pm_R_br pm_M291 (pc_q := 33) (pm_q291_1 (Nat.le_of_ble_eq_true rfl)) rfl ?_
                    exact ih_1110 _ (sf_up hN_1110 e1192 B1125 (by decide) (by decide)) z1152 z1188 z1191 B1154 B1190 (sf_weak B1193 (by decide) (by decide)) rfl
                  · have B1194 : sf_B 0 0 z1184 := sf_eqL (Classical.not_not.mp c1186) sf_k0
                    have B1195 : lf_B 1 1 z1183 := lf_eqB e1185 B1194 (⟨by decide, by decide⟩ : lf_B 1 1 1)
                    refine pm_R_op pm_M206 (pc_q := 11) (st_q := [.int 1]) rfl rfl rfl ?_
                    refine pm_R_br pm_M206 (pc_q := 15) rfl rfl ?_
                    refine pm_R_ret pm_M206 (r := some (.int 1)) rfl rfl ?_
                    show pm_R _ 291 109 [.ref 41, .int a0, .int a1, .int z1152, .int x4_1110, .int x5_1110] [.int 1, .int x4_1110] _ _
                    refine pm_R_br pm_M291 (pc_q := 112) (st_q := [.int x4_1110]) (pm_q291_1 (Nat.le_of_ble_eq_true rfl)) rfl ?_
                    refine pm_R_op pm_M291 (pc_q := 113) (st_q := [.int 1, .int x4_1110]) (pm_q291_1 (Nat.le_of_ble_eq_true rfl)) rfl rfl ?_
                    refine pm_R_br pm_M291 (pc_q := 117) (pm_q291_1 (Nat.le_of_ble_eq_true rfl)) rfl ?_
                    refine sf_R_iany pm_M291 (pc_q := 118) (st := []) (pm_q291_1 (Nat.le_of_ble_eq_true rfl)) rfl rfl (fun z1199 => ?_)
                    refine pm_R_lo pm_M291 (pc_q := 120) (ls_q := [.ref 41, .int a0, .int a1, .int z1152, .int z1199, .int x5_1110]) (st_q := []) (pm_q291_1 (Nat.le_of_ble_eq_true rfl)) rfl rfl ?_
                    refine sf_R_iinc pm_M291 (pc_q := 123) (ls_q := fun z => [.ref 41, .int a0, .int a1, .int z1152, .int z1199, .int z]) (pm_q291_1 (Nat.le_of_ble_eq_true rfl)) B1125 rfl (by decide) (by decide) (by decide) (fun _ => rfl) rfl (fun z1200 e1201 B1202 => ?_)
                    show pm_R _ 291 123 [.ref 41, .int a0, .int a1, .int z1152, .int z1199, .int z1200] [] _ _
                    refine pm_R_br pm_M291 (pc_q := 33) (pm_q291_1 (Nat.le_of_ble_eq_true rfl)) rfl ?_
                    exact ih_1110 _ (sf_up hN_1110 e1201 B1125 (by decide) (by decide)) z1152 z1199 z1200 B1154 (sf_any z1199) (sf_weak B1202 (by decide) (by decide)) rfl
            · have B1203 : sf_B 2 2 z1146 := sf_eqL (Classical.not_not.mp c1150) sf_k2
              refine pm_R_op pm_M256 (pc_q := 11) (st_q := [.int 1]) rfl rfl rfl ?_
              refine pm_R_br pm_M256 (pc_q := 15) rfl rfl ?_
              refine pm_R_ret pm_M256 (r := some (.int 1)) rfl rfl ?_
              show pm_R _ 291 49 [.ref 41, .int a0, .int a1, .int x3_1110, .int x4_1110, .int x5_1110] [.int 1, .int x3_1110] _ _
              refine pm_R_br pm_M291 (pc_q := 52) (st_q := [.int x3_1110]) rfl rfl ?_
              refine pm_R_lo pm_M291 (pc_q := 53) rfl rfl rfl ?_
              refine rf_R_get pm_M291 T15 (pc_q := 56) (v := .ref 67) rfl rfl rfl rfl ?_
              refine pm_R_op pm_M291 (pc_q := 58) (st_q := [.int 6, .ref 67, .int x3_1110]) rfl rfl rfl ?_
              refine pm_R_lo pm_M291 (pc_q := 60) rfl rfl rfl ?_
              refine sf_R_imul pm_M291 (pc_q := 61) rfl rfl sf_k6 B1125 (by decide) (by decide) (by decide) (fun z1204 e1205 B1206 => ?_)
              refine pm_R_lo pm_M291 (pc_q := 62) rfl rfl rfl ?_
              refine pm_R_lo pm_M291 (pc_q := 64) rfl rfl rfl ?_
              refine pm_R_op pm_M291 (pc_q := 65) (st_q := [.int 1, .int x5_1110, .ref 41, .int z1204, .ref 67, .int x3_1110]) rfl rfl rfl ?_
              refine pm_R_cv pm_M291 (pc_q := 68) (a := 41) (ra := [.int 1, .int x5_1110]) (rest := [.int z1204, .ref 67, .int x3_1110]) (ls_q := [.ref 41, .int x5_1110, .int 1]) rfl rfl (Or.inl rfl) pm_M255 T15.2.1 rfl (by decide) (Nat.lt_of_lt_of_le (by decide) T15.1) rfl rfl (Nat.le_of_ble_eq_true rfl) rfl rfl ?_
              refine pm_R_lo pm_M255 (pc_q := 1) rfl rfl rfl ?_
              refine rf_R_get pm_M255 T15 (pc_q := 4) (v := .ref 49) rfl rfl rfl rfl ?_
              refine pm_R_op pm_M255 (pc_q := 7) (st_q := [.int 152, .ref 49]) rfl rfl rfl ?_
              refine pm_R_lo pm_M255 (pc_q := 8) rfl rfl rfl ?_
              refine rf_R_get pm_M255 T15 (pc_q := 11) (v := .int (m12 44)) rfl rfl rfl rfl ?_
              refine sf_R_imulV pm_M255 (pc_q := 12) rfl rfl sf_k152 B1127 (by decide) (by decide) (by decide) e1129 ?_
              refine pm_R_op pm_M255 (pc_q := 13) (st_q := [.int 2, .int z1128, .ref 49]) rfl rfl rfl ?_
              refine sf_R_iaddV pm_M255 (pc_q := 14) rfl rfl B1130 sf_k2 (by decide) (by decide) e1132 ?_
              refine pm_R_op pm_M255 (pc_q := 15) (st_q := [.int 3, .int z1131, .ref 49]) rfl rfl rfl ?_
              refine pm_R_lo pm_M255 (pc_q := 16) rfl rfl rfl ?_
              refine sf_R_imulV pm_M255 (pc_q := 17) rfl rfl sf_k3 B1125 (by decide) (by decide) (by decide) e1135 ?_
              refine sf_R_iaddV pm_M255 (pc_q := 18) rfl rfl B1133 B1136 (by decide) (by decide) e1138 ?_
              refine pm_R_lo pm_M255 (pc_q := 19) rfl rfl rfl ?_
              refine sf_R_iadd pm_M255 (pc_q := 20) rfl rfl B1139 sf_k1 (by decide) (by decide) (fun z1207 e1208 B1209 => ?_)
              refine rf_R_ild pm_M255 T15 (pc_q := 21) rfl e1144 (by decide) (sf_in B1209 (by decide) (by decide)) rfl (fun z1210 ez1211 => ?_)
              have e1212 : (z1207).toInt = 152 * ((m12 44)).toInt + 3 * (x5_1110).toInt + 3 := (sf_aux17 _ _ _ _ _ _ _ e1129 e1132 e1135 e1138 e1208)
              have B1213 : sf_B 0 5 z1210 := ez1211 ▸ rf_p49w b1145 e1212 B1127 B1125 (by decide) (by decide) (by decide)
              refine pm_R_ret pm_M255 (r := some (.int z1210)) rfl (pm_ret_i _) ?_
              show pm_R _ 291 68 [.ref 41, .int a0, .int a1, .int x3_1110, .int x4_1110, .int x5_1110] [.int z1210, .int z1204, .ref 67, .int x3_1110] _ _
              refine sf_R_iadd pm_M291 (pc_q := 69) rfl rfl B1206 B1213 (by decide) (by decide) (fun z1214 e1215 B1216 => ?_)
              obtain ⟨f1217, e1218⟩ := T15.2.2.2.1 67 (by decide) (by decide)
              refine rf_R_ild pm_M291 T15 (pc_q := 70) rfl e1218 (by decide) (sf_in B1216 (by decide) (by decide)) rfl (fun z1220 ez1221 => ?_)
              refine pm_R_op pm_M291 (pc_q := 71) (st_q := [.int (-1), .int z1220, .int x3_1110]) rfl rfl rfl ?_
              refine pm_R_icmp pm_M291 (t := 78) (pc_q := 74) rfl rfl rfl (fun c1222 => ?_) (fun c1222 => ?_)
              · skip
                refine pm_R_op pm_M291 (pc_q := 79) (st_q := [.int 0, .int x3_1110]) rfl rfl rfl ?_
                refine sf_R_iadd pm_M291 (pc_q := 80) rfl rfl Bx3_1110 sf_k0 (by decide) (by decide) (fun z1223 e1224 B1225 => ?_)
                refine pm_R_lo pm_M291 (pc_q := 81) (ls_q := [.ref 41, .int a0, .int a1, .int z1223, .int x4_1110, .int x5_1110]) (st_q := []) rfl rfl rfl ?_
                refine pm_R_lo pm_M291 (pc_q := 83) rfl rfl rfl ?_
                refine pm_R_lo pm_M291 (pc_q := 84) rfl rfl rfl ?_
                refine pm_R_op pm_M291 (pc_q := 86) (st_q := [.int 10, .int a1, .int x4_1110]) rfl rfl rfl ?_
                refine pm_R_op pm_M291 (pc_q := 88) (st_q := [.int 15, .int 10, .int a1, .int x4_1110]) rfl rfl rfl ?_
                refine pm_R_cs pm_M291 (pc_q := 91) (ra := [.int 15, .int 10, .int a1]) (rest := [.int x4_1110]) (ls_q := [.int a1, .int 10, .int 15]) rfl rfl (Or.inl rfl) pm_M174 rfl rfl (Nat.le_of_ble_eq_true rfl) rfl rfl ?_
                refine pm_R_lo pm_M174 (pc_q := 1) rfl rfl rfl ?_
                refine pm_R_lo pm_M174 (pc_q := 2) rfl rfl rfl ?_
                refine pm_R_icmp pm_M174 (t := 14) (pc_q := 5) rfl rfl rfl (fun c1226 => ?_) (fun c1226 => ?_)
                · have B1227 : sf_B (-2147483648) 9 a1 := sf_ltL c1226 (sf_any a1) sf_k10
                  refine pm_R_op pm_M174 (pc_q := 15) (st_q := [.int 0]) rfl rfl rfl ?_
                  refine pm_R_ret pm_M174 (r := some (.int 0)) rfl rfl ?_
                  show pm_R _ 291 91 [.ref 41, .int a0, .int a1, .int z1223, .int x4_1110, .int x5_1110] [.int 0, .int x4_1110] _ _
                  refine pm_R_br pm_M291 (pc_q := 116) (st_q := [.int x4_1110]) rfl rfl ?_
                  refine pm_R_op pm_M291 (pc_q := 117) (st_q := [.int 0, .int x4_1110]) (pm_q291_1 (Nat.le_of_ble_eq_true rfl)) rfl rfl ?_
                  refine sf_R_iadd pm_M291 (pc_q := 118) (pm_q291_1 (Nat.le_of_ble_eq_true rfl)) rfl Bx4_1110 sf_k0 (by decide) (by decide) (fun z1228 e1229 B1230 => ?_)
                  refine pm_R_lo pm_M291 (pc_q := 120) (ls_q := [.ref 41, .int a0, .int a1, .int z1223, .int z1228, .int x5_1110]) (st_q := []) (pm_q291_1 (Nat.le_of_ble_eq_true rfl)) rfl rfl ?_
                  refine sf_R_iinc pm_M291 (pc_q := 123) (ls_q := fun z => [.ref 41, .int a0, .int a1, .int z1223, .int z1228, .int z]) (pm_q291_1 (Nat.le_of_ble_eq_true rfl)) B1125 rfl (by decide) (by decide) (by decide) (fun _ => rfl) rfl (fun z1231 e1232 B1233 => ?_)
                  show pm_R _ 291 123 [.ref 41, .int a0, .int a1, .int z1223, .int z1228, .int z1231] [] _ _
                  refine pm_R_br pm_M291 (pc_q := 33) (pm_q291_1 (Nat.le_of_ble_eq_true rfl)) rfl ?_
                  exact ih_1110 _ (sf_up hN_1110 e1232 B1125 (by decide) (by decide)) z1223 z1228 z1231 B1225 B1230 (sf_weak B1233 (by decide) (by decide)) rfl
                · have B1234 : sf_B 10 2147483647 a1 := sf_leR (Int32.not_lt.mp c1226) sf_k10 (sf_any a1)
                  refine pm_R_lo pm_M174 (pc_q := 6) rfl rfl rfl ?_
                  refine pm_R_lo pm_M174 (pc_q := 7) rfl rfl rfl ?_
                  refine pm_R_icmp pm_M174 (t := 14) (pc_q := 10) rfl rfl rfl (fun c1235 => ?_) (fun c1235 => ?_)
                  · have B1236 : sf_B 16 2147483647 a1 := sf_ltR c1235 sf_k15 B1234
                    refine pm_R_op pm_M174 (pc_q := 15) (st_q := [.int 0]) rfl rfl rfl ?_
                    refine pm_R_ret pm_M174 (r := some (.int 0)) rfl rfl ?_
                    show pm_R _ 291 91 [.ref 41, .int a0, .int a1, .int z1223, .int x4_1110, .int x5_1110] [.int 0, .int x4_1110] _ _
                    refine pm_R_br pm_M291 (pc_q := 116) (st_q := [.int x4_1110]) rfl rfl ?_
                    refine pm_R_op pm_M291 (pc_q := 117) (st_q := [.int 0, .int x4_1110]) (pm_q291_1 (Nat.le_of_ble_eq_true rfl)) rfl rfl ?_
                    refine sf_R_iadd pm_M291 (pc_q := 118) (pm_q291_1 (Nat.le_of_ble_eq_true rfl)) rfl Bx4_1110 sf_k0 (by decide) (by decide) (fun z1237 e1238 B1239 => ?_)
                    refine pm_R_lo pm_M291 (pc_q := 120) (ls_q := [.ref 41, .int a0, .int a1, .int z1223, .int z1237, .int x5_1110]) (st_q := []) (pm_q291_1 (Nat.le_of_ble_eq_true rfl)) rfl rfl ?_
                    refine sf_R_iinc pm_M291 (pc_q := 123) (ls_q := fun z => [.ref 41, .int a0, .int a1, .int z1223, .int z1237, .int z]) (pm_q291_1 (Nat.le_of_ble_eq_true rfl)) B1125 rfl (by decide) (by decide) (by decide) (fun _ => rfl) rfl (fun z1240 e1241 B1242 => ?_)
                    show pm_R _ 291 123 [.ref 41, .int a0, .int a1, .int z1223, .int z1237, .int z1240] [] _ _
                    refine pm_R_br pm_M291 (pc_q := 33) (pm_q291_1 (Nat.le_of_ble_eq_true rfl)) rfl ?_
                    exact ih_1110 _ (sf_up hN_1110 e1241 B1125 (by decide) (by decide)) z1223 z1237 z1240 B1225 B1239 (sf_weak B1242 (by decide) (by decide)) rfl
                  · have B1243 : sf_B 10 15 a1 := sf_leL (Int32.not_lt.mp c1235) B1234 sf_k15
                    refine pm_R_op pm_M174 (pc_q := 11) (st_q := [.int 1]) rfl rfl rfl ?_
                    refine pm_R_br pm_M174 (pc_q := 15) rfl rfl ?_
                    refine pm_R_ret pm_M174 (r := some (.int 1)) rfl rfl ?_
                    show pm_R _ 291 91 [.ref 41, .int a0, .int a1, .int z1223, .int x4_1110, .int x5_1110] [.int 1, .int x4_1110] _ _
                    refine pm_R_br pm_M291 (pc_q := 94) (st_q := [.int x4_1110]) rfl rfl ?_
                    refine pm_R_lo pm_M291 (pc_q := 95) rfl rfl rfl ?_
                    refine rf_R_get pm_M291 T15 (pc_q := 98) (v := .ref 68) rfl rfl rfl rfl ?_
                    refine pm_R_lo pm_M291 (pc_q := 100) rfl rfl rfl ?_
                    obtain ⟨f1244, e1245⟩ := T15.2.2.2.1 68 (by decide) (by decide)
                    refine rf_R_ild pm_M291 T15 (pc_q := 101) rfl e1245 (by decide) (sf_in B1125 (by decide) (by decide)) rfl (fun z1247 ez1248 => ?_)
                    refine sf_R_lany pm_M291 (pc_q := 102) (st := [.int x4_1110]) rfl rfl rfl (fun z1249 => ?_)
                    refine pm_R_lo pm_M291 (pc_q := 103) rfl rfl rfl ?_
                    refine pm_R_op pm_M291 (pc_q := 105) (st_q := [.int 10, .int a1, .long z1249, .int x4_1110]) rfl rfl rfl ?_
                    refine sf_R_isub pm_M291 (pc_q := 106) (pm_q291_1 (Nat.le_of_ble_eq_true rfl)) rfl B1243 sf_k10 (by decide) (by decide) (fun z1250 e1251 B1252 => ?_)
                    refine pm_R_cs pm_M291 (pc_q := 109) (ra := [.int z1250, .long z1249]) (rest := [.int x4_1110]) (ls_q := [.long z1249, pm_no, .int z1250]) (pm_q291_1 (Nat.le_of_ble_eq_true rfl)) rfl (Or.inl rfl) pm_M206 rfl rfl (Nat.le_of_ble_eq_true rfl) rfl rfl ?_
                    refine pm_R_lo pm_M206 (pc_q := 1) rfl rfl rfl ?_
                    refine pm_R_lo pm_M206 (pc_q := 2) rfl rfl rfl ?_
                    refine sf_R_lany pm_M206 (pc_q := 3) (st := []) rfl rfl rfl (fun z1253 => ?_)
                    refine pm_R_op pm_M206 (pc_q := 4) (st_q := [.long 1, .long z1253]) rfl rfl rfl ?_
                    refine sf_R_lany pm_M206 (pc_q := 5) (st := []) rfl rfl rfl (fun z1254 => ?_)
                    refine pm_R_op pm_M206 (pc_q := 6) (st_q := [.long 1, .long z1254]) rfl rfl rfl ?_
                    refine sf_R_lcmp pm_M206 (pc_q := 7) rfl rfl (fun z1255 e1256 => ?_)
                    refine pm_R_ifc pm_M206 (t := 14) (pc_q := 10) rfl rfl rfl (fun c1257 => ?_) (fun c1257 => ?_)
                    · have k1258 := sf_lneC e1256 c1257
                      refine pm_R_op pm_M206 (pc_q := 15) (st_q := [.int 0]) rfl rfl rfl ?_
                      refine pm_R_ret pm_M206 (r := some (.int 0)) rfl rfl ?_
                      show pm_R _ 291 109 [.ref 41, .int a0, .int a1, .int z1223, .int x4_1110, .int x5_1110] [.int 0, .int x4_1110] _ _
                      refine pm_R_br pm_M291 (pc_q := 116) (st_q := [.int x4_1110]) (pm_q291_1 (Nat.le_of_ble_eq_true rfl)) rfl ?_
                      refine pm_R_op pm_M291 (pc_q := 117) (st_q := [.int 0, .int x4_1110]) (pm_q291_1 (Nat.le_of_ble_eq_true rfl)) rfl rfl ?_
                      refine sf_R_iadd pm_M291 (pc_q := 118) (pm_q291_1 (Nat.le_of_ble_eq_true rfl)) rfl Bx4_1110 sf_k0 (by decide) (by decide) (fun z1259 e1260 B1261 => ?_)
                      refine pm_R_lo pm_M291 (pc_q := 120) (ls_q := [.ref 41, .int a0, .int a1, .int z1223, .int z1259, .int x5_1110]) (st_q := []) (pm_q291_1 (Nat.le_of_ble_eq_true rfl)) rfl rfl ?_
                      refine sf_R_iinc pm_M291 (pc_q := 123) (ls_q := fun z => [.ref 41, .int a0, .int a1, .int z1223, .int z1259, .int z]) (pm_q291_1 (Nat.le_of_ble_eq_true rfl)) B1125 rfl (by decide) (by decide) (by decide) (fun _ => rfl) rfl (fun z1262 e1263 B1264 => ?_)
                      show pm_R _ 291 123 [.ref 41, .int a0, .int a1, .int z1223, .int z1259, .int z1262] [] _ _
                      refine pm_R_br pm_M291 (pc_q := 33) (pm_q291_1 (Nat.le_of_ble_eq_true rfl)) rfl ?_
                      exact ih_1110 _ (sf_up hN_1110 e1263 B1125 (by decide) (by decide)) z1223 z1259 z1262 B1225 B1261 (sf_weak B1264 (by decide) (by decide)) rfl
                    · have B1265 : sf_B 0 0 z1255 := sf_eqL (Classical.not_not.mp c1257) sf_k0
                      have B1266 : lf_B 1 1 z1254 := lf_eqB e1256 B1265 (⟨by decide, by decide⟩ : lf_B 1 1 1)
                      refine pm_R_op pm_M206 (pc_q := 11) (st_q := [.int 1]) rfl rfl rfl ?_
                      refine pm_R_br pm_M206 (pc_q := 15) rfl rfl ?_
                      refine pm_R_ret pm_M206 (r := some (.int 1)) rfl rfl ?_
                      show pm_R _ 291 109 [.ref 41, .int a0, .int a1, .int z1223, .int x4_1110, .int x5_1110] [.int 1, .int x4_1110] _ _
                      refine pm_R_br pm_M291 (pc_q := 112) (st_q := [.int x4_1110]) (pm_q291_1 (Nat.le_of_ble_eq_true rfl)) rfl ?_
                      refine pm_R_op pm_M291 (pc_q := 113) (st_q := [.int 1, .int x4_1110]) (pm_q291_1 (Nat.le_of_ble_eq_true rfl)) rfl rfl ?_
                      refine pm_R_br pm_M291 (pc_q := 117) (pm_q291_1 (Nat.le_of_ble_eq_true rfl)) rfl ?_
                      refine sf_R_iany pm_M291 (pc_q := 118) (st := []) (pm_q291_1 (Nat.le_of_ble_eq_true rfl)) rfl rfl (fun z1270 => ?_)
                      refine pm_R_lo pm_M291 (pc_q := 120) (ls_q := [.ref 41, .int a0, .int a1, .int z1223, .int z1270, .int x5_1110]) (st_q := []) (pm_q291_1 (Nat.le_of_ble_eq_true rfl)) rfl rfl ?_
                      refine sf_R_iinc pm_M291 (pc_q := 123) (ls_q := fun z => [.ref 41, .int a0, .int a1, .int z1223, .int z1270, .int z]) (pm_q291_1 (Nat.le_of_ble_eq_true rfl)) B1125 rfl (by decide) (by decide) (by decide) (fun _ => rfl) rfl (fun z1271 e1272 B1273 => ?_)
                      show pm_R _ 291 123 [.ref 41, .int a0, .int a1, .int z1223, .int z1270, .int z1271] [] _ _
                      refine pm_R_br pm_M291 (pc_q := 33) (pm_q291_1 (Nat.le_of_ble_eq_true rfl)) rfl ?_
                      exact ih_1110 _ (sf_up hN_1110 e1272 B1125 (by decide) (by decide)) z1223 z1270 z1271 B1225 (sf_any z1270) (sf_weak B1273 (by decide) (by decide)) rfl
              · have B1274 : sf_B (-1) (-1) z1220 := sf_eqL (Classical.not_not.mp c1222) sf_kn1
                refine pm_R_op pm_M291 (pc_q := 75) (st_q := [.int 1, .int x3_1110]) rfl rfl rfl ?_
                refine pm_R_br pm_M291 (pc_q := 79) rfl rfl ?_
                refine sf_R_iany pm_M291 (pc_q := 80) (st := []) rfl rfl rfl (fun z1278 => ?_)
                refine pm_R_lo pm_M291 (pc_q := 81) (ls_q := [.ref 41, .int a0, .int a1, .int z1278, .int x4_1110, .int x5_1110]) (st_q := []) rfl rfl rfl ?_
                refine pm_R_lo pm_M291 (pc_q := 83) rfl rfl rfl ?_
                refine pm_R_lo pm_M291 (pc_q := 84) rfl rfl rfl ?_
                refine pm_R_op pm_M291 (pc_q := 86) (st_q := [.int 10, .int a1, .int x4_1110]) rfl rfl rfl ?_
                refine pm_R_op pm_M291 (pc_q := 88) (st_q := [.int 15, .int 10, .int a1, .int x4_1110]) rfl rfl rfl ?_
                refine pm_R_cs pm_M291 (pc_q := 91) (ra := [.int 15, .int 10, .int a1]) (rest := [.int x4_1110]) (ls_q := [.int a1, .int 10, .int 15]) rfl rfl (Or.inl rfl) pm_M174 rfl rfl (Nat.le_of_ble_eq_true rfl) rfl rfl ?_
                refine pm_R_lo pm_M174 (pc_q := 1) rfl rfl rfl ?_
                refine pm_R_lo pm_M174 (pc_q := 2) rfl rfl rfl ?_
                refine pm_R_icmp pm_M174 (t := 14) (pc_q := 5) rfl rfl rfl (fun c1279 => ?_) (fun c1279 => ?_)
                · have B1280 : sf_B (-2147483648) 9 a1 := sf_ltL c1279 (sf_any a1) sf_k10
                  refine pm_R_op pm_M174 (pc_q := 15) (st_q := [.int 0]) rfl rfl rfl ?_
                  refine pm_R_ret pm_M174 (r := some (.int 0)) rfl rfl ?_
                  show pm_R _ 291 91 [.ref 41, .int a0, .int a1, .int z1278, .int x4_1110, .int x5_1110] [.int 0, .int x4_1110] _ _
                  refine pm_R_br pm_M291 (pc_q := 116) (st_q := [.int x4_1110]) rfl rfl ?_
                  refine pm_R_op pm_M291 (pc_q := 117) (st_q := [.int 0, .int x4_1110]) (pm_q291_1 (Nat.le_of_ble_eq_true rfl)) rfl rfl ?_
                  refine sf_R_iadd pm_M291 (pc_q := 118) (pm_q291_1 (Nat.le_of_ble_eq_true rfl)) rfl Bx4_1110 sf_k0 (by decide) (by decide) (fun z1281 e1282 B1283 => ?_)
                  refine pm_R_lo pm_M291 (pc_q := 120) (ls_q := [.ref 41, .int a0, .int a1, .int z1278, .int z1281, .int x5_1110]) (st_q := []) (pm_q291_1 (Nat.le_of_ble_eq_true rfl)) rfl rfl ?_
                  refine sf_R_iinc pm_M291 (pc_q := 123) (ls_q := fun z => [.ref 41, .int a0, .int a1, .int z1278, .int z1281, .int z]) (pm_q291_1 (Nat.le_of_ble_eq_true rfl)) B1125 rfl (by decide) (by decide) (by decide) (fun _ => rfl) rfl (fun z1284 e1285 B1286 => ?_)
                  show pm_R _ 291 123 [.ref 41, .int a0, .int a1, .int z1278, .int z1281, .int z1284] [] _ _
                  refine pm_R_br pm_M291 (pc_q := 33) (pm_q291_1 (Nat.le_of_ble_eq_true rfl)) rfl ?_
                  exact ih_1110 _ (sf_up hN_1110 e1285 B1125 (by decide) (by decide)) z1278 z1281 z1284 (sf_any z1278) B1283 (sf_weak B1286 (by decide) (by decide)) rfl
                · have B1287 : sf_B 10 2147483647 a1 := sf_leR (Int32.not_lt.mp c1279) sf_k10 (sf_any a1)
                  refine pm_R_lo pm_M174 (pc_q := 6) rfl rfl rfl ?_
                  refine pm_R_lo pm_M174 (pc_q := 7) rfl rfl rfl ?_
                  refine pm_R_icmp pm_M174 (t := 14) (pc_q := 10) rfl rfl rfl (fun c1288 => ?_) (fun c1288 => ?_)
                  · have B1289 : sf_B 16 2147483647 a1 := sf_ltR c1288 sf_k15 B1287
                    refine pm_R_op pm_M174 (pc_q := 15) (st_q := [.int 0]) rfl rfl rfl ?_
                    refine pm_R_ret pm_M174 (r := some (.int 0)) rfl rfl ?_
                    show pm_R _ 291 91 [.ref 41, .int a0, .int a1, .int z1278, .int x4_1110, .int x5_1110] [.int 0, .int x4_1110] _ _
                    refine pm_R_br pm_M291 (pc_q := 116) (st_q := [.int x4_1110]) rfl rfl ?_
                    refine pm_R_op pm_M291 (pc_q := 117) (st_q := [.int 0, .int x4_1110]) (pm_q291_1 (Nat.le_of_ble_eq_true rfl)) rfl rfl ?_
                    refine sf_R_iadd pm_M291 (pc_q := 118) (pm_q291_1 (Nat.le_of_ble_eq_true rfl)) rfl Bx4_1110 sf_k0 (by decide) (by decide) (fun z1290 e1291 B1292 => ?_)
                    refine pm_R_lo pm_M291 (pc_q := 120) (ls_q := [.ref 41, .int a0, .int a1, .int z1278, .int z1290, .int x5_1110]) (st_q := []) (pm_q291_1 (Nat.le_of_ble_eq_true rfl)) rfl rfl ?_
                    refine sf_R_iinc pm_M291 (pc_q := 123) (ls_q := fun z => [.ref 41, .int a0, .int a1, .int z1278, .int z1290, .int z]) (pm_q291_1 (Nat.le_of_ble_eq_true rfl)) B1125 rfl (by decide) (by decide) (by decide) (fun _ => rfl) rfl (fun z1293 e1294 B1295 => ?_)
                    show pm_R _ 291 123 [.ref 41, .int a0, .int a1, .int z1278, .int z1290, .int z1293] [] _ _
                    refine pm_R_br pm_M291 (pc_q := 33) (pm_q291_1 (Nat.le_of_ble_eq_true rfl)) rfl ?_
                    exact ih_1110 _ (sf_up hN_1110 e1294 B1125 (by decide) (by decide)) z1278 z1290 z1293 (sf_any z1278) B1292 (sf_weak B1295 (by decide) (by decide)) rfl
                  · have B1296 : sf_B 10 15 a1 := sf_leL (Int32.not_lt.mp c1288) B1287 sf_k15
                    refine pm_R_op pm_M174 (pc_q := 11) (st_q := [.int 1]) rfl rfl rfl ?_
                    refine pm_R_br pm_M174 (pc_q := 15) rfl rfl ?_
                    refine pm_R_ret pm_M174 (r := some (.int 1)) rfl rfl ?_
                    show pm_R _ 291 91 [.ref 41, .int a0, .int a1, .int z1278, .int x4_1110, .int x5_1110] [.int 1, .int x4_1110] _ _
                    refine pm_R_br pm_M291 (pc_q := 94) (st_q := [.int x4_1110]) rfl rfl ?_
                    refine pm_R_lo pm_M291 (pc_q := 95) rfl rfl rfl ?_
                    refine rf_R_get pm_M291 T15 (pc_q := 98) (v := .ref 68) rfl rfl rfl rfl ?_
                    refine pm_R_lo pm_M291 (pc_q := 100) rfl rfl rfl ?_
                    obtain ⟨f1297, e1298⟩ := T15.2.2.2.1 68 (by decide) (by decide)
                    refine rf_R_ild pm_M291 T15 (pc_q := 101) rfl e1298 (by decide) (sf_in B1125 (by decide) (by decide)) rfl (fun z1300 ez1301 => ?_)
                    refine sf_R_lany pm_M291 (pc_q := 102) (st := [.int x4_1110]) rfl rfl rfl (fun z1302 => ?_)
                    refine pm_R_lo pm_M291 (pc_q := 103) rfl rfl rfl ?_
                    refine pm_R_op pm_M291 (pc_q := 105) (st_q := [.int 10, .int a1, .long z1302, .int x4_1110]) rfl rfl rfl ?_
                    refine sf_R_isub pm_M291 (pc_q := 106) (pm_q291_1 (Nat.le_of_ble_eq_true rfl)) rfl B1296 sf_k10 (by decide) (by decide) (fun z1303 e1304 B1305 => ?_)
                    refine pm_R_cs pm_M291 (pc_q := 109) (ra := [.int z1303, .long z1302]) (rest := [.int x4_1110]) (ls_q := [.long z1302, pm_no, .int z1303]) (pm_q291_1 (Nat.le_of_ble_eq_true rfl)) rfl (Or.inl rfl) pm_M206 rfl rfl (Nat.le_of_ble_eq_true rfl) rfl rfl ?_
                    refine pm_R_lo pm_M206 (pc_q := 1) rfl rfl rfl ?_
                    refine pm_R_lo pm_M206 (pc_q := 2) rfl rfl rfl ?_
                    refine sf_R_lany pm_M206 (pc_q := 3) (st := []) rfl rfl rfl (fun z1306 => ?_)
                    refine pm_R_op pm_M206 (pc_q := 4) (st_q := [.long 1, .long z1306]) rfl rfl rfl ?_
                    refine sf_R_lany pm_M206 (pc_q := 5) (st := []) rfl rfl rfl (fun z1307 => ?_)
                    refine pm_R_op pm_M206 (pc_q := 6) (st_q := [.long 1, .long z1307]) rfl rfl rfl ?_
                    refine sf_R_lcmp pm_M206 (pc_q := 7) rfl rfl (fun z1308 e1309 => ?_)
                    refine pm_R_ifc pm_M206 (t := 14) (pc_q := 10) rfl rfl rfl (fun c1310 => ?_) (fun c1310 => ?_)
                    · have k1311 := sf_lneC e1309 c1310
                      refine pm_R_op pm_M206 (pc_q := 15) (st_q := [.int 0]) rfl rfl rfl ?_
                      refine pm_R_ret pm_M206 (r := some (.int 0)) rfl rfl ?_
                      show pm_R _ 291 109 [.ref 41, .int a0, .int a1, .int z1278, .int x4_1110, .int x5_1110] [.int 0, .int x4_1110] _ _
                      refine pm_R_br pm_M291 (pc_q := 116) (st_q := [.int x4_1110]) (pm_q291_1 (Nat.le_of_ble_eq_true rfl)) rfl ?_
                      refine pm_R_op pm_M291 (pc_q := 117) (st_q := [.int 0, .int x4_1110]) (pm_q291_1 (Nat.le_of_ble_eq_true rfl)) rfl rfl ?_
                      refine sf_R_iadd pm_M291 (pc_q := 118) (pm_q291_1 (Nat.le_of_ble_eq_true rfl)) rfl Bx4_1110 sf_k0 (by decide) (by decide) (fun z1312 e1313 B1314 => ?_)
                      refine pm_R_lo pm_M291 (pc_q := 120) (ls_q := [.ref 41, .int a0, .int a1, .int z1278, .int z1312, .int x5_1110]) (st_q := []) (pm_q291_1 (Nat.le_of_ble_eq_true rfl)) rfl rfl ?_
                      refine sf_R_iinc pm_M291 (pc_q := 123) (ls_q := fun z => [.ref 41, .int a0, .int a1, .int z1278, .int z1312, .int z]) (pm_q291_1 (Nat.le_of_ble_eq_true rfl)) B1125 rfl (by decide) (by decide) (by decide) (fun _ => rfl) rfl (fun z1315 e1316 B1317 => ?_)
                      show pm_R _ 291 123 [.ref 41, .int a0, .int a1, .int z1278, .int z1312, .int z1315] [] _ _
                      refine pm_R_br pm_M291 (pc_q := 33) (pm_q291_1 (Nat.le_of_ble_eq_true rfl)) rfl ?_
                      exact ih_1110 _ (sf_up hN_1110 e1316 B1125 (by decide) (by decide)) z1278 z1312 z1315 (sf_any z1278) B1314 (sf_weak B1317 (by decide) (by decide)) rfl
                    · have B1318 : sf_B 0 0 z1308 := sf_eqL (Classical.not_not.mp c1310) sf_k0
                      have B1319 : lf_B 1 1 z1307 := lf_eqB e1309 B1318 (⟨by decide, by decide⟩ : lf_B 1 1 1)
                      refine pm_R_op pm_M206 (pc_q := 11) (st_q := [.int 1]) rfl rfl rfl ?_
                      refine pm_R_br pm_M206 (pc_q := 15) rfl rfl ?_
                      refine pm_R_ret pm_M206 (r := some (.int 1)) rfl rfl ?_
                      show pm_R _ 291 109 [.ref 41, .int a0, .int a1, .int z1278, .int x4_1110, .int x5_1110] [.int 1, .int x4_1110] _ _
                      refine pm_R_br pm_M291 (pc_q := 112) (st_q := [.int x4_1110]) (pm_q291_1 (Nat.le_of_ble_eq_true rfl)) rfl ?_
                      refine pm_R_op pm_M291 (pc_q := 113) (st_q := [.int 1, .int x4_1110]) (pm_q291_1 (Nat.le_of_ble_eq_true rfl)) rfl rfl ?_
                      refine pm_R_br pm_M291 (pc_q := 117) (pm_q291_1 (Nat.le_of_ble_eq_true rfl)) rfl ?_
                      refine sf_R_iany pm_M291 (pc_q := 118) (st := []) (pm_q291_1 (Nat.le_of_ble_eq_true rfl)) rfl rfl (fun z1323 => ?_)
                      refine pm_R_lo pm_M291 (pc_q := 120) (ls_q := [.ref 41, .int a0, .int a1, .int z1278, .int z1323, .int x5_1110]) (st_q := []) (pm_q291_1 (Nat.le_of_ble_eq_true rfl)) rfl rfl ?_
                      refine sf_R_iinc pm_M291 (pc_q := 123) (ls_q := fun z => [.ref 41, .int a0, .int a1, .int z1278, .int z1323, .int z]) (pm_q291_1 (Nat.le_of_ble_eq_true rfl)) B1125 rfl (by decide) (by decide) (by decide) (fun _ => rfl) rfl (fun z1324 e1325 B1326 => ?_)
                      show pm_R _ 291 123 [.ref 41, .int a0, .int a1, .int z1278, .int z1323, .int z1324] [] _ _
                      refine pm_R_br pm_M291 (pc_q := 33) (pm_q291_1 (Nat.le_of_ble_eq_true rfl)) rfl ?_
                      exact ih_1110 _ (sf_up hN_1110 e1325 B1125 (by decide) (by decide)) z1278 z1323 z1324 (sf_any z1278) (sf_any z1323) (sf_weak B1326 (by decide) (by decide)) rfl
      exact L_1110 _ 0 0 0 (sf_weak sf_k0 (by decide) (by decide)) (sf_weak sf_k0 (by decide) (by decide)) (sf_weak sf_k0 (by decide) (by decide)) rfl
    · have B1327 : sf_B 0 0 a1 := sf_eqL (Classical.not_not.mp c22) sf_k0
      refine pm_R_lo pm_M291 (pc_q := 21) rfl rfl rfl ?_
      refine pm_R_cv pm_M291 (pc_q := 24) (a := 41) (ra := []) (rest := []) (ls_q := [.ref 41, pm_no, pm_no, pm_no, pm_no]) rfl rfl (Or.inl rfl) pm_M292 T15.2.1 rfl (by decide) (Nat.lt_of_lt_of_le (by decide) T15.1) rfl rfl (Nat.le_of_ble_eq_true rfl) rfl rfl ?_
      refine rf_c292 (d := d + 0) T15  (fun r1328 B1329 => ?_)
      show pm_R _ 291 24 [.ref 41, .int a0, .int a1, pm_no, pm_no, pm_no] [.int r1328] _ _
      exact pm_R_ret pm_M291 (r := some (.int r1328)) rfl (pm_ret_i _) (K r1328 m12 w13 h14 T15 F18 W19)
  · have B1336 : sf_B 0 0 r10 := sf_eqL (Classical.not_not.mp c20) sf_k0
    refine pm_R_op pm_M291 (pc_q := 15) (st_q := [.int (-2)]) rfl rfl rfl ?_
    exact pm_R_ret pm_M291 (r := some (.int (-2))) rfl rfl (K (-2) m12 w13 h14 T15 F18 W19)

set_option maxRecDepth 100000 in
set_option maxHeartbeats 4000000 in
/-- SilentTableModel.fault -/
theorem rf_c194 {d : Nat} {m : Nat → Int32} {w : Int64} {h : pm_H} {Q : Option Value → pm_H → Prop} {a0 : Int32} (T : rf_T m w h)  (K : ∀ (r : Int32) (m_q : Nat → Int32) (w_q : Int64) (h_q : pm_H), rf_T m_q w_q h_q → rf_G [41] h h_q → rf_W [0] m m_q → sf_B (-1) 600 r → Q (some (.int r)) h_q) : pm_R (d + 0) 194 0 [.ref 41, .int a0] [] h Q := by
  refine pm_R_lo pm_M194 (pc_q := 1) rfl rfl rfl ?_
  refine pm_R_op pm_M194 (pc_q := 2) (st_q := [.int 0, .ref 41]) rfl rfl rfl ?_
  refine rf_R_put pm_M194 T (pc_q := 5) rfl rfl rfl (by decide) rfl rfl sf_k0 rfl rfl (fun h1 m4 em5 T2 F3 => ?_)
  have F6 := (rf_G.refl [41] h).trans F3 (by decide)
  have B7 : sf_B 0 0 (m4 0) := by rw [em5]; exact sf_k0
  have W9 : rf_W [0] m m4 := by rw [em5]; exact (rf_W.refl [0] m).put (by decide)
  refine pm_R_lo pm_M194 (pc_q := 6) rfl rfl rfl ?_
  refine pm_R_ifc pm_M194 (t := 18) (pc_q := 9) rfl rfl rfl (fun c10 => ?_) (fun c10 => ?_)
  · skip
    refine pm_R_lo pm_M194 (pc_q := 19) rfl rfl rfl ?_
    refine pm_R_op pm_M194 (pc_q := 20) (st_q := [.int 1, .int a0]) rfl rfl rfl ?_
    refine pm_R_icmp pm_M194 (t := 32) (pc_q := 23) rfl rfl rfl (fun c11 => ?_) (fun c11 => ?_)
    · skip
      refine pm_R_op pm_M194 (pc_q := 33) (st_q := [.int (-1)]) rfl rfl rfl ?_
      exact pm_R_ret pm_M194 (r := some (.int (-1))) rfl rfl (K (-1) m4 w h1 T2 F6 W9 (sf_weak sf_kn1 (by decide) (by decide)))
    · have B12 : sf_B 1 1 a0 := sf_eqL (Classical.not_not.mp c11) sf_k1
      refine pm_R_lo pm_M194 (pc_q := 24) rfl rfl rfl ?_
      refine rf_R_get pm_M194 T2 (pc_q := 27) (v := .ref 45) rfl rfl rfl rfl ?_
      refine pm_R_op pm_M194 (pc_q := 28) (st_q := [.int 0, .ref 45]) rfl rfl rfl ?_
      obtain ⟨f13, e14, b15⟩ := T2.2.2.2.1 45 (by decide) (by decide)
      refine rf_R_ild pm_M194 T2 (pc_q := 29) rfl e14 (by decide) rfl rfl (fun z16 ez17 => ?_)
      have B18 : sf_B (-1) 600 z16 := ez17 ▸ b15 _
      refine pm_R_br pm_M194 (pc_q := 33) rfl rfl ?_
      exact pm_R_ret pm_M194 (r := some (.int z16)) rfl (pm_ret_i _) (K z16 m4 w h1 T2 F6 W9 B18)
  · have B19 : sf_B 0 0 a0 := sf_eqL (Classical.not_not.mp c10) sf_k0
    refine pm_R_lo pm_M194 (pc_q := 10) rfl rfl rfl ?_
    refine rf_R_get pm_M194 T2 (pc_q := 13) (v := .ref 44) rfl rfl rfl rfl ?_
    refine pm_R_op pm_M194 (pc_q := 14) (st_q := [.int 0, .ref 44]) rfl rfl rfl ?_
    obtain ⟨f20, e21, b22⟩ := T2.2.2.2.1 44 (by decide) (by decide)
    refine rf_R_ild pm_M194 T2 (pc_q := 15) rfl e21 (by decide) rfl rfl (fun z23 ez24 => ?_)
    have B25 : sf_B 0 4 z23 := ez24 ▸ b22 _
    refine pm_R_br pm_M194 (pc_q := 33) rfl rfl ?_
    exact pm_R_ret pm_M194 (r := some (.int z23)) rfl (pm_ret_i _) (K z23 m4 w h1 T2 F6 W9 (sf_weak B25 (by decide) (by decide)))

set_option maxRecDepth 100000 in
set_option maxHeartbeats 4000000 in
/-- SilentTableModel.list -/
theorem rf_c195 {d : Nat} {m : Nat → Int32} {w : Int64} {h : pm_H} {Q : Option Value → pm_H → Prop} {a0 : Int32} {a1 : Int32} (T : rf_T m w h)  (K : ∀ (r : Int32) (m_q : Nat → Int32) (w_q : Int64) (h_q : pm_H), rf_T m_q w_q h_q → rf_G [41] h h_q → rf_W [0] m m_q → Q (some (.int r)) h_q) : pm_R (d + 2) 195 0 [.ref 41, .int a0, .int a1] [] h Q := by
  refine pm_R_lo pm_M195 (pc_q := 1) rfl rfl rfl ?_
  refine pm_R_op pm_M195 (pc_q := 2) (st_q := [.int 0, .ref 41]) rfl rfl rfl ?_
  refine rf_R_put pm_M195 T (pc_q := 5) rfl rfl rfl (by decide) rfl rfl sf_k0 rfl rfl (fun h1 m4 em5 T2 F3 => ?_)
  have F6 := (rf_G.refl [41] h).trans F3 (by decide)
  have B7 : sf_B 0 0 (m4 0) := by rw [em5]; exact sf_k0
  have W9 : rf_W [0] m m4 := by rw [em5]; exact (rf_W.refl [0] m).put (by decide)
  refine pm_R_lo pm_M195 (pc_q := 6) rfl rfl rfl ?_
  refine pm_R_op pm_M195 (pc_q := 7) (st_q := [.int 0, .ref 41]) rfl rfl rfl ?_
  refine pm_R_lo pm_M195 (pc_q := 8) rfl rfl rfl ?_
  refine pm_R_cv pm_M195 (pc_q := 11) (a := 41) (ra := [.int a0, .int 0]) (rest := []) (ls_q := [.ref 41, .int 0, .int a0]) rfl rfl (Or.inl rfl) pm_M177 T2.2.1 rfl (by decide) (Nat.lt_of_lt_of_le (by decide) T2.1) rfl rfl (Nat.le_of_ble_eq_true rfl) rfl rfl ?_
  refine pm_R_lo pm_M177 (pc_q := 1) rfl rfl rfl ?_
  refine pm_R_op pm_M177 (pc_q := 2) (st_q := [.int 0, .int a0]) rfl rfl rfl ?_
  refine pm_R_lo pm_M177 (pc_q := 3) rfl rfl rfl ?_
  refine rf_R_get pm_M177 T2 (pc_q := 6) (v := .ref 46) rfl rfl rfl rfl ?_
  refine pm_R_lo pm_M177 (pc_q := 7) rfl rfl rfl ?_
  obtain ⟨f10, e11, b12⟩ := T2.2.2.2.1 46 (by decide) (by decide)
  refine rf_R_ild pm_M177 T2 (pc_q := 8) rfl e11 (by decide) rfl rfl (fun z13 ez14 => ?_)
  have B15 : sf_B 0 2 z13 := ez14 ▸ (b12 0)
  refine pm_R_op pm_M177 (pc_q := 9) (st_q := [.int 1, .int z13, .int 0, .int a0]) rfl rfl rfl ?_
  refine sf_R_isub pm_M177 (pc_q := 10) rfl rfl B15 sf_k1 (by decide) (by decide) (fun z16 e17 B18 => ?_)
  refine pm_R_cs pm_M177 (pc_q := 13) (ra := [.int z16, .int 0, .int a0]) (rest := []) (ls_q := [.int a0, .int 0, .int z16]) rfl rfl (Or.inl rfl) pm_M174 rfl rfl (Nat.le_of_ble_eq_true rfl) rfl rfl ?_
  refine pm_R_lo pm_M174 (pc_q := 1) rfl rfl rfl ?_
  refine pm_R_lo pm_M174 (pc_q := 2) rfl rfl rfl ?_
  refine pm_R_icmp pm_M174 (t := 14) (pc_q := 5) rfl rfl rfl (fun c19 => ?_) (fun c19 => ?_)
  · have B20 : sf_B (-2147483648) (-1) a0 := sf_ltL c19 (sf_any a0) sf_k0
    refine pm_R_op pm_M174 (pc_q := 15) (st_q := [.int 0]) rfl rfl rfl ?_
    refine pm_R_ret pm_M174 (r := some (.int 0)) rfl rfl ?_
    show pm_R _ 177 13 [.ref 41, .int 0, .int a0] [.int 0] _ _
    refine pm_R_ret pm_M177 (r := some (.int 0)) rfl rfl ?_
    show pm_R _ 195 11 [.ref 41, .int a0, .int a1] [.int 0] _ _
    refine pm_R_br pm_M195 (pc_q := 63) (st_q := []) rfl rfl ?_
    refine pm_R_op pm_M195 (pc_q := 64) (st_q := [.int (-1)]) rfl rfl rfl ?_
    exact pm_R_ret pm_M195 (r := some (.int (-1))) rfl rfl (K (-1) m4 w h1 T2 F6 W9)
  · have B21 : sf_B 0 2147483647 a0 := sf_leR (Int32.not_lt.mp c19) sf_k0 (sf_any a0)
    refine pm_R_lo pm_M174 (pc_q := 6) rfl rfl rfl ?_
    refine pm_R_lo pm_M174 (pc_q := 7) rfl rfl rfl ?_
    refine pm_R_icmp pm_M174 (t := 14) (pc_q := 10) rfl rfl rfl (fun c22 => ?_) (fun c22 => ?_)
    · skip
      refine pm_R_op pm_M174 (pc_q := 15) (st_q := [.int 0]) rfl rfl rfl ?_
      refine pm_R_ret pm_M174 (r := some (.int 0)) rfl rfl ?_
      show pm_R _ 177 13 [.ref 41, .int 0, .int a0] [.int 0] _ _
      refine pm_R_ret pm_M177 (r := some (.int 0)) rfl rfl ?_
      show pm_R _ 195 11 [.ref 41, .int a0, .int a1] [.int 0] _ _
      refine pm_R_br pm_M195 (pc_q := 63) (st_q := []) rfl rfl ?_
      refine pm_R_op pm_M195 (pc_q := 64) (st_q := [.int (-1)]) rfl rfl rfl ?_
      exact pm_R_ret pm_M195 (r := some (.int (-1))) rfl rfl (K (-1) m4 w h1 T2 F6 W9)
    · have B23 : sf_B 0 1 a0 := sf_leL (Int32.not_lt.mp c22) B21 B18
      have B24 : sf_B 0 1 z16 := sf_leR (Int32.not_lt.mp c22) B21 B18
      refine pm_R_op pm_M174 (pc_q := 11) (st_q := [.int 1]) rfl rfl rfl ?_
      refine pm_R_br pm_M174 (pc_q := 15) rfl rfl ?_
      refine pm_R_ret pm_M174 (r := some (.int 1)) rfl rfl ?_
      show pm_R _ 177 13 [.ref 41, .int 0, .int a0] [.int 1] _ _
      refine pm_R_ret pm_M177 (r := some (.int 1)) rfl rfl ?_
      show pm_R _ 195 11 [.ref 41, .int a0, .int a1] [.int 1] _ _
      refine pm_R_br pm_M195 (pc_q := 14) (st_q := []) rfl rfl ?_
      refine pm_R_lo pm_M195 (pc_q := 15) rfl rfl rfl ?_
      refine pm_R_op pm_M195 (pc_q := 16) (st_q := [.int 0, .int a1]) rfl rfl rfl ?_
      refine pm_R_op pm_M195 (pc_q := 17) (st_q := [.int 1, .int 0, .int a1]) rfl rfl rfl ?_
      refine pm_R_cs pm_M195 (pc_q := 20) (ra := [.int 1, .int 0, .int a1]) (rest := []) (ls_q := [.int a1, .int 0, .int 1]) rfl rfl (Or.inl rfl) pm_M174 rfl rfl (Nat.le_of_ble_eq_true rfl) rfl rfl ?_
      refine pm_R_lo pm_M174 (pc_q := 1) rfl rfl rfl ?_
      refine pm_R_lo pm_M174 (pc_q := 2) rfl rfl rfl ?_
      refine pm_R_icmp pm_M174 (t := 14) (pc_q := 5) rfl rfl rfl (fun c25 => ?_) (fun c25 => ?_)
      · have B26 : sf_B (-2147483648) (-1) a1 := sf_ltL c25 (sf_any a1) sf_k0
        refine pm_R_op pm_M174 (pc_q := 15) (st_q := [.int 0]) rfl rfl rfl ?_
        refine pm_R_ret pm_M174 (r := some (.int 0)) rfl rfl ?_
        show pm_R _ 195 20 [.ref 41, .int a0, .int a1] [.int 0] _ _
        refine pm_R_br pm_M195 (pc_q := 23) (st_q := []) rfl rfl ?_
        refine pm_R_lo pm_M195 (pc_q := 24) rfl rfl rfl ?_
        refine pm_R_op pm_M195 (pc_q := 26) (st_q := [.int 10, .int a1]) rfl rfl rfl ?_
        refine pm_R_op pm_M195 (pc_q := 28) (st_q := [.int 19, .int 10, .int a1]) rfl rfl rfl ?_
        refine pm_R_cs pm_M195 (pc_q := 31) (ra := [.int 19, .int 10, .int a1]) (rest := []) (ls_q := [.int a1, .int 10, .int 19]) rfl rfl (Or.inl rfl) pm_M174 rfl rfl (Nat.le_of_ble_eq_true rfl) rfl rfl ?_
        refine pm_R_lo pm_M174 (pc_q := 1) rfl rfl rfl ?_
        refine pm_R_lo pm_M174 (pc_q := 2) rfl rfl rfl ?_
        refine pm_R_icmp pm_M174 (t := 14) (pc_q := 5) rfl rfl rfl (fun c27 => ?_) (fun c27 => absurd (Int32.not_lt.mp c27) (sf_nle sf_k10 B26 (by decide)))
        skip
        refine pm_R_op pm_M174 (pc_q := 15) (st_q := [.int 0]) rfl rfl rfl ?_
        refine pm_R_ret pm_M174 (r := some (.int 0)) rfl rfl ?_
        show pm_R _ 195 31 [.ref 41, .int a0, .int a1] [.int 0] _ _
        refine pm_R_br pm_M195 (pc_q := 63) (st_q := []) rfl rfl ?_
        refine pm_R_op pm_M195 (pc_q := 64) (st_q := [.int (-1)]) rfl rfl rfl ?_
        exact pm_R_ret pm_M195 (r := some (.int (-1))) rfl rfl (K (-1) m4 w h1 T2 F6 W9)
      · have B28 : sf_B 0 2147483647 a1 := sf_leR (Int32.not_lt.mp c25) sf_k0 (sf_any a1)
        refine pm_R_lo pm_M174 (pc_q := 6) rfl rfl rfl ?_
        refine pm_R_lo pm_M174 (pc_q := 7) rfl rfl rfl ?_
        refine pm_R_icmp pm_M174 (t := 14) (pc_q := 10) rfl rfl rfl (fun c29 => ?_) (fun c29 => ?_)
        · have B30 : sf_B 2 2147483647 a1 := sf_ltR c29 sf_k1 B28
          refine pm_R_op pm_M174 (pc_q := 15) (st_q := [.int 0]) rfl rfl rfl ?_
          refine pm_R_ret pm_M174 (r := some (.int 0)) rfl rfl ?_
          show pm_R _ 195 20 [.ref 41, .int a0, .int a1] [.int 0] _ _
          refine pm_R_br pm_M195 (pc_q := 23) (st_q := []) rfl rfl ?_
          refine pm_R_lo pm_M195 (pc_q := 24) rfl rfl rfl ?_
          refine pm_R_op pm_M195 (pc_q := 26) (st_q := [.int 10, .int a1]) rfl rfl rfl ?_
          refine pm_R_op pm_M195 (pc_q := 28) (st_q := [.int 19, .int 10, .int a1]) rfl rfl rfl ?_
          refine pm_R_cs pm_M195 (pc_q := 31) (ra := [.int 19, .int 10, .int a1]) (rest := []) (ls_q := [.int a1, .int 10, .int 19]) rfl rfl (Or.inl rfl) pm_M174 rfl rfl (Nat.le_of_ble_eq_true rfl) rfl rfl ?_
          refine pm_R_lo pm_M174 (pc_q := 1) rfl rfl rfl ?_
          refine pm_R_lo pm_M174 (pc_q := 2) rfl rfl rfl ?_
          refine pm_R_icmp pm_M174 (t := 14) (pc_q := 5) rfl rfl rfl (fun c31 => ?_) (fun c31 => ?_)
          · have B32 : sf_B 2 9 a1 := sf_ltL c31 B30 sf_k10
            refine pm_R_op pm_M174 (pc_q := 15) (st_q := [.int 0]) rfl rfl rfl ?_
            refine pm_R_ret pm_M174 (r := some (.int 0)) rfl rfl ?_
            show pm_R _ 195 31 [.ref 41, .int a0, .int a1] [.int 0] _ _
            refine pm_R_br pm_M195 (pc_q := 63) (st_q := []) rfl rfl ?_
            refine pm_R_op pm_M195 (pc_q := 64) (st_q := [.int (-1)]) rfl rfl rfl ?_
            exact pm_R_ret pm_M195 (r := some (.int (-1))) rfl rfl (K (-1) m4 w h1 T2 F6 W9)
          · have B33 : sf_B 10 2147483647 a1 := sf_leR (Int32.not_lt.mp c31) sf_k10 B30
            refine pm_R_lo pm_M174 (pc_q := 6) rfl rfl rfl ?_
            refine pm_R_lo pm_M174 (pc_q := 7) rfl rfl rfl ?_
            refine pm_R_icmp pm_M174 (t := 14) (pc_q := 10) rfl rfl rfl (fun c34 => ?_) (fun c34 => ?_)
            · have B35 : sf_B 20 2147483647 a1 := sf_ltR c34 sf_k19 B33
              refine pm_R_op pm_M174 (pc_q := 15) (st_q := [.int 0]) rfl rfl rfl ?_
              refine pm_R_ret pm_M174 (r := some (.int 0)) rfl rfl ?_
              show pm_R _ 195 31 [.ref 41, .int a0, .int a1] [.int 0] _ _
              refine pm_R_br pm_M195 (pc_q := 63) (st_q := []) rfl rfl ?_
              refine pm_R_op pm_M195 (pc_q := 64) (st_q := [.int (-1)]) rfl rfl rfl ?_
              exact pm_R_ret pm_M195 (r := some (.int (-1))) rfl rfl (K (-1) m4 w h1 T2 F6 W9)
            · have B36 : sf_B 10 19 a1 := sf_leL (Int32.not_lt.mp c34) B33 sf_k19
              refine pm_R_op pm_M174 (pc_q := 11) (st_q := [.int 1]) rfl rfl rfl ?_
              refine pm_R_br pm_M174 (pc_q := 15) rfl rfl ?_
              refine pm_R_ret pm_M174 (r := some (.int 1)) rfl rfl ?_
              show pm_R _ 195 31 [.ref 41, .int a0, .int a1] [.int 1] _ _
              refine pm_R_br pm_M195 (pc_q := 34) (st_q := []) rfl rfl ?_
              refine pm_R_lo pm_M195 (pc_q := 35) rfl rfl rfl ?_
              refine rf_R_get pm_M195 T2 (pc_q := 38) (v := .ref 47) rfl rfl rfl rfl ?_
              refine pm_R_op pm_M195 (pc_q := 40) (st_q := [.int 100, .ref 47]) rfl rfl rfl ?_
              refine pm_R_lo pm_M195 (pc_q := 41) rfl rfl rfl ?_
              refine sf_R_imul pm_M195 (pc_q := 42) rfl rfl sf_k100 B23 (by decide) (by decide) (by decide) (fun z37 e38 B39 => ?_)
              refine pm_R_lo pm_M195 (pc_q := 43) rfl rfl rfl ?_
              refine pm_R_op pm_M195 (pc_q := 44) (st_q := [.int 2, .int a1, .int z37, .ref 47]) rfl rfl rfl ?_
              refine pm_R_icmp pm_M195 (t := 51) (pc_q := 47) rfl rfl rfl (fun c40 => ?_) (fun c40 => absurd (Int32.not_le.mp c40) (sf_nlt B36 sf_k2 (by decide)))
              skip
              refine pm_R_op pm_M195 (pc_q := 53) (st_q := [.int 90, .int z37, .ref 47]) rfl rfl rfl ?_
              refine pm_R_lo pm_M195 (pc_q := 54) rfl rfl rfl ?_
              refine sf_R_iadd pm_M195 (pc_q := 55) rfl rfl sf_k90 B36 (by decide) (by decide) (fun z41 e42 B43 => ?_)
              refine pm_R_op pm_M195 (pc_q := 57) (st_q := [.int 10, .int z41, .int z37, .ref 47]) rfl rfl rfl ?_
              refine sf_R_isub pm_M195 (pc_q := 58) rfl rfl B43 sf_k10 (by decide) (by decide) (fun z44 e45 B46 => ?_)
              refine sf_R_iadd pm_M195 (pc_q := 59) rfl rfl B39 B46 (by decide) (by decide) (fun z47 e48 B49 => ?_)
              obtain ⟨f50, e51, b52⟩ := T2.2.2.2.1 47 (by decide) (by decide)
              refine rf_R_ild pm_M195 T2 (pc_q := 60) rfl e51 (by decide) (sf_in B49 (by decide) (by decide)) rfl (fun z53 ez54 => ?_)
              refine pm_R_br pm_M195 (pc_q := 64) rfl rfl ?_
              exact pm_R_ret pm_M195 (r := some (.int z53)) rfl (pm_ret_i _) (K z53 m4 w h1 T2 F6 W9)
        · have B55 : sf_B 0 1 a1 := sf_leL (Int32.not_lt.mp c29) B28 sf_k1
          refine pm_R_op pm_M174 (pc_q := 11) (st_q := [.int 1]) rfl rfl rfl ?_
          refine pm_R_br pm_M174 (pc_q := 15) rfl rfl ?_
          refine pm_R_ret pm_M174 (r := some (.int 1)) rfl rfl ?_
          show pm_R _ 195 20 [.ref 41, .int a0, .int a1] [.int 1] _ _
          refine pm_R_br pm_M195 (pc_q := 34) (st_q := []) rfl rfl ?_
          refine pm_R_lo pm_M195 (pc_q := 35) rfl rfl rfl ?_
          refine rf_R_get pm_M195 T2 (pc_q := 38) (v := .ref 47) rfl rfl rfl rfl ?_
          refine pm_R_op pm_M195 (pc_q := 40) (st_q := [.int 100, .ref 47]) rfl rfl rfl ?_
          refine pm_R_lo pm_M195 (pc_q := 41) rfl rfl rfl ?_
          refine sf_R_imul pm_M195 (pc_q := 42) rfl rfl sf_k100 B23 (by decide) (by decide) (by decide) (fun z56 e57 B58 => ?_)
          refine pm_R_lo pm_M195 (pc_q := 43) rfl rfl rfl ?_
          refine pm_R_op pm_M195 (pc_q := 44) (st_q := [.int 2, .int a1, .int z56, .ref 47]) rfl rfl rfl ?_
          refine pm_R_icmp pm_M195 (t := 51) (pc_q := 47) rfl rfl rfl (fun c59 => absurd c59 (sf_nle sf_k2 B55 (by decide))) (fun c59 => ?_)
          skip
          refine pm_R_lo pm_M195 (pc_q := 48) rfl rfl rfl ?_
          refine pm_R_br pm_M195 (pc_q := 58) rfl rfl ?_
          refine sf_R_iadd pm_M195 (pc_q := 59) rfl rfl B58 B55 (by decide) (by decide) (fun z60 e61 B62 => ?_)
          obtain ⟨f63, e64, b65⟩ := T2.2.2.2.1 47 (by decide) (by decide)
          refine rf_R_ild pm_M195 T2 (pc_q := 60) rfl e64 (by decide) (sf_in B62 (by decide) (by decide)) rfl (fun z66 ez67 => ?_)
          refine pm_R_br pm_M195 (pc_q := 64) rfl rfl ?_
          exact pm_R_ret pm_M195 (r := some (.int z66)) rfl (pm_ret_i _) (K z66 m4 w h1 T2 F6 W9)

set_option maxRecDepth 100000 in
set_option maxHeartbeats 4000000 in
/-- SilentTableModel.rule -/
theorem rf_c196 {d : Nat} {m : Nat → Int32} {w : Int64} {h : pm_H} {Q : Option Value → pm_H → Prop} {a0 : Int32} {a1 : Int32} {a2 : Int32} (T : rf_T m w h)  (K : ∀ (r : Int32) (m_q : Nat → Int32) (w_q : Int64) (h_q : pm_H), rf_T m_q w_q h_q → rf_G [41] h h_q → rf_W [0] m m_q → Q (some (.int r)) h_q) : pm_R (d + 2) 196 0 [.ref 41, .int a0, .int a1, .int a2] [] h Q := by
  refine pm_R_lo pm_M196 (pc_q := 1) rfl rfl rfl ?_
  refine pm_R_op pm_M196 (pc_q := 2) (st_q := [.int 0, .ref 41]) rfl rfl rfl ?_
  refine rf_R_put pm_M196 T (pc_q := 5) rfl rfl rfl (by decide) rfl rfl sf_k0 rfl rfl (fun h1 m4 em5 T2 F3 => ?_)
  have F6 := (rf_G.refl [41] h).trans F3 (by decide)
  have B7 : sf_B 0 0 (m4 0) := by rw [em5]; exact sf_k0
  have W9 : rf_W [0] m m4 := by rw [em5]; exact (rf_W.refl [0] m).put (by decide)
  refine pm_R_lo pm_M196 (pc_q := 6) rfl rfl rfl ?_
  refine pm_R_op pm_M196 (pc_q := 7) (st_q := [.int 0, .ref 41]) rfl rfl rfl ?_
  refine pm_R_lo pm_M196 (pc_q := 8) rfl rfl rfl ?_
  refine pm_R_cv pm_M196 (pc_q := 11) (a := 41) (ra := [.int a0, .int 0]) (rest := []) (ls_q := [.ref 41, .int 0, .int a0]) rfl rfl (Or.inl rfl) pm_M177 T2.2.1 rfl (by decide) (Nat.lt_of_lt_of_le (by decide) T2.1) rfl rfl (Nat.le_of_ble_eq_true rfl) rfl rfl ?_
  refine pm_R_lo pm_M177 (pc_q := 1) rfl rfl rfl ?_
  refine pm_R_op pm_M177 (pc_q := 2) (st_q := [.int 0, .int a0]) rfl rfl rfl ?_
  refine pm_R_lo pm_M177 (pc_q := 3) rfl rfl rfl ?_
  refine rf_R_get pm_M177 T2 (pc_q := 6) (v := .ref 46) rfl rfl rfl rfl ?_
  refine pm_R_lo pm_M177 (pc_q := 7) rfl rfl rfl ?_
  obtain ⟨f10, e11, b12⟩ := T2.2.2.2.1 46 (by decide) (by decide)
  refine rf_R_ild pm_M177 T2 (pc_q := 8) rfl e11 (by decide) rfl rfl (fun z13 ez14 => ?_)
  have B15 : sf_B 0 2 z13 := ez14 ▸ (b12 0)
  refine pm_R_op pm_M177 (pc_q := 9) (st_q := [.int 1, .int z13, .int 0, .int a0]) rfl rfl rfl ?_
  refine sf_R_isub pm_M177 (pc_q := 10) rfl rfl B15 sf_k1 (by decide) (by decide) (fun z16 e17 B18 => ?_)
  refine pm_R_cs pm_M177 (pc_q := 13) (ra := [.int z16, .int 0, .int a0]) (rest := []) (ls_q := [.int a0, .int 0, .int z16]) rfl rfl (Or.inl rfl) pm_M174 rfl rfl (Nat.le_of_ble_eq_true rfl) rfl rfl ?_
  refine pm_R_lo pm_M174 (pc_q := 1) rfl rfl rfl ?_
  refine pm_R_lo pm_M174 (pc_q := 2) rfl rfl rfl ?_
  refine pm_R_icmp pm_M174 (t := 14) (pc_q := 5) rfl rfl rfl (fun c19 => ?_) (fun c19 => ?_)
  · have B20 : sf_B (-2147483648) (-1) a0 := sf_ltL c19 (sf_any a0) sf_k0
    refine pm_R_op pm_M174 (pc_q := 15) (st_q := [.int 0]) rfl rfl rfl ?_
    refine pm_R_ret pm_M174 (r := some (.int 0)) rfl rfl ?_
    show pm_R _ 177 13 [.ref 41, .int 0, .int a0] [.int 0] _ _
    refine pm_R_ret pm_M177 (r := some (.int 0)) rfl rfl ?_
    show pm_R _ 196 11 [.ref 41, .int a0, .int a1, .int a2] [.int 0] _ _
    refine pm_R_br pm_M196 (pc_q := 62) (st_q := []) rfl rfl ?_
    refine pm_R_op pm_M196 (pc_q := 63) (st_q := [.int (-1)]) rfl rfl rfl ?_
    exact pm_R_ret pm_M196 (r := some (.int (-1))) rfl rfl (K (-1) m4 w h1 T2 F6 W9)
  · have B21 : sf_B 0 2147483647 a0 := sf_leR (Int32.not_lt.mp c19) sf_k0 (sf_any a0)
    refine pm_R_lo pm_M174 (pc_q := 6) rfl rfl rfl ?_
    refine pm_R_lo pm_M174 (pc_q := 7) rfl rfl rfl ?_
    refine pm_R_icmp pm_M174 (t := 14) (pc_q := 10) rfl rfl rfl (fun c22 => ?_) (fun c22 => ?_)
    · skip
      refine pm_R_op pm_M174 (pc_q := 15) (st_q := [.int 0]) rfl rfl rfl ?_
      refine pm_R_ret pm_M174 (r := some (.int 0)) rfl rfl ?_
      show pm_R _ 177 13 [.ref 41, .int 0, .int a0] [.int 0] _ _
      refine pm_R_ret pm_M177 (r := some (.int 0)) rfl rfl ?_
      show pm_R _ 196 11 [.ref 41, .int a0, .int a1, .int a2] [.int 0] _ _
      refine pm_R_br pm_M196 (pc_q := 62) (st_q := []) rfl rfl ?_
      refine pm_R_op pm_M196 (pc_q := 63) (st_q := [.int (-1)]) rfl rfl rfl ?_
      exact pm_R_ret pm_M196 (r := some (.int (-1))) rfl rfl (K (-1) m4 w h1 T2 F6 W9)
    · have B23 : sf_B 0 1 a0 := sf_leL (Int32.not_lt.mp c22) B21 B18
      have B24 : sf_B 0 1 z16 := sf_leR (Int32.not_lt.mp c22) B21 B18
      refine pm_R_op pm_M174 (pc_q := 11) (st_q := [.int 1]) rfl rfl rfl ?_
      refine pm_R_br pm_M174 (pc_q := 15) rfl rfl ?_
      refine pm_R_ret pm_M174 (r := some (.int 1)) rfl rfl ?_
      show pm_R _ 177 13 [.ref 41, .int 0, .int a0] [.int 1] _ _
      refine pm_R_ret pm_M177 (r := some (.int 1)) rfl rfl ?_
      show pm_R _ 196 11 [.ref 41, .int a0, .int a1, .int a2] [.int 1] _ _
      refine pm_R_br pm_M196 (pc_q := 14) (st_q := []) rfl rfl ?_
      refine pm_R_lo pm_M196 (pc_q := 15) rfl rfl rfl ?_
      refine pm_R_op pm_M196 (pc_q := 16) (st_q := [.int 0, .int a1]) rfl rfl rfl ?_
      refine pm_R_lo pm_M196 (pc_q := 17) rfl rfl rfl ?_
      refine rf_R_get pm_M196 T2 (pc_q := 20) (v := .ref 47) rfl rfl rfl rfl ?_
      refine pm_R_op pm_M196 (pc_q := 22) (st_q := [.int 100, .ref 47, .int 0, .int a1]) rfl rfl rfl ?_
      refine pm_R_lo pm_M196 (pc_q := 23) rfl rfl rfl ?_
      refine sf_R_imul pm_M196 (pc_q := 24) rfl rfl sf_k100 B23 (by decide) (by decide) (by decide) (fun z25 e26 B27 => ?_)
      obtain ⟨f28, e29, b30⟩ := T2.2.2.2.1 47 (by decide) (by decide)
      refine rf_R_ild pm_M196 T2 (pc_q := 25) rfl e29 (by decide) (sf_in B27 (by decide) (by decide)) rfl (fun z31 ez32 => ?_)
      have e33 : (z25).toInt = 100 * (a0).toInt + 0 := (sf_aux2 _ _ e26)
      have B34 : sf_B 0 10 z31 := ez32 ▸ rf_p47a b30 e33 B23 (by decide)
      refine pm_R_op pm_M196 (pc_q := 26) (st_q := [.int 1, .int z31, .int 0, .int a1]) rfl rfl rfl ?_
      refine sf_R_isub pm_M196 (pc_q := 27) rfl rfl B34 sf_k1 (by decide) (by decide) (fun z35 e36 B37 => ?_)
      refine pm_R_cs pm_M196 (pc_q := 30) (ra := [.int z35, .int 0, .int a1]) (rest := []) (ls_q := [.int a1, .int 0, .int z35]) rfl rfl (Or.inl rfl) pm_M174 rfl rfl (Nat.le_of_ble_eq_true rfl) rfl rfl ?_
      refine pm_R_lo pm_M174 (pc_q := 1) rfl rfl rfl ?_
      refine pm_R_lo pm_M174 (pc_q := 2) rfl rfl rfl ?_
      refine pm_R_icmp pm_M174 (t := 14) (pc_q := 5) rfl rfl rfl (fun c38 => ?_) (fun c38 => ?_)
      · have B39 : sf_B (-2147483648) (-1) a1 := sf_ltL c38 (sf_any a1) sf_k0
        refine pm_R_op pm_M174 (pc_q := 15) (st_q := [.int 0]) rfl rfl rfl ?_
        refine pm_R_ret pm_M174 (r := some (.int 0)) rfl rfl ?_
        show pm_R _ 196 30 [.ref 41, .int a0, .int a1, .int a2] [.int 0] _ _
        refine pm_R_br pm_M196 (pc_q := 62) (st_q := []) rfl rfl ?_
        refine pm_R_op pm_M196 (pc_q := 63) (st_q := [.int (-1)]) rfl rfl rfl ?_
        exact pm_R_ret pm_M196 (r := some (.int (-1))) rfl rfl (K (-1) m4 w h1 T2 F6 W9)
      · have B40 : sf_B 0 2147483647 a1 := sf_leR (Int32.not_lt.mp c38) sf_k0 (sf_any a1)
        refine pm_R_lo pm_M174 (pc_q := 6) rfl rfl rfl ?_
        refine pm_R_lo pm_M174 (pc_q := 7) rfl rfl rfl ?_
        refine pm_R_icmp pm_M174 (t := 14) (pc_q := 10) rfl rfl rfl (fun c41 => ?_) (fun c41 => ?_)
        · skip
          refine pm_R_op pm_M174 (pc_q := 15) (st_q := [.int 0]) rfl rfl rfl ?_
          refine pm_R_ret pm_M174 (r := some (.int 0)) rfl rfl ?_
          show pm_R _ 196 30 [.ref 41, .int a0, .int a1, .int a2] [.int 0] _ _
          refine pm_R_br pm_M196 (pc_q := 62) (st_q := []) rfl rfl ?_
          refine pm_R_op pm_M196 (pc_q := 63) (st_q := [.int (-1)]) rfl rfl rfl ?_
          exact pm_R_ret pm_M196 (r := some (.int (-1))) rfl rfl (K (-1) m4 w h1 T2 F6 W9)
        · have B42 : sf_B 0 9 a1 := sf_leL (Int32.not_lt.mp c41) B40 B37
          have B43 : sf_B 0 9 z35 := sf_leR (Int32.not_lt.mp c41) B40 B37
          refine pm_R_op pm_M174 (pc_q := 11) (st_q := [.int 1]) rfl rfl rfl ?_
          refine pm_R_br pm_M174 (pc_q := 15) rfl rfl ?_
          refine pm_R_ret pm_M174 (r := some (.int 1)) rfl rfl ?_
          show pm_R _ 196 30 [.ref 41, .int a0, .int a1, .int a2] [.int 1] _ _
          refine pm_R_br pm_M196 (pc_q := 33) (st_q := []) rfl rfl ?_
          refine pm_R_lo pm_M196 (pc_q := 34) rfl rfl rfl ?_
          refine pm_R_op pm_M196 (pc_q := 35) (st_q := [.int 0, .int a2]) rfl rfl rfl ?_
          refine pm_R_op pm_M196 (pc_q := 36) (st_q := [.int 3, .int 0, .int a2]) rfl rfl rfl ?_
          refine pm_R_cs pm_M196 (pc_q := 39) (ra := [.int 3, .int 0, .int a2]) (rest := []) (ls_q := [.int a2, .int 0, .int 3]) rfl rfl (Or.inl rfl) pm_M174 rfl rfl (Nat.le_of_ble_eq_true rfl) rfl rfl ?_
          refine pm_R_lo pm_M174 (pc_q := 1) rfl rfl rfl ?_
          refine pm_R_lo pm_M174 (pc_q := 2) rfl rfl rfl ?_
          refine pm_R_icmp pm_M174 (t := 14) (pc_q := 5) rfl rfl rfl (fun c44 => ?_) (fun c44 => ?_)
          · have B45 : sf_B (-2147483648) (-1) a2 := sf_ltL c44 (sf_any a2) sf_k0
            refine pm_R_op pm_M174 (pc_q := 15) (st_q := [.int 0]) rfl rfl rfl ?_
            refine pm_R_ret pm_M174 (r := some (.int 0)) rfl rfl ?_
            show pm_R _ 196 39 [.ref 41, .int a0, .int a1, .int a2] [.int 0] _ _
            refine pm_R_br pm_M196 (pc_q := 62) (st_q := []) rfl rfl ?_
            refine pm_R_op pm_M196 (pc_q := 63) (st_q := [.int (-1)]) rfl rfl rfl ?_
            exact pm_R_ret pm_M196 (r := some (.int (-1))) rfl rfl (K (-1) m4 w h1 T2 F6 W9)
          · have B46 : sf_B 0 2147483647 a2 := sf_leR (Int32.not_lt.mp c44) sf_k0 (sf_any a2)
            refine pm_R_lo pm_M174 (pc_q := 6) rfl rfl rfl ?_
            refine pm_R_lo pm_M174 (pc_q := 7) rfl rfl rfl ?_
            refine pm_R_icmp pm_M174 (t := 14) (pc_q := 10) rfl rfl rfl (fun c47 => ?_) (fun c47 => ?_)
            · have B48 : sf_B 4 2147483647 a2 := sf_ltR c47 sf_k3 B46
              refine pm_R_op pm_M174 (pc_q := 15) (st_q := [.int 0]) rfl rfl rfl ?_
              refine pm_R_ret pm_M174 (r := some (.int 0)) rfl rfl ?_
              show pm_R _ 196 39 [.ref 41, .int a0, .int a1, .int a2] [.int 0] _ _
              refine pm_R_br pm_M196 (pc_q := 62) (st_q := []) rfl rfl ?_
              refine pm_R_op pm_M196 (pc_q := 63) (st_q := [.int (-1)]) rfl rfl rfl ?_
              exact pm_R_ret pm_M196 (r := some (.int (-1))) rfl rfl (K (-1) m4 w h1 T2 F6 W9)
            · have B49 : sf_B 0 3 a2 := sf_leL (Int32.not_lt.mp c47) B46 sf_k3
              refine pm_R_op pm_M174 (pc_q := 11) (st_q := [.int 1]) rfl rfl rfl ?_
              refine pm_R_br pm_M174 (pc_q := 15) rfl rfl ?_
              refine pm_R_ret pm_M174 (r := some (.int 1)) rfl rfl ?_
              show pm_R _ 196 39 [.ref 41, .int a0, .int a1, .int a2] [.int 1] _ _
              refine pm_R_br pm_M196 (pc_q := 42) (st_q := []) rfl rfl ?_
              refine pm_R_lo pm_M196 (pc_q := 43) rfl rfl rfl ?_
              refine rf_R_get pm_M196 T2 (pc_q := 46) (v := .ref 47) rfl rfl rfl rfl ?_
              refine pm_R_op pm_M196 (pc_q := 48) (st_q := [.int 100, .ref 47]) rfl rfl rfl ?_
              refine pm_R_lo pm_M196 (pc_q := 49) rfl rfl rfl ?_
              refine sf_R_imulV pm_M196 (pc_q := 50) rfl rfl sf_k100 B23 (by decide) (by decide) (by decide) e26 ?_
              refine pm_R_op pm_M196 (pc_q := 51) (st_q := [.int 2, .int z25, .ref 47]) rfl rfl rfl ?_
              refine sf_R_iadd pm_M196 (pc_q := 52) rfl rfl B27 sf_k2 (by decide) (by decide) (fun z50 e51 B52 => ?_)
              refine pm_R_op pm_M196 (pc_q := 53) (st_q := [.int 4, .int z50, .ref 47]) rfl rfl rfl ?_
              refine pm_R_lo pm_M196 (pc_q := 54) rfl rfl rfl ?_
              refine sf_R_imul pm_M196 (pc_q := 55) rfl rfl sf_k4 B42 (by decide) (by decide) (by decide) (fun z53 e54 B55 => ?_)
              refine sf_R_iadd pm_M196 (pc_q := 56) rfl rfl B52 B55 (by decide) (by decide) (fun z56 e57 B58 => ?_)
              refine pm_R_lo pm_M196 (pc_q := 57) rfl rfl rfl ?_
              refine sf_R_iadd pm_M196 (pc_q := 58) rfl rfl B58 B49 (by decide) (by decide) (fun z59 e60 B61 => ?_)
              refine rf_R_ild pm_M196 T2 (pc_q := 59) rfl e29 (by decide) (sf_in B61 (by decide) (by decide)) rfl (fun z62 ez63 => ?_)
              refine pm_R_br pm_M196 (pc_q := 63) rfl rfl ?_
              exact pm_R_ret pm_M196 (r := some (.int z62)) rfl (pm_ret_i _) (K z62 m4 w h1 T2 F6 W9)
