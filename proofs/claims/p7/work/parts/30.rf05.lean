set_option maxRecDepth 100000 in
set_option maxHeartbeats 4000000 in
/-- SilentTableModel.apart -/
theorem rf_c247 {d : Nat} {m : Nat → Int32} {w : Int64} {h : pm_H} {Q : Option Value → pm_H → Prop} {a0 : Int32} {a1 : Int32} {a2 : Int32} (T : rf_T m w h)  (K : ∀ (r : Int32) (m_q : Nat → Int32) (w_q : Int64) (h_q : pm_H), rf_T m_q w_q h_q → rf_G [41, 53, 54, 66] h h_q → rf_W [0, 23, 24, 26] m m_q → sf_B (-1) 9 r → Q (some (.int r)) h_q) : pm_R (d + 7) 247 0 [.ref 41, .int a0, .int a1, .int a2, pm_no, pm_no] [] h Q := by
  refine pm_R_lo pm_M247 (pc_q := 1) rfl rfl rfl ?_
  refine pm_R_op pm_M247 (pc_q := 2) (st_q := [.int 0, .ref 41]) rfl rfl rfl ?_
  refine rf_R_put pm_M247 T (pc_q := 5) rfl rfl rfl (by decide) rfl rfl sf_k0 rfl rfl (fun h1 m4 em5 T2 F3 => ?_)
  have F6 := (rf_G.refl [41, 53, 54, 66] h).trans F3 (by decide)
  have B7 : sf_B 0 0 (m4 0) := by rw [em5]; exact sf_k0
  have W9 : rf_W [0, 23, 24, 26] m m4 := by rw [em5]; exact (rf_W.refl [0, 23, 24, 26] m).put (by decide)
  refine pm_R_lo pm_M247 (pc_q := 6) rfl rfl rfl ?_
  refine pm_R_op pm_M247 (pc_q := 7) (st_q := [.int 0, .ref 41]) rfl rfl rfl ?_
  refine pm_R_lo pm_M247 (pc_q := 8) rfl rfl rfl ?_
  refine pm_R_cv pm_M247 (pc_q := 11) (a := 41) (ra := [.int a0, .int 0]) (rest := []) (ls_q := [.ref 41, .int 0, .int a0]) rfl rfl (Or.inl rfl) pm_M177 T2.2.1 rfl (by decide) (Nat.lt_of_lt_of_le (by decide) T2.1) rfl rfl (Nat.le_of_ble_eq_true rfl) rfl rfl ?_
  refine pm_R_lo pm_M177 (pc_q := 1) rfl rfl rfl ?_
  refine pm_R_op pm_M177 (pc_q := 2) (st_q := [.int 0, .int a0]) rfl rfl rfl ?_
  refine pm_R_lo pm_M177 (pc_q := 3) rfl rfl rfl ?_
  refine rf_R_get pm_M177 T2 (pc_q := 6) (v := .ref 46) rfl rfl rfl rfl ?_
  refine pm_R_lo pm_M177 (pc_q := 7) rfl rfl rfl ?_
  obtain ⟨f10, e11, b12⟩ := T2.2.2.2.1 46 (by decide) (by decide)
  refine rf_R_ild pm_M177 T2 (pc_q := 8) rfl e11 (by decide) rfl rfl (fun z13 ez14 => ?_)
  have B15 : sf_B 0 2 z13 := ez14 ▸ (b12 0)
  refine pm_R_op pm_M177 (pc_q := 9) (st_q := [.int 1, .int z13, .int 0, .int a0]) rfl rfl rfl ?_
  refine sf_R_isub pm_M177 (pc_q := 10) rfl rfl B15 sf_k1 (by decide) (by decide) (fun z16 e17 B18 => ?_)
  refine pm_R_cs pm_M177 (pc_q := 13) (ra := [.int z16, .int 0, .int a0]) (rest := []) (ls_q := [.int a0, .int 0, .int z16]) rfl rfl (Or.inl rfl) pm_M174 rfl rfl (Nat.le_of_ble_eq_true rfl) rfl rfl ?_
  refine pm_R_lo pm_M174 (pc_q := 1) rfl rfl rfl ?_
  refine pm_R_lo pm_M174 (pc_q := 2) rfl rfl rfl ?_
  refine pm_R_icmp pm_M174 (t := 14) (pc_q := 5) rfl rfl rfl (fun c19 => ?_) (fun c19 => ?_)
  · have B20 : sf_B (-2147483648) (-1) a0 := sf_ltL c19 (sf_any a0) sf_k0
    refine pm_R_op pm_M174 (pc_q := 15) (st_q := [.int 0]) rfl rfl rfl ?_
    refine pm_R_ret pm_M174 (r := some (.int 0)) rfl rfl ?_
    show pm_R _ 177 13 [.ref 41, .int 0, .int a0] [.int 0] _ _
    refine pm_R_ret pm_M177 (r := some (.int 0)) rfl rfl ?_
    show pm_R _ 247 11 [.ref 41, .int a0, .int a1, .int a2, pm_no, pm_no] [.int 0] _ _
    refine pm_R_br pm_M247 (pc_q := 23) (st_q := []) rfl rfl ?_
    refine pm_R_op pm_M247 (pc_q := 24) (st_q := [.int (-1)]) rfl rfl rfl ?_
    exact pm_R_ret pm_M247 (r := some (.int (-1))) rfl rfl (K (-1) m4 w h1 T2 F6 W9 (sf_weak sf_kn1 (by decide) (by decide)))
  · have B21 : sf_B 0 2147483647 a0 := sf_leR (Int32.not_lt.mp c19) sf_k0 (sf_any a0)
    refine pm_R_lo pm_M174 (pc_q := 6) rfl rfl rfl ?_
    refine pm_R_lo pm_M174 (pc_q := 7) rfl rfl rfl ?_
    refine pm_R_icmp pm_M174 (t := 14) (pc_q := 10) rfl rfl rfl (fun c22 => ?_) (fun c22 => ?_)
    · skip
      refine pm_R_op pm_M174 (pc_q := 15) (st_q := [.int 0]) rfl rfl rfl ?_
      refine pm_R_ret pm_M174 (r := some (.int 0)) rfl rfl ?_
      show pm_R _ 177 13 [.ref 41, .int 0, .int a0] [.int 0] _ _
      refine pm_R_ret pm_M177 (r := some (.int 0)) rfl rfl ?_
      show pm_R _ 247 11 [.ref 41, .int a0, .int a1, .int a2, pm_no, pm_no] [.int 0] _ _
      refine pm_R_br pm_M247 (pc_q := 23) (st_q := []) rfl rfl ?_
      refine pm_R_op pm_M247 (pc_q := 24) (st_q := [.int (-1)]) rfl rfl rfl ?_
      exact pm_R_ret pm_M247 (r := some (.int (-1))) rfl rfl (K (-1) m4 w h1 T2 F6 W9 (sf_weak sf_kn1 (by decide) (by decide)))
    · have B23 : sf_B 0 1 a0 := sf_leL (Int32.not_lt.mp c22) B21 B18
      have B24 : sf_B 0 1 z16 := sf_leR (Int32.not_lt.mp c22) B21 B18
      refine pm_R_op pm_M174 (pc_q := 11) (st_q := [.int 1]) rfl rfl rfl ?_
      refine pm_R_br pm_M174 (pc_q := 15) rfl rfl ?_
      refine pm_R_ret pm_M174 (r := some (.int 1)) rfl rfl ?_
      show pm_R _ 177 13 [.ref 41, .int 0, .int a0] [.int 1] _ _
      refine pm_R_ret pm_M177 (r := some (.int 1)) rfl rfl ?_
      show pm_R _ 247 11 [.ref 41, .int a0, .int a1, .int a2, pm_no, pm_no] [.int 1] _ _
      refine pm_R_br pm_M247 (pc_q := 14) (st_q := []) rfl rfl ?_
      refine pm_R_lo pm_M247 (pc_q := 15) rfl rfl rfl ?_
      refine pm_R_op pm_M247 (pc_q := 16) (st_q := [.int 0, .ref 41]) rfl rfl rfl ?_
      refine pm_R_lo pm_M247 (pc_q := 17) rfl rfl rfl ?_
      refine pm_R_cv pm_M247 (pc_q := 20) (a := 41) (ra := [.int a1, .int 0]) (rest := []) (ls_q := [.ref 41, .int 0, .int a1]) rfl rfl (Or.inl rfl) pm_M177 T2.2.1 rfl (by decide) (Nat.lt_of_lt_of_le (by decide) T2.1) rfl rfl (Nat.le_of_ble_eq_true rfl) rfl rfl ?_
      refine pm_R_lo pm_M177 (pc_q := 1) rfl rfl rfl ?_
      refine pm_R_op pm_M177 (pc_q := 2) (st_q := [.int 0, .int a1]) rfl rfl rfl ?_
      refine pm_R_lo pm_M177 (pc_q := 3) rfl rfl rfl ?_
      refine rf_R_get pm_M177 T2 (pc_q := 6) (v := .ref 46) rfl rfl rfl rfl ?_
      refine pm_R_lo pm_M177 (pc_q := 7) rfl rfl rfl ?_
      refine pm_R_iald pm_M177 (pc_q := 8) (v := z13) rfl e11 (Nat.lt_of_lt_of_le (by decide) T2.1) rfl ez14 rfl ?_
      refine pm_R_op pm_M177 (pc_q := 9) (st_q := [.int 1, .int z13, .int 0, .int a1]) rfl rfl rfl ?_
      refine sf_R_isubV pm_M177 (pc_q := 10) rfl rfl B15 sf_k1 (by decide) (by decide) e17 ?_
      refine pm_R_cs pm_M177 (pc_q := 13) (ra := [.int z16, .int 0, .int a1]) (rest := []) (ls_q := [.int a1, .int 0, .int z16]) rfl rfl (Or.inl rfl) pm_M174 rfl rfl (Nat.le_of_ble_eq_true rfl) rfl rfl ?_
      refine pm_R_lo pm_M174 (pc_q := 1) rfl rfl rfl ?_
      refine pm_R_lo pm_M174 (pc_q := 2) rfl rfl rfl ?_
      refine pm_R_icmp pm_M174 (t := 14) (pc_q := 5) rfl rfl rfl (fun c27 => ?_) (fun c27 => ?_)
      · have B28 : sf_B (-2147483648) (-1) a1 := sf_ltL c27 (sf_any a1) sf_k0
        refine pm_R_op pm_M174 (pc_q := 15) (st_q := [.int 0]) rfl rfl rfl ?_
        refine pm_R_ret pm_M174 (r := some (.int 0)) rfl rfl ?_
        show pm_R _ 177 13 [.ref 41, .int 0, .int a1] [.int 0] _ _
        refine pm_R_ret pm_M177 (r := some (.int 0)) rfl rfl ?_
        show pm_R _ 247 20 [.ref 41, .int a0, .int a1, .int a2, pm_no, pm_no] [.int 0] _ _
        refine pm_R_br pm_M247 (pc_q := 23) (st_q := []) rfl rfl ?_
        refine pm_R_op pm_M247 (pc_q := 24) (st_q := [.int (-1)]) rfl rfl rfl ?_
        exact pm_R_ret pm_M247 (r := some (.int (-1))) rfl rfl (K (-1) m4 w h1 T2 F6 W9 (sf_weak sf_kn1 (by decide) (by decide)))
      · have B29 : sf_B 0 2147483647 a1 := sf_leR (Int32.not_lt.mp c27) sf_k0 (sf_any a1)
        refine pm_R_lo pm_M174 (pc_q := 6) rfl rfl rfl ?_
        refine pm_R_lo pm_M174 (pc_q := 7) rfl rfl rfl ?_
        refine pm_R_icmp pm_M174 (t := 14) (pc_q := 10) rfl rfl rfl (fun c30 => ?_) (fun c30 => ?_)
        · have B31 : sf_B 1 2147483647 a1 := sf_ltR c30 B24 B29
          refine pm_R_op pm_M174 (pc_q := 15) (st_q := [.int 0]) rfl rfl rfl ?_
          refine pm_R_ret pm_M174 (r := some (.int 0)) rfl rfl ?_
          show pm_R _ 177 13 [.ref 41, .int 0, .int a1] [.int 0] _ _
          refine pm_R_ret pm_M177 (r := some (.int 0)) rfl rfl ?_
          show pm_R _ 247 20 [.ref 41, .int a0, .int a1, .int a2, pm_no, pm_no] [.int 0] _ _
          refine pm_R_br pm_M247 (pc_q := 23) (st_q := []) rfl rfl ?_
          refine pm_R_op pm_M247 (pc_q := 24) (st_q := [.int (-1)]) rfl rfl rfl ?_
          exact pm_R_ret pm_M247 (r := some (.int (-1))) rfl rfl (K (-1) m4 w h1 T2 F6 W9 (sf_weak sf_kn1 (by decide) (by decide)))
        · have B32 : sf_B 0 1 a1 := sf_leL (Int32.not_lt.mp c30) B29 B24
          refine pm_R_op pm_M174 (pc_q := 11) (st_q := [.int 1]) rfl rfl rfl ?_
          refine pm_R_br pm_M174 (pc_q := 15) rfl rfl ?_
          refine pm_R_ret pm_M174 (r := some (.int 1)) rfl rfl ?_
          show pm_R _ 177 13 [.ref 41, .int 0, .int a1] [.int 1] _ _
          refine pm_R_ret pm_M177 (r := some (.int 1)) rfl rfl ?_
          show pm_R _ 247 20 [.ref 41, .int a0, .int a1, .int a2, pm_no, pm_no] [.int 1] _ _
          refine pm_R_br pm_M247 (pc_q := 25) (st_q := []) rfl rfl ?_
          refine pm_R_op pm_M247 (pc_q := 26) (st_q := [.int 1]) rfl rfl rfl ?_
          refine pm_R_lo pm_M247 (pc_q := 28) (ls_q := [.ref 41, .int a0, .int a1, .int a2, .int 1, pm_no]) (st_q := []) rfl rfl rfl ?_
          have L_2937 : ∀ (N : Nat) (h_2937 : pm_H) (m_2937 : Nat → Int32) (w_2937 : Int64) (x4_2937 : Int32) (g5_2937 : Value), rf_T m_2937 w_2937 h_2937 → rf_G [41, 53, 54, 66] h h_2937 → rf_W [23, 24, 26] m4 m_2937 → sf_B 1 4 x4_2937 → g5_2937.category = 1 → (4 - x4_2937.toInt).toNat = N → pm_R (d + 7) 247 28 [.ref 41, .int a0, .int a1, .int a2, .int x4_2937, g5_2937] [] h_2937 Q := by
            intro N
            induction N using Nat.strongRecOn with
            | ind N ih_2937 =>
              intro h_2937 m_2937 w_2937 x4_2937 g5_2937 T_2937 F_2937 W_2937 Bx4_2937 Cg5_2937 hN_2937
              have W2940 : rf_W [0, 23, 24, 26] m m_2937 := W9.trans W_2937 (by decide)
              refine pm_R_lo pm_M247 (pc_q := 30) rfl rfl rfl ?_
              refine pm_R_op pm_M247 (pc_q := 31) (st_q := [.int 3, .int x4_2937]) rfl rfl rfl ?_
              refine pm_R_icmp pm_M247 (t := 95) (pc_q := 34) rfl rfl rfl (fun c2941 => ?_) (fun c2941 => ?_)
              · have B2942 : sf_B 4 4 x4_2937 := sf_ltR c2941 sf_k3 Bx4_2937
                refine pm_R_op pm_M247 (pc_q := 96) (st_q := [.int (-1)]) rfl rfl rfl ?_
                exact pm_R_ret pm_M247 (r := some (.int (-1))) rfl rfl (K (-1) m_2937 w_2937 h_2937 T_2937 F_2937 W2940 (sf_weak sf_kn1 (by decide) (by decide)))
              · have B2943 : sf_B 1 3 x4_2937 := sf_leL (Int32.not_lt.mp c2941) Bx4_2937 sf_k3
                refine pm_R_op pm_M247 (pc_q := 35) (st_q := [.int 0]) rfl rfl rfl ?_
                refine pm_R_lo pm_M247 (pc_q := 37) (ls_q := [.ref 41, .int a0, .int a1, .int a2, .int x4_2937, .int 0]) (st_q := []) rfl rfl rfl ?_
                have L_3554 : ∀ (N : Nat) (h_3554 : pm_H) (m_3554 : Nat → Int32) (w_3554 : Int64) (x5_3554 : Int32), rf_T m_3554 w_3554 h_3554 → rf_G [41, 53, 54, 66] h h_3554 → rf_W [23, 24, 26] m_2937 m_3554 → sf_B 0 2147483647 x5_3554 → (2147483647 - x5_3554.toInt).toNat = N → pm_R (d + 7) 247 37 [.ref 41, .int a0, .int a1, .int a2, .int x4_2937, .int x5_3554] [] h_3554 Q := by
                  intro N
                  induction N using Nat.strongRecOn with
                  | ind N ih_3554 =>
                    intro h_3554 m_3554 w_3554 x5_3554 T_3554 F_3554 W_3554 Bx5_3554 hN_3554
                    have W3557 : rf_W [0, 23, 24, 26] m m_3554 := W2940.trans W_3554 (by decide)
                    have W3558 : rf_W [23, 24, 26] m4 m_3554 := W_2937.trans W_3554 (by decide)
                    refine pm_R_lo pm_M247 (pc_q := 39) rfl rfl rfl ?_
                    refine pm_R_lo pm_M247 (pc_q := 41) rfl rfl rfl ?_
                    refine pm_R_cs pm_M247 (pc_q := 44) (ra := [.int x4_2937]) (rest := [.int x5_3554]) (ls_q := [.int x4_2937, pm_no, pm_no]) rfl rfl (Or.inl rfl) pm_M242 rfl rfl (Nat.le_of_ble_eq_true rfl) rfl rfl ?_
                    refine rf_c242 (d := d + 6) (sf_weak B2943 (by decide) (by decide)) (fun r3559 => ?_)
                    show pm_R _ 247 44 [.ref 41, .int a0, .int a1, .int a2, .int x4_2937, .int x5_3554] [.int r3559, .int x5_3554] _ _
                    refine pm_R_icmp pm_M247 (t := 89) (pc_q := 47) rfl rfl rfl (fun c3567 => ?_) (fun c3567 => ?_)
                    · skip
                      refine sf_R_iinc pm_M247 (pc_q := 92) (ls_q := fun z => [.ref 41, .int a0, .int a1, .int a2, .int z, .int x5_3554]) rfl B2943 rfl (by decide) (by decide) (by decide) (fun _ => rfl) rfl (fun z3568 e3569 B3570 => ?_)
                      show pm_R _ 247 92 [.ref 41, .int a0, .int a1, .int a2, .int z3568, .int x5_3554] [] _ _
                      refine pm_R_br pm_M247 (pc_q := 28) rfl rfl ?_
                      exact ih_2937 _ (sf_up hN_2937 e3569 B2943 (by decide) (by decide)) h_3554 m_3554 w_3554 z3568 (.int x5_3554) T_3554 F_3554 W3558 (sf_weak B3570 (by decide) (by decide)) rfl rfl
                    · have B3571 : sf_B 0 2147483646 x5_3554 := sf_ltL (Int32.not_le.mp c3567) Bx5_3554 (sf_any r3559)
                      have B3572 : sf_B 1 2147483647 r3559 := sf_ltR (Int32.not_le.mp c3567) Bx5_3554 (sf_any r3559)
                      refine pm_R_lo pm_M247 (pc_q := 48) rfl rfl rfl ?_
                      refine pm_R_lo pm_M247 (pc_q := 49) rfl rfl rfl ?_
                      refine pm_R_lo pm_M247 (pc_q := 51) rfl rfl rfl ?_
                      refine pm_R_lo pm_M247 (pc_q := 53) rfl rfl rfl ?_
                      refine pm_R_cv pm_M247 (pc_q := 56) (a := 41) (ra := [.int x5_3554, .int x4_2937, .int a0]) (rest := []) (ls_q := [.ref 41, .int a0, .int x4_2937, .int x5_3554]) rfl rfl (Or.inl rfl) pm_M248 T_3554.2.1 rfl (by decide) (Nat.lt_of_lt_of_le (by decide) T_3554.1) rfl rfl (Nat.le_of_ble_eq_true rfl) rfl rfl ?_
                      refine pm_R_lo pm_M248 (pc_q := 1) rfl rfl rfl ?_
                      refine pm_R_lo pm_M248 (pc_q := 2) rfl rfl rfl ?_
                      refine rf_R_put pm_M248 T_3554 (pc_q := 5) rfl rfl rfl (by decide) rfl rfl B23 rfl rfl (fun h3573 m3576 em3577 T3574 F3575 => ?_)
                      have F3578 := F_3554.trans F3575 (by decide)
                      have B3579 : sf_B 0 1 (m3576 23) := by rw [em3577]; exact B23
                      have ek3580 : (m3576 23).toInt = (a0).toInt := by rw [em3577]; rfl
                      have W3581 : rf_W [0, 23, 24, 26] m m3576 := by rw [em3577]; exact W3557.put (by decide)
                      have W3582 : rf_W [23, 24, 26] m4 m3576 := by rw [em3577]; exact W3558.put (by decide)
                      have W3583 : rf_W [23, 24, 26] m_2937 m3576 := by rw [em3577]; exact W_3554.put (by decide)
                      refine pm_R_lo pm_M248 (pc_q := 6) rfl rfl rfl ?_
                      refine pm_R_lo pm_M248 (pc_q := 7) rfl rfl rfl ?_
                      refine pm_R_lo pm_M248 (pc_q := 8) rfl rfl rfl ?_
                      refine pm_R_cv pm_M248 (pc_q := 11) (a := 41) (ra := [.int x5_3554, .int x4_2937]) (rest := []) (ls_q := [.ref 41, .int x4_2937, .int x5_3554, pm_no, pm_no]) rfl rfl (Or.inl rfl) pm_M244 T3574.2.1 rfl (by decide) (Nat.lt_of_lt_of_le (by decide) T3574.1) rfl rfl (Nat.le_of_ble_eq_true rfl) rfl rfl ?_
                      refine rf_c244 (d := d + 5) T3574 (sf_weak B2943 (by decide) (by decide)) (sf_weak B3571 (by decide) (by decide)) (fun m3586 w3587 h3588 T3589 F3590 W3591 B3592 => ?_)
                      have F3593 := F3578.trans F3590 (by decide)
                      have W3594 : rf_W [0, 23, 24, 26] m m3586 := W3581.trans W3591 (by decide)
                      have W3595 : rf_W [23, 24, 26] m4 m3586 := W3582.trans W3591 (by decide)
                      have W3596 : rf_W [23, 24, 26] m_2937 m3586 := W3583.trans W3591 (by decide)
                      show pm_R _ 248 11 [.ref 41, .int a0, .int x4_2937, .int x5_3554] [] _ _
                      refine pm_R_lo pm_M248 (pc_q := 12) rfl rfl rfl ?_
                      refine pm_R_cv pm_M248 (pc_q := 15) (a := 41) (ra := []) (rest := []) (ls_q := [.ref 41]) rfl rfl (Or.inl rfl) pm_M215 T3589.2.1 rfl (by decide) (Nat.lt_of_lt_of_le (by decide) T3589.1) rfl rfl (Nat.le_of_ble_eq_true rfl) rfl rfl ?_
                      refine rf_c215 (d := d + 0) T3589 (sf_weak B3592 (by decide) (by decide)) (fun r3597 m3599 w3600 h3601 T3602 F3603 W3604 => ?_)
                      have F3605 := F3593.trans F3603 (by decide)
                      have B3606 : sf_B 1 4 (m3599 24) := by rw [W3604 24 (by decide)]; exact B3592
                      have W3607 : rf_W [0, 23, 24, 26] m m3599 := W3594.trans W3604 (by decide)
                      have W3608 : rf_W [23, 24, 26] m4 m3599 := W3595.trans W3604 (by decide)
                      have W3609 : rf_W [23, 24, 26] m_2937 m3599 := W3596.trans W3604 (by decide)
                      show pm_R _ 248 15 [.ref 41, .int a0, .int x4_2937, .int x5_3554] [.long r3597] _ _
                      refine pm_R_ret pm_M248 (r := some (.long r3597)) rfl rfl ?_
                      show pm_R _ 247 56 [.ref 41, .int a0, .int a1, .int a2, .int x4_2937, .int x5_3554] [.long r3597] _ _
                      refine pm_R_lo pm_M247 (pc_q := 57) rfl rfl rfl ?_
                      refine pm_R_lo pm_M247 (pc_q := 58) rfl rfl rfl ?_
                      refine pm_R_lo pm_M247 (pc_q := 60) rfl rfl rfl ?_
                      refine pm_R_lo pm_M247 (pc_q := 62) rfl rfl rfl ?_
                      refine pm_R_cv pm_M247 (pc_q := 65) (a := 41) (ra := [.int x5_3554, .int x4_2937, .int a1]) (rest := [.long r3597]) (ls_q := [.ref 41, .int a1, .int x4_2937, .int x5_3554]) rfl rfl (Or.inl rfl) pm_M248 T3602.2.1 rfl (by decide) (Nat.lt_of_lt_of_le (by decide) T3602.1) rfl rfl (Nat.le_of_ble_eq_true rfl) rfl rfl ?_
                      refine pm_R_lo pm_M248 (pc_q := 1) rfl rfl rfl ?_
                      refine pm_R_lo pm_M248 (pc_q := 2) rfl rfl rfl ?_
                      refine rf_R_put pm_M248 T3602 (pc_q := 5) rfl rfl rfl (by decide) rfl rfl B32 rfl rfl (fun h3610 m3613 em3614 T3611 F3612 => ?_)
                      have F3615 := F3605.trans F3612 (by decide)
                      have B3616 : sf_B 1 4 (m3613 24) := by rw [em3614]; exact B3606
                      have B3617 : sf_B 0 1 (m3613 23) := by rw [em3614]; exact B32
                      have ek3618 : (m3613 23).toInt = (a1).toInt := by rw [em3614]; rfl
                      have W3619 : rf_W [0, 23, 24, 26] m m3613 := by rw [em3614]; exact W3607.put (by decide)
                      have W3620 : rf_W [23, 24, 26] m4 m3613 := by rw [em3614]; exact W3608.put (by decide)
                      have W3621 : rf_W [23, 24, 26] m_2937 m3613 := by rw [em3614]; exact W3609.put (by decide)
                      refine pm_R_lo pm_M248 (pc_q := 6) rfl rfl rfl ?_
                      refine pm_R_lo pm_M248 (pc_q := 7) rfl rfl rfl ?_
                      refine pm_R_lo pm_M248 (pc_q := 8) rfl rfl rfl ?_
                      refine pm_R_cv pm_M248 (pc_q := 11) (a := 41) (ra := [.int x5_3554, .int x4_2937]) (rest := []) (ls_q := [.ref 41, .int x4_2937, .int x5_3554, pm_no, pm_no]) rfl rfl (Or.inl rfl) pm_M244 T3611.2.1 rfl (by decide) (Nat.lt_of_lt_of_le (by decide) T3611.1) rfl rfl (Nat.le_of_ble_eq_true rfl) rfl rfl ?_
                      refine rf_c244 (d := d + 5) T3611 (sf_weak B2943 (by decide) (by decide)) (sf_weak B3571 (by decide) (by decide)) (fun m3624 w3625 h3626 T3627 F3628 W3629 B3630 => ?_)
                      have F3631 := F3615.trans F3628 (by decide)
                      have W3632 : rf_W [0, 23, 24, 26] m m3624 := W3619.trans W3629 (by decide)
                      have W3633 : rf_W [23, 24, 26] m4 m3624 := W3620.trans W3629 (by decide)
                      have W3634 : rf_W [23, 24, 26] m_2937 m3624 := W3621.trans W3629 (by decide)
                      show pm_R _ 248 11 [.ref 41, .int a1, .int x4_2937, .int x5_3554] [] _ _
                      refine pm_R_lo pm_M248 (pc_q := 12) rfl rfl rfl ?_
                      refine pm_R_cv pm_M248 (pc_q := 15) (a := 41) (ra := []) (rest := []) (ls_q := [.ref 41]) rfl rfl (Or.inl rfl) pm_M215 T3627.2.1 rfl (by decide) (Nat.lt_of_lt_of_le (by decide) T3627.1) rfl rfl (Nat.le_of_ble_eq_true rfl) rfl rfl ?_
                      refine rf_c215 (d := d + 0) T3627 (sf_weak B3630 (by decide) (by decide)) (fun r3635 m3637 w3638 h3639 T3640 F3641 W3642 => ?_)
                      have F3643 := F3631.trans F3641 (by decide)
                      have B3644 : sf_B 1 4 (m3637 24) := by rw [W3642 24 (by decide)]; exact B3630
                      have W3645 : rf_W [0, 23, 24, 26] m m3637 := W3632.trans W3642 (by decide)
                      have W3646 : rf_W [23, 24, 26] m4 m3637 := W3633.trans W3642 (by decide)
                      have W3647 : rf_W [23, 24, 26] m_2937 m3637 := W3634.trans W3642 (by decide)
                      show pm_R _ 248 15 [.ref 41, .int a1, .int x4_2937, .int x5_3554] [.long r3635] _ _
                      refine pm_R_ret pm_M248 (r := some (.long r3635)) rfl rfl ?_
                      show pm_R _ 247 65 [.ref 41, .int a0, .int a1, .int a2, .int x4_2937, .int x5_3554] [.long r3635, .long r3597] _ _
                      refine sf_R_lcmp pm_M247 (pc_q := 66) rfl rfl (fun z3648 e3649 => ?_)
                      refine pm_R_ifc pm_M247 (t := 83) (pc_q := 69) rfl rfl rfl (fun c3650 => ?_) (fun c3650 => ?_)
                      · have B3651 : sf_B 0 0 z3648 := sf_eqL c3650 sf_k0
                        have k3652 := lf_ge e3649 B3651 (by decide)
                        refine sf_R_iinc pm_M247 (pc_q := 86) (ls_q := fun z => [.ref 41, .int a0, .int a1, .int a2, .int x4_2937, .int z]) rfl B3571 rfl (by decide) (by decide) (by decide) (fun _ => rfl) rfl (fun z3653 e3654 B3655 => ?_)
                        show pm_R _ 247 86 [.ref 41, .int a0, .int a1, .int a2, .int x4_2937, .int z3653] [] _ _
                        refine pm_R_br pm_M247 (pc_q := 37) rfl rfl ?_
                        exact ih_3554 _ (sf_up hN_3554 e3654 B3571 (by decide) (by decide)) h3639 m3637 w3638 z3653 T3640 F3643 W3647 (sf_weak B3655 (by decide) (by decide)) rfl
                      · have k3656 := sf_lneC e3649 c3650
                        refine pm_R_lo pm_M247 (pc_q := 70) rfl rfl rfl ?_
                        refine pm_R_lo pm_M247 (pc_q := 72) rfl rfl rfl ?_
                        refine pm_R_lo pm_M247 (pc_q := 74) rfl rfl rfl ?_
                        refine pm_R_cv pm_M247 (pc_q := 77) (a := 41) (ra := [.int x5_3554, .int x4_2937]) (rest := []) (ls_q := [.ref 41, .int x4_2937, .int x5_3554, pm_no, pm_no]) rfl rfl (Or.inl rfl) pm_M245 T3640.2.1 rfl (by decide) (Nat.lt_of_lt_of_le (by decide) T3640.1) rfl rfl (Nat.le_of_ble_eq_true rfl) rfl rfl ?_
                        refine rf_c245 (d := d + 6) T3640 (sf_weak B2943 (by decide) (by decide)) (sf_weak B3571 (by decide) (by decide)) (fun m3659 w3660 h3661 T3662 F3663 W3664 => ?_)
                        have F3665 := F3643.trans F3663 (by decide)
                        have B3666 : sf_B 1 4 (m3659 24) := by rw [W3664 24 (by decide)]; exact B3644
                        have W3667 : rf_W [0, 23, 24, 26] m m3659 := W3645.trans W3664 (by decide)
                        have W3668 : rf_W [23, 24, 26] m4 m3659 := W3646.trans W3664 (by decide)
                        have W3669 : rf_W [23, 24, 26] m_2937 m3659 := W3647.trans W3664 (by decide)
                        show pm_R _ 247 77 [.ref 41, .int a0, .int a1, .int a2, .int x4_2937, .int x5_3554] [] _ _
                        refine pm_R_lo pm_M247 (pc_q := 78) rfl rfl rfl ?_
                        refine pm_R_lo pm_M247 (pc_q := 79) rfl rfl rfl ?_
                        refine pm_R_cv pm_M247 (pc_q := 82) (a := 41) (ra := [.int a2]) (rest := []) (ls_q := [.ref 41, .int a2]) rfl rfl (Or.inl rfl) pm_M246 T3662.2.1 rfl (by decide) (Nat.lt_of_lt_of_le (by decide) T3662.1) rfl rfl (Nat.le_of_ble_eq_true rfl) rfl rfl ?_
                        refine pm_R_lo pm_M246 (pc_q := 1) rfl rfl rfl ?_
                        refine pm_R_op pm_M246 (pc_q := 2) (st_q := [.int 0, .int a2]) rfl rfl rfl ?_
                        refine pm_R_lo pm_M246 (pc_q := 3) rfl rfl rfl ?_
                        refine rf_R_get pm_M246 T3662 (pc_q := 6) (v := .ref 66) rfl rfl rfl rfl ?_
                        refine pm_R_op pm_M246 (pc_q := 7) (st_q := [.int 0, .ref 66, .int 0, .int a2]) rfl rfl rfl ?_
                        obtain ⟨f3670, e3671, b3672⟩ := T3662.2.2.2.1 66 (by decide) (by decide)
                        refine rf_R_ild pm_M246 T3662 (pc_q := 8) rfl e3671 (by decide) rfl rfl (fun z3673 ez3674 => ?_)
                        have B3675 : sf_B 0 4 z3673 := ez3674 ▸ (b3672 0)
                        refine pm_R_cs pm_M246 (pc_q := 11) (ra := [.int z3673, .int 0, .int a2]) (rest := []) (ls_q := [.int a2, .int 0, .int z3673]) rfl rfl (Or.inl rfl) pm_M174 rfl rfl (Nat.le_of_ble_eq_true rfl) rfl rfl ?_
                        refine pm_R_lo pm_M174 (pc_q := 1) rfl rfl rfl ?_
                        refine pm_R_lo pm_M174 (pc_q := 2) rfl rfl rfl ?_
                        refine pm_R_icmp pm_M174 (t := 14) (pc_q := 5) rfl rfl rfl (fun c3676 => ?_) (fun c3676 => ?_)
                        · have B3677 : sf_B (-2147483648) (-1) a2 := sf_ltL c3676 (sf_any a2) sf_k0
                          refine pm_R_op pm_M174 (pc_q := 15) (st_q := [.int 0]) rfl rfl rfl ?_
                          refine pm_R_ret pm_M174 (r := some (.int 0)) rfl rfl ?_
                          show pm_R _ 246 11 [.ref 41, .int a2] [.int 0] _ _
                          refine pm_R_br pm_M246 (pc_q := 23) (st_q := []) rfl rfl ?_
                          refine pm_R_op pm_M246 (pc_q := 24) (st_q := [.int (-1)]) rfl rfl rfl ?_
                          refine pm_R_ret pm_M246 (r := some (.int (-1))) rfl rfl ?_
                          show pm_R _ 247 82 [.ref 41, .int a0, .int a1, .int a2, .int x4_2937, .int x5_3554] [.int (-1)] _ _
                          exact pm_R_ret pm_M247 (r := some (.int (-1))) rfl rfl (K (-1) m3659 w3660 h3661 T3662 F3665 W3667 (sf_weak sf_kn1 (by decide) (by decide)))
                        · have B3678 : sf_B 0 2147483647 a2 := sf_leR (Int32.not_lt.mp c3676) sf_k0 (sf_any a2)
                          refine pm_R_lo pm_M174 (pc_q := 6) rfl rfl rfl ?_
                          refine pm_R_lo pm_M174 (pc_q := 7) rfl rfl rfl ?_
                          refine pm_R_icmp pm_M174 (t := 14) (pc_q := 10) rfl rfl rfl (fun c3679 => ?_) (fun c3679 => ?_)
                          · have B3680 : sf_B 1 2147483647 a2 := sf_ltR c3679 B3675 B3678
                            refine pm_R_op pm_M174 (pc_q := 15) (st_q := [.int 0]) rfl rfl rfl ?_
                            refine pm_R_ret pm_M174 (r := some (.int 0)) rfl rfl ?_
                            show pm_R _ 246 11 [.ref 41, .int a2] [.int 0] _ _
                            refine pm_R_br pm_M246 (pc_q := 23) (st_q := []) rfl rfl ?_
                            refine pm_R_op pm_M246 (pc_q := 24) (st_q := [.int (-1)]) rfl rfl rfl ?_
                            refine pm_R_ret pm_M246 (r := some (.int (-1))) rfl rfl ?_
                            show pm_R _ 247 82 [.ref 41, .int a0, .int a1, .int a2, .int x4_2937, .int x5_3554] [.int (-1)] _ _
                            exact pm_R_ret pm_M247 (r := some (.int (-1))) rfl rfl (K (-1) m3659 w3660 h3661 T3662 F3665 W3667 (sf_weak sf_kn1 (by decide) (by decide)))
                          · have B3681 : sf_B 0 4 a2 := sf_leL (Int32.not_lt.mp c3679) B3678 B3675
                            refine pm_R_op pm_M174 (pc_q := 11) (st_q := [.int 1]) rfl rfl rfl ?_
                            refine pm_R_br pm_M174 (pc_q := 15) rfl rfl ?_
                            refine pm_R_ret pm_M174 (r := some (.int 1)) rfl rfl ?_
                            show pm_R _ 246 11 [.ref 41, .int a2] [.int 1] _ _
                            refine pm_R_br pm_M246 (pc_q := 14) (st_q := []) rfl rfl ?_
                            refine pm_R_lo pm_M246 (pc_q := 15) rfl rfl rfl ?_
                            refine rf_R_get pm_M246 T3662 (pc_q := 18) (v := .ref 66) rfl rfl rfl rfl ?_
                            refine pm_R_lo pm_M246 (pc_q := 19) rfl rfl rfl ?_
                            refine rf_R_ild pm_M246 T3662 (pc_q := 20) rfl e3671 (by decide) (sf_in B3681 (by decide) (by decide)) rfl (fun z3682 ez3683 => ?_)
                            have B3684 : sf_B 0 9 z3682 := ez3683 ▸ (rf_p66 b3672 _)
                            refine pm_R_br pm_M246 (pc_q := 24) rfl rfl ?_
                            refine pm_R_ret pm_M246 (r := some (.int z3682)) rfl (pm_ret_i _) ?_
                            show pm_R _ 247 82 [.ref 41, .int a0, .int a1, .int a2, .int x4_2937, .int x5_3554] [.int z3682] _ _
                            exact pm_R_ret pm_M247 (r := some (.int z3682)) rfl (pm_ret_i _) (K z3682 m3659 w3660 h3661 T3662 F3665 W3667 (sf_weak B3684 (by decide) (by decide)))
                exact L_3554 _ h_2937 m_2937 w_2937 0 T_2937 F_2937 (rf_W.refl _ _) (sf_weak sf_k0 (by decide) (by decide)) rfl
          exact L_2937 _ h1 m4 w 1 (pm_no) T2 F6 (rf_W.refl _ _) (sf_weak sf_k1 (by decide) (by decide)) rfl rfl

set_option maxRecDepth 100000 in
set_option maxHeartbeats 4000000 in
/-- SilentTableModel.hole -/
theorem rf_c249 {d : Nat} {m : Nat → Int32} {w : Int64} {h : pm_H} {Q : Option Value → pm_H → Prop} {a0 : Int32} {a1 : Int32} {a2 : Int32} (T : rf_T m w h)  (K : ∀ (r : Int32) (m_q : Nat → Int32) (w_q : Int64) (h_q : pm_H), rf_T m_q w_q h_q → rf_G [41, 53, 54] h h_q → rf_W [0, 23, 24, 26] m m_q → Q (some (.int r)) h_q) : pm_R (d + 6) 249 0 [.ref 41, .int a0, .int a1, .int a2, pm_no, pm_no] [] h Q := by
  refine pm_R_lo pm_M249 (pc_q := 1) rfl rfl rfl ?_
  refine pm_R_op pm_M249 (pc_q := 2) (st_q := [.int 0, .ref 41]) rfl rfl rfl ?_
  refine rf_R_put pm_M249 T (pc_q := 5) rfl rfl rfl (by decide) rfl rfl sf_k0 rfl rfl (fun h1 m4 em5 T2 F3 => ?_)
  have F6 := (rf_G.refl [41, 53, 54] h).trans F3 (by decide)
  have B7 : sf_B 0 0 (m4 0) := by rw [em5]; exact sf_k0
  have W9 : rf_W [0, 23, 24, 26] m m4 := by rw [em5]; exact (rf_W.refl [0, 23, 24, 26] m).put (by decide)
  refine pm_R_lo pm_M249 (pc_q := 6) rfl rfl rfl ?_
  refine pm_R_lo pm_M249 (pc_q := 7) rfl rfl rfl ?_
  refine pm_R_lo pm_M249 (pc_q := 8) rfl rfl rfl ?_
  refine pm_R_lo pm_M249 (pc_q := 9) rfl rfl rfl ?_
  refine pm_R_cv pm_M249 (pc_q := 12) (a := 41) (ra := [.int a2, .int a1, .int a0]) (rest := []) (ls_q := [.ref 41, .int a0, .int a1, .int a2]) rfl rfl (Or.inl rfl) pm_M250 T2.2.1 rfl (by decide) (Nat.lt_of_lt_of_le (by decide) T2.1) rfl rfl (Nat.le_of_ble_eq_true rfl) rfl rfl ?_
  refine pm_R_lo pm_M250 (pc_q := 1) rfl rfl rfl ?_
  refine pm_R_lo pm_M250 (pc_q := 2) rfl rfl rfl ?_
  refine pm_R_lo pm_M250 (pc_q := 3) rfl rfl rfl ?_
  refine pm_R_cv pm_M250 (pc_q := 6) (a := 41) (ra := [.int a1, .int a0]) (rest := []) (ls_q := [.ref 41, .int a0, .int a1]) rfl rfl (Or.inl rfl) pm_M200 T2.2.1 rfl (by decide) (Nat.lt_of_lt_of_le (by decide) T2.1) rfl rfl (Nat.le_of_ble_eq_true rfl) rfl rfl ?_
  refine pm_R_lo pm_M200 (pc_q := 1) rfl rfl rfl ?_
  refine pm_R_op pm_M200 (pc_q := 2) (st_q := [.int 0, .ref 41]) rfl rfl rfl ?_
  refine pm_R_lo pm_M200 (pc_q := 3) rfl rfl rfl ?_
  refine pm_R_cv pm_M200 (pc_q := 6) (a := 41) (ra := [.int a0, .int 0]) (rest := []) (ls_q := [.ref 41, .int 0, .int a0]) rfl rfl (Or.inl rfl) pm_M177 T2.2.1 rfl (by decide) (Nat.lt_of_lt_of_le (by decide) T2.1) rfl rfl (Nat.le_of_ble_eq_true rfl) rfl rfl ?_
  refine pm_R_lo pm_M177 (pc_q := 1) rfl rfl rfl ?_
  refine pm_R_op pm_M177 (pc_q := 2) (st_q := [.int 0, .int a0]) rfl rfl rfl ?_
  refine pm_R_lo pm_M177 (pc_q := 3) rfl rfl rfl ?_
  refine rf_R_get pm_M177 T2 (pc_q := 6) (v := .ref 46) rfl rfl rfl rfl ?_
  refine pm_R_lo pm_M177 (pc_q := 7) rfl rfl rfl ?_
  obtain ⟨f10, e11, b12⟩ := T2.2.2.2.1 46 (by decide) (by decide)
  refine rf_R_ild pm_M177 T2 (pc_q := 8) rfl e11 (by decide) rfl rfl (fun z13 ez14 => ?_)
  have B15 : sf_B 0 2 z13 := ez14 ▸ (b12 0)
  refine pm_R_op pm_M177 (pc_q := 9) (st_q := [.int 1, .int z13, .int 0, .int a0]) rfl rfl rfl ?_
  refine sf_R_isub pm_M177 (pc_q := 10) rfl rfl B15 sf_k1 (by decide) (by decide) (fun z16 e17 B18 => ?_)
  refine pm_R_cs pm_M177 (pc_q := 13) (ra := [.int z16, .int 0, .int a0]) (rest := []) (ls_q := [.int a0, .int 0, .int z16]) rfl rfl (Or.inl rfl) pm_M174 rfl rfl (Nat.le_of_ble_eq_true rfl) rfl rfl ?_
  refine pm_R_lo pm_M174 (pc_q := 1) rfl rfl rfl ?_
  refine pm_R_lo pm_M174 (pc_q := 2) rfl rfl rfl ?_
  refine pm_R_icmp pm_M174 (t := 14) (pc_q := 5) rfl rfl rfl (fun c19 => ?_) (fun c19 => ?_)
  · have B20 : sf_B (-2147483648) (-1) a0 := sf_ltL c19 (sf_any a0) sf_k0
    refine pm_R_op pm_M174 (pc_q := 15) (st_q := [.int 0]) rfl rfl rfl ?_
    refine pm_R_ret pm_M174 (r := some (.int 0)) rfl rfl ?_
    show pm_R _ 177 13 [.ref 41, .int 0, .int a0] [.int 0] _ _
    refine pm_R_ret pm_M177 (r := some (.int 0)) rfl rfl ?_
    show pm_R _ 200 6 [.ref 41, .int a0, .int a1] [.int 0] _ _
    refine pm_R_br pm_M200 (pc_q := 18) (st_q := []) rfl rfl ?_
    refine pm_R_op pm_M200 (pc_q := 19) (st_q := [.int 0]) rfl rfl rfl ?_
    refine pm_R_ret pm_M200 (r := some (.int 0)) rfl rfl ?_
    show pm_R _ 250 6 [.ref 41, .int a0, .int a1, .int a2] [.int 0] _ _
    refine pm_R_br pm_M250 (pc_q := 27) (st_q := []) rfl rfl ?_
    refine pm_R_op pm_M250 (pc_q := 28) (st_q := [.int 0]) rfl rfl rfl ?_
    refine pm_R_ret pm_M250 (r := some (.int 0)) rfl rfl ?_
    show pm_R _ 249 12 [.ref 41, .int a0, .int a1, .int a2, pm_no, pm_no] [.int 0] _ _
    refine pm_R_br pm_M249 (pc_q := 15) (st_q := []) rfl rfl ?_
    refine pm_R_op pm_M249 (pc_q := 16) (st_q := [.int (-1)]) rfl rfl rfl ?_
    exact pm_R_ret pm_M249 (r := some (.int (-1))) rfl rfl (K (-1) m4 w h1 T2 F6 W9)
  · have B21 : sf_B 0 2147483647 a0 := sf_leR (Int32.not_lt.mp c19) sf_k0 (sf_any a0)
    refine pm_R_lo pm_M174 (pc_q := 6) rfl rfl rfl ?_
    refine pm_R_lo pm_M174 (pc_q := 7) rfl rfl rfl ?_
    refine pm_R_icmp pm_M174 (t := 14) (pc_q := 10) rfl rfl rfl (fun c22 => ?_) (fun c22 => ?_)
    · skip
      refine pm_R_op pm_M174 (pc_q := 15) (st_q := [.int 0]) rfl rfl rfl ?_
      refine pm_R_ret pm_M174 (r := some (.int 0)) rfl rfl ?_
      show pm_R _ 177 13 [.ref 41, .int 0, .int a0] [.int 0] _ _
      refine pm_R_ret pm_M177 (r := some (.int 0)) rfl rfl ?_
      show pm_R _ 200 6 [.ref 41, .int a0, .int a1] [.int 0] _ _
      refine pm_R_br pm_M200 (pc_q := 18) (st_q := []) rfl rfl ?_
      refine pm_R_op pm_M200 (pc_q := 19) (st_q := [.int 0]) rfl rfl rfl ?_
      refine pm_R_ret pm_M200 (r := some (.int 0)) rfl rfl ?_
      show pm_R _ 250 6 [.ref 41, .int a0, .int a1, .int a2] [.int 0] _ _
      refine pm_R_br pm_M250 (pc_q := 27) (st_q := []) rfl rfl ?_
      refine pm_R_op pm_M250 (pc_q := 28) (st_q := [.int 0]) rfl rfl rfl ?_
      refine pm_R_ret pm_M250 (r := some (.int 0)) rfl rfl ?_
      show pm_R _ 249 12 [.ref 41, .int a0, .int a1, .int a2, pm_no, pm_no] [.int 0] _ _
      refine pm_R_br pm_M249 (pc_q := 15) (st_q := []) rfl rfl ?_
      refine pm_R_op pm_M249 (pc_q := 16) (st_q := [.int (-1)]) rfl rfl rfl ?_
      exact pm_R_ret pm_M249 (r := some (.int (-1))) rfl rfl (K (-1) m4 w h1 T2 F6 W9)
    · have B23 : sf_B 0 1 a0 := sf_leL (Int32.not_lt.mp c22) B21 B18
      have B24 : sf_B 0 1 z16 := sf_leR (Int32.not_lt.mp c22) B21 B18
      refine pm_R_op pm_M174 (pc_q := 11) (st_q := [.int 1]) rfl rfl rfl ?_
      refine pm_R_br pm_M174 (pc_q := 15) rfl rfl ?_
      refine pm_R_ret pm_M174 (r := some (.int 1)) rfl rfl ?_
      show pm_R _ 177 13 [.ref 41, .int 0, .int a0] [.int 1] _ _
      refine pm_R_ret pm_M177 (r := some (.int 1)) rfl rfl ?_
      show pm_R _ 200 6 [.ref 41, .int a0, .int a1] [.int 1] _ _
      refine pm_R_br pm_M200 (pc_q := 9) (st_q := []) rfl rfl ?_
      refine pm_R_lo pm_M200 (pc_q := 10) rfl rfl rfl ?_
      refine pm_R_op pm_M200 (pc_q := 11) (st_q := [.int 1, .ref 41]) rfl rfl rfl ?_
      refine pm_R_lo pm_M200 (pc_q := 12) rfl rfl rfl ?_
      refine pm_R_cv pm_M200 (pc_q := 15) (a := 41) (ra := [.int a1, .int 1]) (rest := []) (ls_q := [.ref 41, .int 1, .int a1]) rfl rfl (Or.inl rfl) pm_M177 T2.2.1 rfl (by decide) (Nat.lt_of_lt_of_le (by decide) T2.1) rfl rfl (Nat.le_of_ble_eq_true rfl) rfl rfl ?_
      refine pm_R_lo pm_M177 (pc_q := 1) rfl rfl rfl ?_
      refine pm_R_op pm_M177 (pc_q := 2) (st_q := [.int 0, .int a1]) rfl rfl rfl ?_
      refine pm_R_lo pm_M177 (pc_q := 3) rfl rfl rfl ?_
      refine rf_R_get pm_M177 T2 (pc_q := 6) (v := .ref 46) rfl rfl rfl rfl ?_
      refine pm_R_lo pm_M177 (pc_q := 7) rfl rfl rfl ?_
      refine rf_R_ild pm_M177 T2 (pc_q := 8) rfl e11 (by decide) rfl rfl (fun z25 ez26 => ?_)
      have B27 : sf_B 0 3 z25 := ez26 ▸ (b12 1)
      refine pm_R_op pm_M177 (pc_q := 9) (st_q := [.int 1, .int z25, .int 0, .int a1]) rfl rfl rfl ?_
      refine sf_R_isub pm_M177 (pc_q := 10) rfl rfl B27 sf_k1 (by decide) (by decide) (fun z28 e29 B30 => ?_)
      refine pm_R_cs pm_M177 (pc_q := 13) (ra := [.int z28, .int 0, .int a1]) (rest := []) (ls_q := [.int a1, .int 0, .int z28]) rfl rfl (Or.inl rfl) pm_M174 rfl rfl (Nat.le_of_ble_eq_true rfl) rfl rfl ?_
      refine pm_R_lo pm_M174 (pc_q := 1) rfl rfl rfl ?_
      refine pm_R_lo pm_M174 (pc_q := 2) rfl rfl rfl ?_
      refine pm_R_icmp pm_M174 (t := 14) (pc_q := 5) rfl rfl rfl (fun c31 => ?_) (fun c31 => ?_)
      · have B32 : sf_B (-2147483648) (-1) a1 := sf_ltL c31 (sf_any a1) sf_k0
        refine pm_R_op pm_M174 (pc_q := 15) (st_q := [.int 0]) rfl rfl rfl ?_
        refine pm_R_ret pm_M174 (r := some (.int 0)) rfl rfl ?_
        show pm_R _ 177 13 [.ref 41, .int 1, .int a1] [.int 0] _ _
        refine pm_R_ret pm_M177 (r := some (.int 0)) rfl rfl ?_
        show pm_R _ 200 15 [.ref 41, .int a0, .int a1] [.int 0] _ _
        refine pm_R_br pm_M200 (pc_q := 18) (st_q := []) rfl rfl ?_
        refine pm_R_op pm_M200 (pc_q := 19) (st_q := [.int 0]) rfl rfl rfl ?_
        refine pm_R_ret pm_M200 (r := some (.int 0)) rfl rfl ?_
        show pm_R _ 250 6 [.ref 41, .int a0, .int a1, .int a2] [.int 0] _ _
        refine pm_R_br pm_M250 (pc_q := 27) (st_q := []) rfl rfl ?_
        refine pm_R_op pm_M250 (pc_q := 28) (st_q := [.int 0]) rfl rfl rfl ?_
        refine pm_R_ret pm_M250 (r := some (.int 0)) rfl rfl ?_
        show pm_R _ 249 12 [.ref 41, .int a0, .int a1, .int a2, pm_no, pm_no] [.int 0] _ _
        refine pm_R_br pm_M249 (pc_q := 15) (st_q := []) rfl rfl ?_
        refine pm_R_op pm_M249 (pc_q := 16) (st_q := [.int (-1)]) rfl rfl rfl ?_
        exact pm_R_ret pm_M249 (r := some (.int (-1))) rfl rfl (K (-1) m4 w h1 T2 F6 W9)
      · have B33 : sf_B 0 2147483647 a1 := sf_leR (Int32.not_lt.mp c31) sf_k0 (sf_any a1)
        refine pm_R_lo pm_M174 (pc_q := 6) rfl rfl rfl ?_
        refine pm_R_lo pm_M174 (pc_q := 7) rfl rfl rfl ?_
        refine pm_R_icmp pm_M174 (t := 14) (pc_q := 10) rfl rfl rfl (fun c34 => ?_) (fun c34 => ?_)
        · skip
          refine pm_R_op pm_M174 (pc_q := 15) (st_q := [.int 0]) rfl rfl rfl ?_
          refine pm_R_ret pm_M174 (r := some (.int 0)) rfl rfl ?_
          show pm_R _ 177 13 [.ref 41, .int 1, .int a1] [.int 0] _ _
          refine pm_R_ret pm_M177 (r := some (.int 0)) rfl rfl ?_
          show pm_R _ 200 15 [.ref 41, .int a0, .int a1] [.int 0] _ _
          refine pm_R_br pm_M200 (pc_q := 18) (st_q := []) rfl rfl ?_
          refine pm_R_op pm_M200 (pc_q := 19) (st_q := [.int 0]) rfl rfl rfl ?_
          refine pm_R_ret pm_M200 (r := some (.int 0)) rfl rfl ?_
          show pm_R _ 250 6 [.ref 41, .int a0, .int a1, .int a2] [.int 0] _ _
          refine pm_R_br pm_M250 (pc_q := 27) (st_q := []) rfl rfl ?_
          refine pm_R_op pm_M250 (pc_q := 28) (st_q := [.int 0]) rfl rfl rfl ?_
          refine pm_R_ret pm_M250 (r := some (.int 0)) rfl rfl ?_
          show pm_R _ 249 12 [.ref 41, .int a0, .int a1, .int a2, pm_no, pm_no] [.int 0] _ _
          refine pm_R_br pm_M249 (pc_q := 15) (st_q := []) rfl rfl ?_
          refine pm_R_op pm_M249 (pc_q := 16) (st_q := [.int (-1)]) rfl rfl rfl ?_
          exact pm_R_ret pm_M249 (r := some (.int (-1))) rfl rfl (K (-1) m4 w h1 T2 F6 W9)
        · have V35 := rf_V.mk e11 ez26 e29 (Int32.not_lt.mp c34) B33 (by decide)
          have V35 := V35.back F6 (by decide)
          have B36 : sf_B 0 2 a1 := sf_leL (Int32.not_lt.mp c34) B33 B30
          have B37 : sf_B 0 2 z28 := sf_leR (Int32.not_lt.mp c34) B33 B30
          refine pm_R_op pm_M174 (pc_q := 11) (st_q := [.int 1]) rfl rfl rfl ?_
          refine pm_R_br pm_M174 (pc_q := 15) rfl rfl ?_
          refine pm_R_ret pm_M174 (r := some (.int 1)) rfl rfl ?_
          show pm_R _ 177 13 [.ref 41, .int 1, .int a1] [.int 1] _ _
          refine pm_R_ret pm_M177 (r := some (.int 1)) rfl rfl ?_
          show pm_R _ 200 15 [.ref 41, .int a0, .int a1] [.int 1] _ _
          refine pm_R_br pm_M200 (pc_q := 20) (st_q := []) rfl rfl ?_
          refine pm_R_lo pm_M200 (pc_q := 21) rfl rfl rfl ?_
          refine pm_R_lo pm_M200 (pc_q := 22) rfl rfl rfl ?_
          refine pm_R_lo pm_M200 (pc_q := 23) rfl rfl rfl ?_
          refine pm_R_cv pm_M200 (pc_q := 26) (a := 41) (ra := [.int a1, .int a0]) (rest := []) (ls_q := [.ref 41, .int a0, .int a1, pm_no]) rfl rfl (Or.inl rfl) pm_M201 T2.2.1 rfl (by decide) (Nat.lt_of_lt_of_le (by decide) T2.1) rfl rfl (Nat.le_of_ble_eq_true rfl) rfl rfl ?_
          refine rf_c201 (d := d + 3) T2 B23 B36 (V35.F F6 (by decide)) (fun m40 w41 h42 T43 F44 W45 X46 B47 => ?_)
          have F48 := F6.trans F44 (by decide)
          have W49 : rf_W [0, 23, 24, 26] m m40 := W9.trans W45 (by decide)
          show pm_R _ 200 26 [.ref 41, .int a0, .int a1] [] _ _
          refine pm_R_op pm_M200 (pc_q := 27) (st_q := [.int 1]) rfl rfl rfl ?_
          refine pm_R_ret pm_M200 (r := some (.int 1)) rfl rfl ?_
          show pm_R _ 250 6 [.ref 41, .int a0, .int a1, .int a2] [.int 1] _ _
          refine pm_R_br pm_M250 (pc_q := 9) (st_q := []) rfl rfl ?_
          refine pm_R_lo pm_M250 (pc_q := 10) rfl rfl rfl ?_
          refine pm_R_op pm_M250 (pc_q := 11) (st_q := [.int 0, .int a2]) rfl rfl rfl ?_
          refine pm_R_lo pm_M250 (pc_q := 12) rfl rfl rfl ?_
          refine rf_R_get pm_M250 T43 (pc_q := 15) (v := .int (m40 24)) rfl rfl rfl rfl ?_
          refine pm_R_op pm_M250 (pc_q := 16) (st_q := [.int 1, .int (m40 24), .int 0, .int a2]) rfl rfl rfl ?_
          refine sf_R_isub pm_M250 (pc_q := 17) rfl rfl B47 sf_k1 (by decide) (by decide) (fun z50 e51 B52 => ?_)
          refine pm_R_cs pm_M250 (pc_q := 20) (ra := [.int z50, .int 0, .int a2]) (rest := []) (ls_q := [.int a2, .int 0, .int z50]) rfl rfl (Or.inl rfl) pm_M174 rfl rfl (Nat.le_of_ble_eq_true rfl) rfl rfl ?_
          refine pm_R_lo pm_M174 (pc_q := 1) rfl rfl rfl ?_
          refine pm_R_lo pm_M174 (pc_q := 2) rfl rfl rfl ?_
          refine pm_R_icmp pm_M174 (t := 14) (pc_q := 5) rfl rfl rfl (fun c53 => ?_) (fun c53 => ?_)
          · have B54 : sf_B (-2147483648) (-1) a2 := sf_ltL c53 (sf_any a2) sf_k0
            refine pm_R_op pm_M174 (pc_q := 15) (st_q := [.int 0]) rfl rfl rfl ?_
            refine pm_R_ret pm_M174 (r := some (.int 0)) rfl rfl ?_
            show pm_R _ 250 20 [.ref 41, .int a0, .int a1, .int a2] [.int 0] _ _
            refine pm_R_br pm_M250 (pc_q := 27) (st_q := []) rfl rfl ?_
            refine pm_R_op pm_M250 (pc_q := 28) (st_q := [.int 0]) rfl rfl rfl ?_
            refine pm_R_ret pm_M250 (r := some (.int 0)) rfl rfl ?_
            show pm_R _ 249 12 [.ref 41, .int a0, .int a1, .int a2, pm_no, pm_no] [.int 0] _ _
            refine pm_R_br pm_M249 (pc_q := 15) (st_q := []) rfl rfl ?_
            refine pm_R_op pm_M249 (pc_q := 16) (st_q := [.int (-1)]) rfl rfl rfl ?_
            exact pm_R_ret pm_M249 (r := some (.int (-1))) rfl rfl (K (-1) m40 w41 h42 T43 F48 W49)
          · have B55 : sf_B 0 2147483647 a2 := sf_leR (Int32.not_lt.mp c53) sf_k0 (sf_any a2)
            refine pm_R_lo pm_M174 (pc_q := 6) rfl rfl rfl ?_
            refine pm_R_lo pm_M174 (pc_q := 7) rfl rfl rfl ?_
            refine pm_R_icmp pm_M174 (t := 14) (pc_q := 10) rfl rfl rfl (fun c56 => ?_) (fun c56 => ?_)
            · have B57 : sf_B 1 2147483647 a2 := sf_ltR c56 B52 B55
              refine pm_R_op pm_M174 (pc_q := 15) (st_q := [.int 0]) rfl rfl rfl ?_
              refine pm_R_ret pm_M174 (r := some (.int 0)) rfl rfl ?_
              show pm_R _ 250 20 [.ref 41, .int a0, .int a1, .int a2] [.int 0] _ _
              refine pm_R_br pm_M250 (pc_q := 27) (st_q := []) rfl rfl ?_
              refine pm_R_op pm_M250 (pc_q := 28) (st_q := [.int 0]) rfl rfl rfl ?_
              refine pm_R_ret pm_M250 (r := some (.int 0)) rfl rfl ?_
              show pm_R _ 249 12 [.ref 41, .int a0, .int a1, .int a2, pm_no, pm_no] [.int 0] _ _
              refine pm_R_br pm_M249 (pc_q := 15) (st_q := []) rfl rfl ?_
              refine pm_R_op pm_M249 (pc_q := 16) (st_q := [.int (-1)]) rfl rfl rfl ?_
              exact pm_R_ret pm_M249 (r := some (.int (-1))) rfl rfl (K (-1) m40 w41 h42 T43 F48 W49)
            · have B58 : sf_B 0 11 a2 := sf_leL (Int32.not_lt.mp c56) B55 B52
              refine pm_R_op pm_M174 (pc_q := 11) (st_q := [.int 1]) rfl rfl rfl ?_
              refine pm_R_br pm_M174 (pc_q := 15) rfl rfl ?_
              refine pm_R_ret pm_M174 (r := some (.int 1)) rfl rfl ?_
              show pm_R _ 250 20 [.ref 41, .int a0, .int a1, .int a2] [.int 1] _ _
              refine pm_R_br pm_M250 (pc_q := 23) (st_q := []) rfl rfl ?_
              refine pm_R_op pm_M250 (pc_q := 24) (st_q := [.int 1]) rfl rfl rfl ?_
              refine pm_R_br pm_M250 (pc_q := 28) rfl rfl ?_
              refine pm_R_ret pm_M250 (r := some (.int 1)) rfl rfl ?_
              show pm_R _ 249 12 [.ref 41, .int a0, .int a1, .int a2, pm_no, pm_no] [.int 1] _ _
              refine pm_R_br pm_M249 (pc_q := 17) (st_q := []) rfl rfl ?_
              refine pm_R_op pm_M249 (pc_q := 18) (st_q := [.int 0]) rfl rfl rfl ?_
              refine pm_R_lo pm_M249 (pc_q := 20) (ls_q := [.ref 41, .int a0, .int a1, .int a2, .int 0, pm_no]) (st_q := []) rfl rfl rfl ?_
              refine pm_R_op pm_M249 (pc_q := 21) (st_q := [.int 0]) rfl rfl rfl ?_
              refine pm_R_lo pm_M249 (pc_q := 23) (ls_q := [.ref 41, .int a0, .int a1, .int a2, .int 0, .int 0]) (st_q := []) rfl rfl rfl ?_
              have L_323 : ∀ (N : Nat) (h_323 : pm_H) (m_323 : Nat → Int32) (w_323 : Int64) (x4_323 : Int32) (x5_323 : Int32), rf_T m_323 w_323 h_323 → rf_G [41, 53, 54] h h_323 → rf_W [] m40 m_323 → sf_B (-2147483648) 2147483647 x4_323 → sf_B 0 10 x5_323 → (10 - x5_323.toInt).toNat = N → pm_R (d + 6) 249 23 [.ref 41, .int a0, .int a1, .int a2, .int x4_323, .int x5_323] [] h_323 Q := by
                intro N
                induction N using Nat.strongRecOn with
                | ind N ih_323 =>
                  intro h_323 m_323 w_323 x4_323 x5_323 T_323 F_323 W_323 Bx4_323 Bx5_323 hN_323
                  have B326 : sf_B 1 12 (m_323 24) := by rw [W_323 24 (by decide)]; exact B47
                  have W327 : rf_W [0, 23, 24, 26] m m_323 := W49.trans W_323 (by decide)
                  refine pm_R_lo pm_M249 (pc_q := 25) rfl rfl rfl ?_
                  refine pm_R_op pm_M249 (pc_q := 27) (st_q := [.int 10, .int x5_323]) rfl rfl rfl ?_
                  refine pm_R_icmp pm_M249 (t := 68) (pc_q := 30) rfl rfl rfl (fun c328 => ?_) (fun c328 => ?_)
                  · have B329 : sf_B 10 10 x5_323 := sf_leR c328 sf_k10 Bx5_323
                    refine pm_R_lo pm_M249 (pc_q := 70) rfl rfl rfl ?_
                    exact pm_R_ret pm_M249 (r := some (.int x4_323)) rfl (pm_ret_i _) (K x4_323 m_323 w_323 h_323 T_323 F_323 W327)
                  · have B330 : sf_B 0 9 x5_323 := sf_ltL (Int32.not_le.mp c328) Bx5_323 sf_k10
                    refine pm_R_lo pm_M249 (pc_q := 31) rfl rfl rfl ?_
                    refine rf_R_get pm_M249 T_323 (pc_q := 34) (v := .ref 53) rfl rfl rfl rfl ?_
                    refine pm_R_lo pm_M249 (pc_q := 35) rfl rfl rfl ?_
                    refine pm_R_op pm_M249 (pc_q := 36) (st_q := [.int 1, .int a2, .ref 53]) rfl rfl rfl ?_
                    refine pm_R_lo pm_M249 (pc_q := 38) rfl rfl rfl ?_
                    refine sf_R_iany pm_M249 (pc_q := 39) (st := [.int a2, .ref 53]) rfl rfl rfl (fun z334 => ?_)
                    obtain ⟨f335, e336⟩ := T_323.2.2.2.1 53 (by decide) (by decide)
                    refine rf_R_ist pm_M249 T_323 (pc_q := 40) rfl e336 (by decide) (by decide) (sf_in B58 (by decide) (by decide)) ⟨_, rfl⟩ rfl (fun h338 T339 F340 e341 => ?_)
                    have F342 := F_323.trans F340 (by decide)
                    refine pm_R_lo pm_M249 (pc_q := 42) rfl rfl rfl ?_
                    refine pm_R_lo pm_M249 (pc_q := 43) rfl rfl rfl ?_
                    refine pm_R_cv pm_M249 (pc_q := 46) (a := 41) (ra := []) (rest := [.int x4_323]) (ls_q := [.ref 41]) rfl rfl (Or.inl rfl) pm_M215 T339.2.1 rfl (by decide) (Nat.lt_of_lt_of_le (by decide) T339.1) rfl rfl (Nat.le_of_ble_eq_true rfl) rfl rfl ?_
                    refine rf_c215 (d := d + 0) T339 B326 (fun r343 m345 w346 h347 T348 F349 W350 => ?_)
                    have F351 := F342.trans F349 (by decide)
                    have B352 : sf_B 1 12 (m345 24) := by rw [W350 24 (by decide)]; exact B326
                    have W353 : rf_W [0, 23, 24, 26] m m345 := W327.trans W350 (by decide)
                    have W354 : rf_W [] m40 m345 := W_323.trans W350 (by decide)
                    show pm_R _ 249 46 [.ref 41, .int a0, .int a1, .int a2, .int x4_323, .int x5_323] [.long r343, .int x4_323] _ _
                    refine pm_R_op pm_M249 (pc_q := 47) (st_q := [.long 0, .long r343, .int x4_323]) rfl rfl rfl ?_
                    refine sf_R_lcmp pm_M249 (pc_q := 48) rfl rfl (fun z355 e356 => ?_)
                    refine pm_R_ifc pm_M249 (t := 58) (pc_q := 51) rfl rfl rfl (fun c357 => ?_) (fun c357 => ?_)
                    · have B358 : sf_B 0 0 z355 := sf_eqL c357 sf_k0
                      have B359 : lf_B 0 0 r343 := lf_eqB e356 B358 (⟨by decide, by decide⟩ : lf_B 0 0 0)
                      refine pm_R_op pm_M249 (pc_q := 59) (st_q := [.int 0, .int x4_323]) rfl rfl rfl ?_
                      refine sf_R_iany pm_M249 (pc_q := 60) (st := []) rfl rfl rfl (fun z363 => ?_)
                      refine pm_R_lo pm_M249 (pc_q := 62) (ls_q := [.ref 41, .int a0, .int a1, .int a2, .int z363, .int x5_323]) (st_q := []) rfl rfl rfl ?_
                      refine sf_R_iinc pm_M249 (pc_q := 65) (ls_q := fun z => [.ref 41, .int a0, .int a1, .int a2, .int z363, .int z]) rfl B330 rfl (by decide) (by decide) (by decide) (fun _ => rfl) rfl (fun z364 e365 B366 => ?_)
                      show pm_R _ 249 65 [.ref 41, .int a0, .int a1, .int a2, .int z363, .int z364] [] _ _
                      refine pm_R_br pm_M249 (pc_q := 23) rfl rfl ?_
                      exact ih_323 _ (sf_up hN_323 e365 B330 (by decide) (by decide)) h347 m345 w346 z363 z364 T348 F351 W354 (sf_any z363) (sf_weak B366 (by decide) (by decide)) rfl
                    · have k367 := sf_lneC e356 c357
                      refine pm_R_op pm_M249 (pc_q := 52) (st_q := [.int 1, .int x4_323]) rfl rfl rfl ?_
                      refine pm_R_lo pm_M249 (pc_q := 54) rfl rfl rfl ?_
                      refine sf_R_iany pm_M249 (pc_q := 55) (st := [.int x4_323]) rfl rfl rfl (fun z371 => ?_)
                      refine pm_R_br pm_M249 (pc_q := 59) rfl rfl ?_
                      refine sf_R_iany pm_M249 (pc_q := 60) (st := []) rfl rfl rfl (fun z375 => ?_)
                      refine pm_R_lo pm_M249 (pc_q := 62) (ls_q := [.ref 41, .int a0, .int a1, .int a2, .int z375, .int x5_323]) (st_q := []) rfl rfl rfl ?_
                      refine sf_R_iinc pm_M249 (pc_q := 65) (ls_q := fun z => [.ref 41, .int a0, .int a1, .int a2, .int z375, .int z]) rfl B330 rfl (by decide) (by decide) (by decide) (fun _ => rfl) rfl (fun z376 e377 B378 => ?_)
                      show pm_R _ 249 65 [.ref 41, .int a0, .int a1, .int a2, .int z375, .int z376] [] _ _
                      refine pm_R_br pm_M249 (pc_q := 23) rfl rfl ?_
                      exact ih_323 _ (sf_up hN_323 e377 B330 (by decide) (by decide)) h347 m345 w346 z375 z376 T348 F351 W354 (sf_any z375) (sf_weak B378 (by decide) (by decide)) rfl
              exact L_323 _ h42 m40 w41 0 0 T43 F48 (rf_W.refl _ _) (sf_weak sf_k0 (by decide) (by decide)) (sf_weak sf_k0 (by decide) (by decide)) rfl

set_option maxRecDepth 100000 in
set_option maxHeartbeats 4000000 in
/-- SilentTableModel.doubt -/
theorem rf_c252 {d : Nat} {m : Nat → Int32} {w : Int64} {h : pm_H} {Q : Option Value → pm_H → Prop} {a0 : Int32} {a1 : Int32} {a2 : Int32} (T : rf_T m w h)  (K : ∀ (r : Int32) (m_q : Nat → Int32) (w_q : Int64) (h_q : pm_H), rf_T m_q w_q h_q → rf_G [41, 53, 54] h h_q → rf_W [0, 23, 24, 26, 27] m m_q → Q (some (.int r)) h_q) : pm_R (d + 6) 252 0 [.ref 41, .int a0, .int a1, .int a2, pm_no, pm_no] [] h Q := by
  refine pm_R_lo pm_M252 (pc_q := 1) rfl rfl rfl ?_
  refine pm_R_op pm_M252 (pc_q := 2) (st_q := [.int 0, .ref 41]) rfl rfl rfl ?_
  refine rf_R_put pm_M252 T (pc_q := 5) rfl rfl rfl (by decide) rfl rfl sf_k0 rfl rfl (fun h1 m4 em5 T2 F3 => ?_)
  have F6 := (rf_G.refl [41, 53, 54] h).trans F3 (by decide)
  have B7 : sf_B 0 0 (m4 0) := by rw [em5]; exact sf_k0
  have W9 : rf_W [0, 23, 24, 26, 27] m m4 := by rw [em5]; exact (rf_W.refl [0, 23, 24, 26, 27] m).put (by decide)
  refine pm_R_lo pm_M252 (pc_q := 6) rfl rfl rfl ?_
  refine pm_R_lo pm_M252 (pc_q := 7) rfl rfl rfl ?_
  refine pm_R_lo pm_M252 (pc_q := 8) rfl rfl rfl ?_
  refine pm_R_lo pm_M252 (pc_q := 9) rfl rfl rfl ?_
  refine pm_R_cv pm_M252 (pc_q := 12) (a := 41) (ra := [.int a2, .int a1, .int a0]) (rest := []) (ls_q := [.ref 41, .int a0, .int a1, .int a2]) rfl rfl (Or.inl rfl) pm_M250 T2.2.1 rfl (by decide) (Nat.lt_of_lt_of_le (by decide) T2.1) rfl rfl (Nat.le_of_ble_eq_true rfl) rfl rfl ?_
  refine pm_R_lo pm_M250 (pc_q := 1) rfl rfl rfl ?_
  refine pm_R_lo pm_M250 (pc_q := 2) rfl rfl rfl ?_
  refine pm_R_lo pm_M250 (pc_q := 3) rfl rfl rfl ?_
  refine pm_R_cv pm_M250 (pc_q := 6) (a := 41) (ra := [.int a1, .int a0]) (rest := []) (ls_q := [.ref 41, .int a0, .int a1]) rfl rfl (Or.inl rfl) pm_M200 T2.2.1 rfl (by decide) (Nat.lt_of_lt_of_le (by decide) T2.1) rfl rfl (Nat.le_of_ble_eq_true rfl) rfl rfl ?_
  refine pm_R_lo pm_M200 (pc_q := 1) rfl rfl rfl ?_
  refine pm_R_op pm_M200 (pc_q := 2) (st_q := [.int 0, .ref 41]) rfl rfl rfl ?_
  refine pm_R_lo pm_M200 (pc_q := 3) rfl rfl rfl ?_
  refine pm_R_cv pm_M200 (pc_q := 6) (a := 41) (ra := [.int a0, .int 0]) (rest := []) (ls_q := [.ref 41, .int 0, .int a0]) rfl rfl (Or.inl rfl) pm_M177 T2.2.1 rfl (by decide) (Nat.lt_of_lt_of_le (by decide) T2.1) rfl rfl (Nat.le_of_ble_eq_true rfl) rfl rfl ?_
  refine pm_R_lo pm_M177 (pc_q := 1) rfl rfl rfl ?_
  refine pm_R_op pm_M177 (pc_q := 2) (st_q := [.int 0, .int a0]) rfl rfl rfl ?_
  refine pm_R_lo pm_M177 (pc_q := 3) rfl rfl rfl ?_
  refine rf_R_get pm_M177 T2 (pc_q := 6) (v := .ref 46) rfl rfl rfl rfl ?_
  refine pm_R_lo pm_M177 (pc_q := 7) rfl rfl rfl ?_
  obtain ⟨f10, e11, b12⟩ := T2.2.2.2.1 46 (by decide) (by decide)
  refine rf_R_ild pm_M177 T2 (pc_q := 8) rfl e11 (by decide) rfl rfl (fun z13 ez14 => ?_)
  have B15 : sf_B 0 2 z13 := ez14 ▸ (b12 0)
  refine pm_R_op pm_M177 (pc_q := 9) (st_q := [.int 1, .int z13, .int 0, .int a0]) rfl rfl rfl ?_
  refine sf_R_isub pm_M177 (pc_q := 10) rfl rfl B15 sf_k1 (by decide) (by decide) (fun z16 e17 B18 => ?_)
  refine pm_R_cs pm_M177 (pc_q := 13) (ra := [.int z16, .int 0, .int a0]) (rest := []) (ls_q := [.int a0, .int 0, .int z16]) rfl rfl (Or.inl rfl) pm_M174 rfl rfl (Nat.le_of_ble_eq_true rfl) rfl rfl ?_
  refine pm_R_lo pm_M174 (pc_q := 1) rfl rfl rfl ?_
  refine pm_R_lo pm_M174 (pc_q := 2) rfl rfl rfl ?_
  refine pm_R_icmp pm_M174 (t := 14) (pc_q := 5) rfl rfl rfl (fun c19 => ?_) (fun c19 => ?_)
  · have B20 : sf_B (-2147483648) (-1) a0 := sf_ltL c19 (sf_any a0) sf_k0
    refine pm_R_op pm_M174 (pc_q := 15) (st_q := [.int 0]) rfl rfl rfl ?_
    refine pm_R_ret pm_M174 (r := some (.int 0)) rfl rfl ?_
    show pm_R _ 177 13 [.ref 41, .int 0, .int a0] [.int 0] _ _
    refine pm_R_ret pm_M177 (r := some (.int 0)) rfl rfl ?_
    show pm_R _ 200 6 [.ref 41, .int a0, .int a1] [.int 0] _ _
    refine pm_R_br pm_M200 (pc_q := 18) (st_q := []) rfl rfl ?_
    refine pm_R_op pm_M200 (pc_q := 19) (st_q := [.int 0]) rfl rfl rfl ?_
    refine pm_R_ret pm_M200 (r := some (.int 0)) rfl rfl ?_
    show pm_R _ 250 6 [.ref 41, .int a0, .int a1, .int a2] [.int 0] _ _
    refine pm_R_br pm_M250 (pc_q := 27) (st_q := []) rfl rfl ?_
    refine pm_R_op pm_M250 (pc_q := 28) (st_q := [.int 0]) rfl rfl rfl ?_
    refine pm_R_ret pm_M250 (r := some (.int 0)) rfl rfl ?_
    show pm_R _ 252 12 [.ref 41, .int a0, .int a1, .int a2, pm_no, pm_no] [.int 0] _ _
    refine pm_R_br pm_M252 (pc_q := 15) (st_q := []) rfl rfl ?_
    refine pm_R_op pm_M252 (pc_q := 16) (st_q := [.int (-1)]) rfl rfl rfl ?_
    exact pm_R_ret pm_M252 (r := some (.int (-1))) rfl rfl (K (-1) m4 w h1 T2 F6 W9)
  · have B21 : sf_B 0 2147483647 a0 := sf_leR (Int32.not_lt.mp c19) sf_k0 (sf_any a0)
    refine pm_R_lo pm_M174 (pc_q := 6) rfl rfl rfl ?_
    refine pm_R_lo pm_M174 (pc_q := 7) rfl rfl rfl ?_
    refine pm_R_icmp pm_M174 (t := 14) (pc_q := 10) rfl rfl rfl (fun c22 => ?_) (fun c22 => ?_)
    · skip
      refine pm_R_op pm_M174 (pc_q := 15) (st_q := [.int 0]) rfl rfl rfl ?_
      refine pm_R_ret pm_M174 (r := some (.int 0)) rfl rfl ?_
      show pm_R _ 177 13 [.ref 41, .int 0, .int a0] [.int 0] _ _
      refine pm_R_ret pm_M177 (r := some (.int 0)) rfl rfl ?_
      show pm_R _ 200 6 [.ref 41, .int a0, .int a1] [.int 0] _ _
      refine pm_R_br pm_M200 (pc_q := 18) (st_q := []) rfl rfl ?_
      refine pm_R_op pm_M200 (pc_q := 19) (st_q := [.int 0]) rfl rfl rfl ?_
      refine pm_R_ret pm_M200 (r := some (.int 0)) rfl rfl ?_
      show pm_R _ 250 6 [.ref 41, .int a0, .int a1, .int a2] [.int 0] _ _
      refine pm_R_br pm_M250 (pc_q := 27) (st_q := []) rfl rfl ?_
      refine pm_R_op pm_M250 (pc_q := 28) (st_q := [.int 0]) rfl rfl rfl ?_
      refine pm_R_ret pm_M250 (r := some (.int 0)) rfl rfl ?_
      show pm_R _ 252 12 [.ref 41, .int a0, .int a1, .int a2, pm_no, pm_no] [.int 0] _ _
      refine pm_R_br pm_M252 (pc_q := 15) (st_q := []) rfl rfl ?_
      refine pm_R_op pm_M252 (pc_q := 16) (st_q := [.int (-1)]) rfl rfl rfl ?_
      exact pm_R_ret pm_M252 (r := some (.int (-1))) rfl rfl (K (-1) m4 w h1 T2 F6 W9)
    · have B23 : sf_B 0 1 a0 := sf_leL (Int32.not_lt.mp c22) B21 B18
      have B24 : sf_B 0 1 z16 := sf_leR (Int32.not_lt.mp c22) B21 B18
      refine pm_R_op pm_M174 (pc_q := 11) (st_q := [.int 1]) rfl rfl rfl ?_
      refine pm_R_br pm_M174 (pc_q := 15) rfl rfl ?_
      refine pm_R_ret pm_M174 (r := some (.int 1)) rfl rfl ?_
      show pm_R _ 177 13 [.ref 41, .int 0, .int a0] [.int 1] _ _
      refine pm_R_ret pm_M177 (r := some (.int 1)) rfl rfl ?_
      show pm_R _ 200 6 [.ref 41, .int a0, .int a1] [.int 1] _ _
      refine pm_R_br pm_M200 (pc_q := 9) (st_q := []) rfl rfl ?_
      refine pm_R_lo pm_M200 (pc_q := 10) rfl rfl rfl ?_
      refine pm_R_op pm_M200 (pc_q := 11) (st_q := [.int 1, .ref 41]) rfl rfl rfl ?_
      refine pm_R_lo pm_M200 (pc_q := 12) rfl rfl rfl ?_
      refine pm_R_cv pm_M200 (pc_q := 15) (a := 41) (ra := [.int a1, .int 1]) (rest := []) (ls_q := [.ref 41, .int 1, .int a1]) rfl rfl (Or.inl rfl) pm_M177 T2.2.1 rfl (by decide) (Nat.lt_of_lt_of_le (by decide) T2.1) rfl rfl (Nat.le_of_ble_eq_true rfl) rfl rfl ?_
      refine pm_R_lo pm_M177 (pc_q := 1) rfl rfl rfl ?_
      refine pm_R_op pm_M177 (pc_q := 2) (st_q := [.int 0, .int a1]) rfl rfl rfl ?_
      refine pm_R_lo pm_M177 (pc_q := 3) rfl rfl rfl ?_
      refine rf_R_get pm_M177 T2 (pc_q := 6) (v := .ref 46) rfl rfl rfl rfl ?_
      refine pm_R_lo pm_M177 (pc_q := 7) rfl rfl rfl ?_
      refine rf_R_ild pm_M177 T2 (pc_q := 8) rfl e11 (by decide) rfl rfl (fun z25 ez26 => ?_)
      have B27 : sf_B 0 3 z25 := ez26 ▸ (b12 1)
      refine pm_R_op pm_M177 (pc_q := 9) (st_q := [.int 1, .int z25, .int 0, .int a1]) rfl rfl rfl ?_
      refine sf_R_isub pm_M177 (pc_q := 10) rfl rfl B27 sf_k1 (by decide) (by decide) (fun z28 e29 B30 => ?_)
      refine pm_R_cs pm_M177 (pc_q := 13) (ra := [.int z28, .int 0, .int a1]) (rest := []) (ls_q := [.int a1, .int 0, .int z28]) rfl rfl (Or.inl rfl) pm_M174 rfl rfl (Nat.le_of_ble_eq_true rfl) rfl rfl ?_
      refine pm_R_lo pm_M174 (pc_q := 1) rfl rfl rfl ?_
      refine pm_R_lo pm_M174 (pc_q := 2) rfl rfl rfl ?_
      refine pm_R_icmp pm_M174 (t := 14) (pc_q := 5) rfl rfl rfl (fun c31 => ?_) (fun c31 => ?_)
      · have B32 : sf_B (-2147483648) (-1) a1 := sf_ltL c31 (sf_any a1) sf_k0
        refine pm_R_op pm_M174 (pc_q := 15) (st_q := [.int 0]) rfl rfl rfl ?_
        refine pm_R_ret pm_M174 (r := some (.int 0)) rfl rfl ?_
        show pm_R _ 177 13 [.ref 41, .int 1, .int a1] [.int 0] _ _
        refine pm_R_ret pm_M177 (r := some (.int 0)) rfl rfl ?_
        show pm_R _ 200 15 [.ref 41, .int a0, .int a1] [.int 0] _ _
        refine pm_R_br pm_M200 (pc_q := 18) (st_q := []) rfl rfl ?_
        refine pm_R_op pm_M200 (pc_q := 19) (st_q := [.int 0]) rfl rfl rfl ?_
        refine pm_R_ret pm_M200 (r := some (.int 0)) rfl rfl ?_
        show pm_R _ 250 6 [.ref 41, .int a0, .int a1, .int a2] [.int 0] _ _
        refine pm_R_br pm_M250 (pc_q := 27) (st_q := []) rfl rfl ?_
        refine pm_R_op pm_M250 (pc_q := 28) (st_q := [.int 0]) rfl rfl rfl ?_
        refine pm_R_ret pm_M250 (r := some (.int 0)) rfl rfl ?_
        show pm_R _ 252 12 [.ref 41, .int a0, .int a1, .int a2, pm_no, pm_no] [.int 0] _ _
        refine pm_R_br pm_M252 (pc_q := 15) (st_q := []) rfl rfl ?_
        refine pm_R_op pm_M252 (pc_q := 16) (st_q := [.int (-1)]) rfl rfl rfl ?_
        exact pm_R_ret pm_M252 (r := some (.int (-1))) rfl rfl (K (-1) m4 w h1 T2 F6 W9)
      · have B33 : sf_B 0 2147483647 a1 := sf_leR (Int32.not_lt.mp c31) sf_k0 (sf_any a1)
        refine pm_R_lo pm_M174 (pc_q := 6) rfl rfl rfl ?_
        refine pm_R_lo pm_M174 (pc_q := 7) rfl rfl rfl ?_
        refine pm_R_icmp pm_M174 (t := 14) (pc_q := 10) rfl rfl rfl (fun c34 => ?_) (fun c34 => ?_)
        · skip
          refine pm_R_op pm_M174 (pc_q := 15) (st_q := [.int 0]) rfl rfl rfl ?_
          refine pm_R_ret pm_M174 (r := some (.int 0)) rfl rfl ?_
          show pm_R _ 177 13 [.ref 41, .int 1, .int a1] [.int 0] _ _
          refine pm_R_ret pm_M177 (r := some (.int 0)) rfl rfl ?_
          show pm_R _ 200 15 [.ref 41, .int a0, .int a1] [.int 0] _ _
          refine pm_R_br pm_M200 (pc_q := 18) (st_q := []) rfl rfl ?_
          refine pm_R_op pm_M200 (pc_q := 19) (st_q := [.int 0]) rfl rfl rfl ?_
          refine pm_R_ret pm_M200 (r := some (.int 0)) rfl rfl ?_
          show pm_R _ 250 6 [.ref 41, .int a0, .int a1, .int a2] [.int 0] _ _
          refine pm_R_br pm_M250 (pc_q := 27) (st_q := []) rfl rfl ?_
          refine pm_R_op pm_M250 (pc_q := 28) (st_q := [.int 0]) rfl rfl rfl ?_
          refine pm_R_ret pm_M250 (r := some (.int 0)) rfl rfl ?_
          show pm_R _ 252 12 [.ref 41, .int a0, .int a1, .int a2, pm_no, pm_no] [.int 0] _ _
          refine pm_R_br pm_M252 (pc_q := 15) (st_q := []) rfl rfl ?_
          refine pm_R_op pm_M252 (pc_q := 16) (st_q := [.int (-1)]) rfl rfl rfl ?_
          exact pm_R_ret pm_M252 (r := some (.int (-1))) rfl rfl (K (-1) m4 w h1 T2 F6 W9)
        · have V35 := rf_V.mk e11 ez26 e29 (Int32.not_lt.mp c34) B33 (by decide)
          have V35 := V35.back F6 (by decide)
          have B36 : sf_B 0 2 a1 := sf_leL (Int32.not_lt.mp c34) B33 B30
          have B37 : sf_B 0 2 z28 := sf_leR (Int32.not_lt.mp c34) B33 B30
          refine pm_R_op pm_M174 (pc_q := 11) (st_q := [.int 1]) rfl rfl rfl ?_
          refine pm_R_br pm_M174 (pc_q := 15) rfl rfl ?_
          refine pm_R_ret pm_M174 (r := some (.int 1)) rfl rfl ?_
          show pm_R _ 177 13 [.ref 41, .int 1, .int a1] [.int 1] _ _
          refine pm_R_ret pm_M177 (r := some (.int 1)) rfl rfl ?_
          show pm_R _ 200 15 [.ref 41, .int a0, .int a1] [.int 1] _ _
          refine pm_R_br pm_M200 (pc_q := 20) (st_q := []) rfl rfl ?_
          refine pm_R_lo pm_M200 (pc_q := 21) rfl rfl rfl ?_
          refine pm_R_lo pm_M200 (pc_q := 22) rfl rfl rfl ?_
          refine pm_R_lo pm_M200 (pc_q := 23) rfl rfl rfl ?_
          refine pm_R_cv pm_M200 (pc_q := 26) (a := 41) (ra := [.int a1, .int a0]) (rest := []) (ls_q := [.ref 41, .int a0, .int a1, pm_no]) rfl rfl (Or.inl rfl) pm_M201 T2.2.1 rfl (by decide) (Nat.lt_of_lt_of_le (by decide) T2.1) rfl rfl (Nat.le_of_ble_eq_true rfl) rfl rfl ?_
          refine rf_c201 (d := d + 3) T2 B23 B36 (V35.F F6 (by decide)) (fun m40 w41 h42 T43 F44 W45 X46 B47 => ?_)
          have F48 := F6.trans F44 (by decide)
          have W49 : rf_W [0, 23, 24, 26, 27] m m40 := W9.trans W45 (by decide)
          show pm_R _ 200 26 [.ref 41, .int a0, .int a1] [] _ _
          refine pm_R_op pm_M200 (pc_q := 27) (st_q := [.int 1]) rfl rfl rfl ?_
          refine pm_R_ret pm_M200 (r := some (.int 1)) rfl rfl ?_
          show pm_R _ 250 6 [.ref 41, .int a0, .int a1, .int a2] [.int 1] _ _
          refine pm_R_br pm_M250 (pc_q := 9) (st_q := []) rfl rfl ?_
          refine pm_R_lo pm_M250 (pc_q := 10) rfl rfl rfl ?_
          refine pm_R_op pm_M250 (pc_q := 11) (st_q := [.int 0, .int a2]) rfl rfl rfl ?_
          refine pm_R_lo pm_M250 (pc_q := 12) rfl rfl rfl ?_
          refine rf_R_get pm_M250 T43 (pc_q := 15) (v := .int (m40 24)) rfl rfl rfl rfl ?_
          refine pm_R_op pm_M250 (pc_q := 16) (st_q := [.int 1, .int (m40 24), .int 0, .int a2]) rfl rfl rfl ?_
          refine sf_R_isub pm_M250 (pc_q := 17) rfl rfl B47 sf_k1 (by decide) (by decide) (fun z50 e51 B52 => ?_)
          refine pm_R_cs pm_M250 (pc_q := 20) (ra := [.int z50, .int 0, .int a2]) (rest := []) (ls_q := [.int a2, .int 0, .int z50]) rfl rfl (Or.inl rfl) pm_M174 rfl rfl (Nat.le_of_ble_eq_true rfl) rfl rfl ?_
          refine pm_R_lo pm_M174 (pc_q := 1) rfl rfl rfl ?_
          refine pm_R_lo pm_M174 (pc_q := 2) rfl rfl rfl ?_
          refine pm_R_icmp pm_M174 (t := 14) (pc_q := 5) rfl rfl rfl (fun c53 => ?_) (fun c53 => ?_)
          · have B54 : sf_B (-2147483648) (-1) a2 := sf_ltL c53 (sf_any a2) sf_k0
            refine pm_R_op pm_M174 (pc_q := 15) (st_q := [.int 0]) rfl rfl rfl ?_
            refine pm_R_ret pm_M174 (r := some (.int 0)) rfl rfl ?_
            show pm_R _ 250 20 [.ref 41, .int a0, .int a1, .int a2] [.int 0] _ _
            refine pm_R_br pm_M250 (pc_q := 27) (st_q := []) rfl rfl ?_
            refine pm_R_op pm_M250 (pc_q := 28) (st_q := [.int 0]) rfl rfl rfl ?_
            refine pm_R_ret pm_M250 (r := some (.int 0)) rfl rfl ?_
            show pm_R _ 252 12 [.ref 41, .int a0, .int a1, .int a2, pm_no, pm_no] [.int 0] _ _
            refine pm_R_br pm_M252 (pc_q := 15) (st_q := []) rfl rfl ?_
            refine pm_R_op pm_M252 (pc_q := 16) (st_q := [.int (-1)]) rfl rfl rfl ?_
            exact pm_R_ret pm_M252 (r := some (.int (-1))) rfl rfl (K (-1) m40 w41 h42 T43 F48 W49)
          · have B55 : sf_B 0 2147483647 a2 := sf_leR (Int32.not_lt.mp c53) sf_k0 (sf_any a2)
            refine pm_R_lo pm_M174 (pc_q := 6) rfl rfl rfl ?_
            refine pm_R_lo pm_M174 (pc_q := 7) rfl rfl rfl ?_
            refine pm_R_icmp pm_M174 (t := 14) (pc_q := 10) rfl rfl rfl (fun c56 => ?_) (fun c56 => ?_)
            · have B57 : sf_B 1 2147483647 a2 := sf_ltR c56 B52 B55
              refine pm_R_op pm_M174 (pc_q := 15) (st_q := [.int 0]) rfl rfl rfl ?_
              refine pm_R_ret pm_M174 (r := some (.int 0)) rfl rfl ?_
              show pm_R _ 250 20 [.ref 41, .int a0, .int a1, .int a2] [.int 0] _ _
              refine pm_R_br pm_M250 (pc_q := 27) (st_q := []) rfl rfl ?_
              refine pm_R_op pm_M250 (pc_q := 28) (st_q := [.int 0]) rfl rfl rfl ?_
              refine pm_R_ret pm_M250 (r := some (.int 0)) rfl rfl ?_
              show pm_R _ 252 12 [.ref 41, .int a0, .int a1, .int a2, pm_no, pm_no] [.int 0] _ _
              refine pm_R_br pm_M252 (pc_q := 15) (st_q := []) rfl rfl ?_
              refine pm_R_op pm_M252 (pc_q := 16) (st_q := [.int (-1)]) rfl rfl rfl ?_
              exact pm_R_ret pm_M252 (r := some (.int (-1))) rfl rfl (K (-1) m40 w41 h42 T43 F48 W49)
            · have B58 : sf_B 0 11 a2 := sf_leL (Int32.not_lt.mp c56) B55 B52
              refine pm_R_op pm_M174 (pc_q := 11) (st_q := [.int 1]) rfl rfl rfl ?_
              refine pm_R_br pm_M174 (pc_q := 15) rfl rfl ?_
              refine pm_R_ret pm_M174 (r := some (.int 1)) rfl rfl ?_
              show pm_R _ 250 20 [.ref 41, .int a0, .int a1, .int a2] [.int 1] _ _
              refine pm_R_br pm_M250 (pc_q := 23) (st_q := []) rfl rfl ?_
              refine pm_R_op pm_M250 (pc_q := 24) (st_q := [.int 1]) rfl rfl rfl ?_
              refine pm_R_br pm_M250 (pc_q := 28) rfl rfl ?_
              refine pm_R_ret pm_M250 (r := some (.int 1)) rfl rfl ?_
              show pm_R _ 252 12 [.ref 41, .int a0, .int a1, .int a2, pm_no, pm_no] [.int 1] _ _
              refine pm_R_br pm_M252 (pc_q := 17) (st_q := []) rfl rfl ?_
              refine pm_R_op pm_M252 (pc_q := 18) (st_q := [.int 0]) rfl rfl rfl ?_
              refine pm_R_lo pm_M252 (pc_q := 20) (ls_q := [.ref 41, .int a0, .int a1, .int a2, .int 0, pm_no]) (st_q := []) rfl rfl rfl ?_
              refine pm_R_lo pm_M252 (pc_q := 21) rfl rfl rfl ?_
              refine pm_R_lo pm_M252 (pc_q := 22) rfl rfl rfl ?_
              refine rf_R_put pm_M252 T43 (pc_q := 25) rfl rfl rfl (by decide) rfl rfl (sf_weak B58 (by decide) (by decide)) rfl rfl (fun h59 m62 em63 T60 F61 => ?_)
              have F64 := F48.trans F61 (by decide)
              have B65 : sf_B 1 12 (m62 24) := by rw [em63]; exact B47
              have B66 : sf_B 0 11 (m62 26) := by rw [em63]; exact B58
              have ek67 : (m62 26).toInt = (a2).toInt := by rw [em63]; rfl
              have W68 : rf_W [0, 23, 24, 26, 27] m m62 := by rw [em63]; exact W49.put (by decide)
              refine pm_R_op pm_M252 (pc_q := 26) (st_q := [.int 0]) rfl rfl rfl ?_
              refine pm_R_lo pm_M252 (pc_q := 28) (ls_q := [.ref 41, .int a0, .int a1, .int a2, .int 0, .int 0]) (st_q := []) rfl rfl rfl ?_
              have L_651 : ∀ (N : Nat) (h_651 : pm_H) (m_651 : Nat → Int32) (w_651 : Int64) (x4_651 : Int32) (x5_651 : Int32), rf_T m_651 w_651 h_651 → rf_G [41, 53, 54] h h_651 → rf_W [27] m62 m_651 → sf_B (-2147483648) 2147483647 x4_651 → sf_B 0 16 x5_651 → (16 - x5_651.toInt).toNat = N → pm_R (d + 6) 252 28 [.ref 41, .int a0, .int a1, .int a2, .int x4_651, .int x5_651] [] h_651 Q := by
                intro N
                induction N using Nat.strongRecOn with
                | ind N ih_651 =>
                  intro h_651 m_651 w_651 x4_651 x5_651 T_651 F_651 W_651 Bx4_651 Bx5_651 hN_651
                  have B654 : sf_B 1 12 (m_651 24) := by rw [W_651 24 (by decide)]; exact B65
                  have B655 : sf_B 0 11 (m_651 26) := by rw [W_651 26 (by decide)]; exact B66
                  have ek656 : (m_651 26).toInt = (a2).toInt := by rw [W_651 26 (by decide)]; exact ek67
                  have W657 : rf_W [0, 23, 24, 26, 27] m m_651 := W68.trans W_651 (by decide)
                  refine pm_R_lo pm_M252 (pc_q := 30) rfl rfl rfl ?_
                  refine pm_R_lo pm_M252 (pc_q := 31) rfl rfl rfl ?_
                  refine pm_R_cv pm_M252 (pc_q := 34) (a := 41) (ra := []) (rest := [.int x5_651]) (ls_q := [.ref 41]) rfl rfl (Or.inl rfl) pm_M203 T_651.2.1 rfl (by decide) (Nat.lt_of_lt_of_le (by decide) T_651.1) rfl rfl (Nat.le_of_ble_eq_true rfl) rfl rfl ?_
                  refine pm_R_lo pm_M203 (pc_q := 1) rfl rfl rfl ?_
                  refine rf_R_get pm_M203 T_651 (pc_q := 4) (v := .ref 47) rfl rfl rfl rfl ?_
                  refine pm_R_op pm_M203 (pc_q := 6) (st_q := [.int 100, .ref 47]) rfl rfl rfl ?_
                  refine pm_R_lo pm_M203 (pc_q := 7) rfl rfl rfl ?_
                  have B658 : sf_B 0 1 (m_651 23) := T_651.2.2.1 23
                  refine rf_R_get pm_M203 T_651 (pc_q := 10) (v := .int (m_651 23)) rfl rfl rfl rfl ?_
                  refine sf_R_imul pm_M203 (pc_q := 11) rfl rfl sf_k100 B658 (by decide) (by decide) (by decide) (fun z659 e660 B661 => ?_)
                  refine pm_R_op pm_M203 (pc_q := 12) (st_q := [.int 1, .int z659, .ref 47]) rfl rfl rfl ?_
                  refine sf_R_iadd pm_M203 (pc_q := 13) rfl rfl B661 sf_k1 (by decide) (by decide) (fun z662 e663 B664 => ?_)
                  obtain ⟨f665, e666, b667⟩ := T_651.2.2.2.1 47 (by decide) (by decide)
                  refine rf_R_ild pm_M203 T_651 (pc_q := 14) rfl e666 (by decide) (sf_in B664 (by decide) (by decide)) rfl (fun z668 ez669 => ?_)
                  have e670 : (z662).toInt = 100 * ((m_651 23)).toInt + 1 := (sf_aux7 _ _ _ e660 e663)
                  have B671 : sf_B 0 16 z668 := ez669 ▸ rf_p47b b667 e670 B658 (by decide)
                  refine pm_R_ret pm_M203 (r := some (.int z668)) rfl (pm_ret_i _) ?_
                  show pm_R _ 252 34 [.ref 41, .int a0, .int a1, .int a2, .int x4_651, .int x5_651] [.int z668, .int x5_651] _ _
                  refine pm_R_icmp pm_M252 (t := 88) (pc_q := 37) rfl rfl rfl (fun c672 => ?_) (fun c672 => ?_)
                  · skip
                    refine pm_R_lo pm_M252 (pc_q := 89) rfl rfl rfl ?_
                    refine pm_R_op pm_M252 (pc_q := 90) (st_q := [.int (-1), .ref 41]) rfl rfl rfl ?_
                    refine rf_R_put pm_M252 T_651 (pc_q := 93) rfl rfl rfl (by decide) rfl rfl (sf_weak sf_kn1 (by decide) (by decide)) rfl rfl (fun h673 m676 em677 T674 F675 => ?_)
                    have F678 := F_651.trans F675 (by decide)
                    have B679 : sf_B 1 12 (m676 24) := by rw [em677]; exact B654
                    have B680 : sf_B (-1) (-1) (m676 26) := by rw [em677]; exact sf_kn1
                    have W682 : rf_W [0, 23, 24, 26, 27] m m676 := by rw [em677]; exact W657.put (by decide)
                    refine pm_R_lo pm_M252 (pc_q := 95) rfl rfl rfl ?_
                    exact pm_R_ret pm_M252 (r := some (.int x4_651)) rfl (pm_ret_i _) (K x4_651 m676 w_651 h673 T674 F678 W682)
                  · have B683 : sf_B 0 15 x5_651 := sf_ltL (Int32.not_le.mp c672) Bx5_651 B671
                    have B684 : sf_B 1 16 z668 := sf_ltR (Int32.not_le.mp c672) Bx5_651 B671
                    refine pm_R_lo pm_M252 (pc_q := 38) rfl rfl rfl ?_
                    refine pm_R_lo pm_M252 (pc_q := 40) rfl rfl rfl ?_
                    refine rf_R_put pm_M252 T_651 (pc_q := 43) rfl rfl rfl (by decide) rfl rfl B683 rfl rfl (fun h685 m688 em689 T686 F687 => ?_)
                    have F690 := F_651.trans F687 (by decide)
                    have B691 : sf_B 1 12 (m688 24) := by rw [em689]; exact B654
                    have B692 : sf_B 0 11 (m688 26) := by rw [em689]; exact B655
                    have ek693 : (m688 26).toInt = (a2).toInt := by rw [em689]; exact ek656
                    have B694 : sf_B 0 15 (m688 27) := by rw [em689]; exact B683
                    have ek695 : (m688 27).toInt = (x5_651).toInt := by rw [em689]; rfl
                    have W696 : rf_W [0, 23, 24, 26, 27] m m688 := by rw [em689]; exact W657.put (by decide)
                    have W697 : rf_W [27] m62 m688 := by rw [em689]; exact W_651.put (by decide)
                    refine pm_R_lo pm_M252 (pc_q := 45) rfl rfl rfl ?_
                    refine pm_R_lo pm_M252 (pc_q := 46) rfl rfl rfl ?_
                    refine rf_R_get pm_M252 T686 (pc_q := 49) (v := .ref 53) rfl rfl rfl rfl ?_
                    refine pm_R_lo pm_M252 (pc_q := 50) rfl rfl rfl ?_
                    obtain ⟨f698, e699⟩ := T686.2.2.2.1 53 (by decide) (by decide)
                    refine rf_R_ild pm_M252 T686 (pc_q := 51) rfl e699 (by decide) (sf_in B58 (by decide) (by decide)) rfl (fun z701 ez702 => ?_)
                    refine sf_R_lany pm_M252 (pc_q := 52) (st := [.int x4_651]) rfl rfl rfl (fun z703 => ?_)
                    refine pm_R_lo pm_M252 (pc_q := 53) rfl rfl rfl ?_
                    refine pm_R_lo pm_M252 (pc_q := 55) rfl rfl rfl ?_
                    refine pm_R_op pm_M252 (pc_q := 56) (st_q := [.int 0, .int x5_651, .ref 41, .long z703, .int x4_651]) rfl rfl rfl ?_
                    refine pm_R_cv pm_M252 (pc_q := 59) (a := 41) (ra := [.int 0, .int x5_651]) (rest := [.long z703, .int x4_651]) (ls_q := [.ref 41, .int x5_651, .int 0]) rfl rfl (Or.inl rfl) pm_M205 T686.2.1 rfl (by decide) (Nat.lt_of_lt_of_le (by decide) T686.1) rfl rfl (Nat.le_of_ble_eq_true rfl) rfl rfl ?_
                    refine pm_R_lo pm_M205 (pc_q := 1) rfl rfl rfl ?_
                    refine rf_R_get pm_M205 T686 (pc_q := 4) (v := .ref 47) rfl rfl rfl rfl ?_
                    refine pm_R_op pm_M205 (pc_q := 6) (st_q := [.int 100, .ref 47]) rfl rfl rfl ?_
                    refine pm_R_lo pm_M205 (pc_q := 7) rfl rfl rfl ?_
                    have B704 : sf_B 0 1 (m688 23) := T686.2.2.1 23
                    refine rf_R_get pm_M205 T686 (pc_q := 10) (v := .int (m688 23)) rfl rfl rfl rfl ?_
                    refine sf_R_imul pm_M205 (pc_q := 11) rfl rfl sf_k100 B704 (by decide) (by decide) (by decide) (fun z705 e706 B707 => ?_)
                    refine pm_R_op pm_M205 (pc_q := 13) (st_q := [.int 42, .int z705, .ref 47]) rfl rfl rfl ?_
                    refine sf_R_iadd pm_M205 (pc_q := 14) rfl rfl B707 sf_k42 (by decide) (by decide) (fun z708 e709 B710 => ?_)
                    refine pm_R_op pm_M205 (pc_q := 15) (st_q := [.int 3, .int z708, .ref 47]) rfl rfl rfl ?_
                    refine pm_R_lo pm_M205 (pc_q := 16) rfl rfl rfl ?_
                    refine sf_R_imul pm_M205 (pc_q := 17) rfl rfl sf_k3 B683 (by decide) (by decide) (by decide) (fun z711 e712 B713 => ?_)
                    refine sf_R_iadd pm_M205 (pc_q := 18) rfl rfl B710 B713 (by decide) (by decide) (fun z714 e715 B716 => ?_)
                    refine pm_R_lo pm_M205 (pc_q := 19) rfl rfl rfl ?_
                    refine sf_R_iadd pm_M205 (pc_q := 20) rfl rfl B716 sf_k0 (by decide) (by decide) (fun z717 e718 B719 => ?_)
                    have e720 := (F687.cell (by decide) e666)
                    refine rf_R_ild pm_M205 T686 (pc_q := 21) rfl e720 (by decide) (sf_in B719 (by decide) (by decide)) rfl (fun z721 ez722 => ?_)
                    have e723 : (z717).toInt = 100 * ((m688 23)).toInt + 3 * (x5_651).toInt + 42 := (sf_aux8 _ _ _ _ _ _ _ e706 e709 e712 e715 e718)
                    have B724 : sf_B 0 9 z721 := ez722 ▸ rf_p47s b667 e723 B704 B683 (by decide) (by decide) (by decide)
                    refine pm_R_ret pm_M205 (r := some (.int z721)) rfl (pm_ret_i _) ?_
                    show pm_R _ 252 59 [.ref 41, .int a0, .int a1, .int a2, .int x4_651, .int x5_651] [.int z721, .long z703, .int x4_651] _ _
                    refine pm_R_cs pm_M252 (pc_q := 62) (ra := [.int z721, .long z703]) (rest := [.int x4_651]) (ls_q := [.long z703, pm_no, .int z721]) rfl rfl (Or.inl rfl) pm_M206 rfl rfl (Nat.le_of_ble_eq_true rfl) rfl rfl ?_
                    refine pm_R_lo pm_M206 (pc_q := 1) rfl rfl rfl ?_
                    refine pm_R_lo pm_M206 (pc_q := 2) rfl rfl rfl ?_
                    refine sf_R_lany pm_M206 (pc_q := 3) (st := []) rfl rfl rfl (fun z725 => ?_)
                    refine pm_R_op pm_M206 (pc_q := 4) (st_q := [.long 1, .long z725]) rfl rfl rfl ?_
                    refine sf_R_lany pm_M206 (pc_q := 5) (st := []) rfl rfl rfl (fun z726 => ?_)
                    refine pm_R_op pm_M206 (pc_q := 6) (st_q := [.long 1, .long z726]) rfl rfl rfl ?_
                    refine sf_R_lcmp pm_M206 (pc_q := 7) rfl rfl (fun z727 e728 => ?_)
                    refine pm_R_ifc pm_M206 (t := 14) (pc_q := 10) rfl rfl rfl (fun c729 => ?_) (fun c729 => ?_)
                    · have k730 := sf_lneC e728 c729
                      refine pm_R_op pm_M206 (pc_q := 15) (st_q := [.int 0]) rfl rfl rfl ?_
                      refine pm_R_ret pm_M206 (r := some (.int 0)) rfl rfl ?_
                      show pm_R _ 252 62 [.ref 41, .int a0, .int a1, .int a2, .int x4_651, .int x5_651] [.int 0, .int x4_651] _ _
                      refine pm_R_br pm_M252 (pc_q := 78) (st_q := [.int x4_651]) rfl rfl ?_
                      refine pm_R_op pm_M252 (pc_q := 79) (st_q := [.int 0, .int x4_651]) rfl rfl rfl ?_
                      refine sf_R_iadd pm_M252 (pc_q := 80) rfl rfl Bx4_651 sf_k0 (by decide) (by decide) (fun z731 e732 B733 => ?_)
                      refine pm_R_lo pm_M252 (pc_q := 82) (ls_q := [.ref 41, .int a0, .int a1, .int a2, .int z731, .int x5_651]) (st_q := []) rfl rfl rfl ?_
                      refine sf_R_iinc pm_M252 (pc_q := 85) (ls_q := fun z => [.ref 41, .int a0, .int a1, .int a2, .int z731, .int z]) rfl B683 rfl (by decide) (by decide) (by decide) (fun _ => rfl) rfl (fun z734 e735 B736 => ?_)
                      show pm_R _ 252 85 [.ref 41, .int a0, .int a1, .int a2, .int z731, .int z734] [] _ _
                      refine pm_R_br pm_M252 (pc_q := 28) rfl rfl ?_
                      exact ih_651 _ (sf_up hN_651 e735 B683 (by decide) (by decide)) h685 m688 w_651 z731 z734 T686 F690 W697 B733 (sf_weak B736 (by decide) (by decide)) rfl
                    · have B737 : sf_B 0 0 z727 := sf_eqL (Classical.not_not.mp c729) sf_k0
                      have B738 : lf_B 1 1 z726 := lf_eqB e728 B737 (⟨by decide, by decide⟩ : lf_B 1 1 1)
                      refine pm_R_op pm_M206 (pc_q := 11) (st_q := [.int 1]) rfl rfl rfl ?_
                      refine pm_R_br pm_M206 (pc_q := 15) rfl rfl ?_
                      refine pm_R_ret pm_M206 (r := some (.int 1)) rfl rfl ?_
                      show pm_R _ 252 62 [.ref 41, .int a0, .int a1, .int a2, .int x4_651, .int x5_651] [.int 1, .int x4_651] _ _
                      refine pm_R_br pm_M252 (pc_q := 65) (st_q := [.int x4_651]) rfl rfl ?_
                      refine pm_R_lo pm_M252 (pc_q := 66) rfl rfl rfl ?_
                      refine pm_R_cv pm_M252 (pc_q := 69) (a := 41) (ra := []) (rest := [.int x4_651]) (ls_q := [.ref 41]) rfl rfl (Or.inl rfl) pm_M215 T686.2.1 rfl (by decide) (Nat.lt_of_lt_of_le (by decide) T686.1) rfl rfl (Nat.le_of_ble_eq_true rfl) rfl rfl ?_
                      refine rf_c215 (d := d + 0) T686 B691 (fun r739 m741 w742 h743 T744 F745 W746 => ?_)
                      have F747 := F690.trans F745 (by decide)
                      have B748 : sf_B 1 12 (m741 24) := by rw [W746 24 (by decide)]; exact B691
                      have B749 : sf_B 0 11 (m741 26) := by rw [W746 26 (by decide)]; exact B692
                      have ek750 : (m741 26).toInt = (a2).toInt := by rw [W746 26 (by decide)]; exact ek693
                      have W751 : rf_W [0, 23, 24, 26, 27] m m741 := W696.trans W746 (by decide)
                      have W752 : rf_W [27] m62 m741 := W697.trans W746 (by decide)
                      show pm_R _ 252 69 [.ref 41, .int a0, .int a1, .int a2, .int x4_651, .int x5_651] [.long r739, .int x4_651] _ _
                      refine pm_R_op pm_M252 (pc_q := 70) (st_q := [.long 0, .long r739, .int x4_651]) rfl rfl rfl ?_
                      refine sf_R_lcmp pm_M252 (pc_q := 71) rfl rfl (fun z753 e754 => ?_)
                      refine pm_R_ifc pm_M252 (t := 78) (pc_q := 74) rfl rfl rfl (fun c755 => ?_) (fun c755 => ?_)
                      · have B756 : sf_B 0 0 z753 := sf_eqL c755 sf_k0
                        have B757 : lf_B 0 0 r739 := lf_eqB e754 B756 (⟨by decide, by decide⟩ : lf_B 0 0 0)
                        refine pm_R_op pm_M252 (pc_q := 79) (st_q := [.int 0, .int x4_651]) rfl rfl rfl ?_
                        refine sf_R_iadd pm_M252 (pc_q := 80) rfl rfl Bx4_651 sf_k0 (by decide) (by decide) (fun z758 e759 B760 => ?_)
                        refine pm_R_lo pm_M252 (pc_q := 82) (ls_q := [.ref 41, .int a0, .int a1, .int a2, .int z758, .int x5_651]) (st_q := []) rfl rfl rfl ?_
                        refine sf_R_iinc pm_M252 (pc_q := 85) (ls_q := fun z => [.ref 41, .int a0, .int a1, .int a2, .int z758, .int z]) rfl B683 rfl (by decide) (by decide) (by decide) (fun _ => rfl) rfl (fun z761 e762 B763 => ?_)
                        show pm_R _ 252 85 [.ref 41, .int a0, .int a1, .int a2, .int z758, .int z761] [] _ _
                        refine pm_R_br pm_M252 (pc_q := 28) rfl rfl ?_
                        exact ih_651 _ (sf_up hN_651 e762 B683 (by decide) (by decide)) h743 m741 w742 z758 z761 T744 F747 W752 B760 (sf_weak B763 (by decide) (by decide)) rfl
                      · have k764 := sf_lneC e754 c755
                        refine pm_R_op pm_M252 (pc_q := 75) (st_q := [.int 1, .int x4_651]) rfl rfl rfl ?_
                        refine pm_R_br pm_M252 (pc_q := 79) rfl rfl ?_
                        refine sf_R_iany pm_M252 (pc_q := 80) (st := []) rfl rfl rfl (fun z768 => ?_)
                        refine pm_R_lo pm_M252 (pc_q := 82) (ls_q := [.ref 41, .int a0, .int a1, .int a2, .int z768, .int x5_651]) (st_q := []) rfl rfl rfl ?_
                        refine sf_R_iinc pm_M252 (pc_q := 85) (ls_q := fun z => [.ref 41, .int a0, .int a1, .int a2, .int z768, .int z]) rfl B683 rfl (by decide) (by decide) (by decide) (fun _ => rfl) rfl (fun z769 e770 B771 => ?_)
                        show pm_R _ 252 85 [.ref 41, .int a0, .int a1, .int a2, .int z768, .int z769] [] _ _
                        refine pm_R_br pm_M252 (pc_q := 28) rfl rfl ?_
                        exact ih_651 _ (sf_up hN_651 e770 B683 (by decide) (by decide)) h743 m741 w742 z768 z769 T744 F747 W752 (sf_any z768) (sf_weak B771 (by decide) (by decide)) rfl
              exact L_651 _ h59 m62 w41 0 0 T60 F64 (rf_W.refl _ _) (sf_weak sf_k0 (by decide) (by decide)) (sf_weak sf_k0 (by decide) (by decide)) rfl

set_option maxRecDepth 100000 in
set_option maxHeartbeats 4000000 in
/-- SilentTableModel.reaches -/
theorem rf_c268 {d : Nat} {m : Nat → Int32} {w : Int64} {h : pm_H} {Q : Option Value → pm_H → Prop} {a0 : Int32} {a1 : Int32} {a2 : Int32} {a3 : Int32} {a4 : Int32} (T : rf_T m w h)  (K : ∀ (r : Int32) (m_q : Nat → Int32) (w_q : Int64) (h_q : pm_H), rf_T m_q w_q h_q → rf_G [41, 53, 54, 67, 68] h h_q → rf_W [0, 23, 24, 26, 42, 43, 44] m m_q → sf_B 0 1 r → Q (some (.int r)) h_q) : pm_R (d + 8) 268 0 [.ref 41, .int a0, .int a1, .int a2, .int a3, .int a4, pm_no] [] h Q := by
  refine pm_R_lo pm_M268 (pc_q := 1) rfl rfl rfl ?_
  refine pm_R_op pm_M268 (pc_q := 2) (st_q := [.int 0, .ref 41]) rfl rfl rfl ?_
  refine rf_R_put pm_M268 T (pc_q := 5) rfl rfl rfl (by decide) rfl rfl sf_k0 rfl rfl (fun h1 m4 em5 T2 F3 => ?_)
  have F6 := (rf_G.refl [41, 53, 54, 67, 68] h).trans F3 (by decide)
  have B7 : sf_B 0 0 (m4 0) := by rw [em5]; exact sf_k0
  have W9 : rf_W [0, 23, 24, 26, 42, 43, 44] m m4 := by rw [em5]; exact (rf_W.refl [0, 23, 24, 26, 42, 43, 44] m).put (by decide)
  refine pm_R_lo pm_M268 (pc_q := 6) rfl rfl rfl ?_
  refine pm_R_lo pm_M268 (pc_q := 7) rfl rfl rfl ?_
  refine pm_R_lo pm_M268 (pc_q := 9) rfl rfl rfl ?_
  refine pm_R_lo pm_M268 (pc_q := 11) rfl rfl rfl ?_
  refine pm_R_cv pm_M268 (pc_q := 14) (a := 41) (ra := [.int a4, .int a3, .int a2]) (rest := []) (ls_q := [.ref 41, .int a2, .int a3, .int a4, pm_no, pm_no, pm_no, pm_no, pm_no]) rfl rfl (Or.inl rfl) pm_M266 T2.2.1 rfl (by decide) (Nat.lt_of_lt_of_le (by decide) T2.1) rfl rfl (Nat.le_of_ble_eq_true rfl) rfl rfl ?_
  refine rf_c266 (d := d + 4) T2  (fun r10 m12 w13 h14 T15 F16 W17 B11 => ?_)
  have F18 := F6.trans F16 (by decide)
  have W19 : rf_W [0, 23, 24, 26, 42, 43, 44] m m12 := W9.trans W17 (by decide)
  show pm_R _ 268 14 [.ref 41, .int a0, .int a1, .int a2, .int a3, .int a4, pm_no] [.int r10] _ _
  refine pm_R_lo pm_M268 (pc_q := 16) (ls_q := [.ref 41, .int a0, .int a1, .int a2, .int a3, .int a4, .int r10]) (st_q := []) rfl rfl rfl ?_
  refine pm_R_lo pm_M268 (pc_q := 18) rfl rfl rfl ?_
  refine pm_R_op pm_M268 (pc_q := 19) (st_q := [.int (-1), .int r10]) rfl rfl rfl ?_
  refine pm_R_icmp pm_M268 (t := 46) (pc_q := 22) rfl rfl rfl (fun c20 => ?_) (fun c20 => ?_)
  · have B21 : sf_B (-1) (-1) r10 := sf_eqL c20 sf_kn1
    refine pm_R_op pm_M268 (pc_q := 47) (st_q := [.int 0]) rfl rfl rfl ?_
    exact pm_R_ret pm_M268 (r := some (.int 0)) rfl rfl (K 0 m12 w13 h14 T15 F18 W19 (sf_weak sf_k0 (by decide) (by decide)))
  · have B22 : sf_B 0 5 r10 := sf_neL0 c20 sf_kn1 B11
    refine pm_R_lo pm_M268 (pc_q := 23) rfl rfl rfl ?_
    refine pm_R_lo pm_M268 (pc_q := 24) rfl rfl rfl ?_
    refine pm_R_lo pm_M268 (pc_q := 25) rfl rfl rfl ?_
    refine pm_R_cv pm_M268 (pc_q := 28) (a := 41) (ra := [.int a1, .int a0]) (rest := []) (ls_q := [.ref 41, .int a0, .int a1]) rfl rfl (Or.inl rfl) pm_M200 T15.2.1 rfl (by decide) (Nat.lt_of_lt_of_le (by decide) T15.1) rfl rfl (Nat.le_of_ble_eq_true rfl) rfl rfl ?_
    refine pm_R_lo pm_M200 (pc_q := 1) rfl rfl rfl ?_
    refine pm_R_op pm_M200 (pc_q := 2) (st_q := [.int 0, .ref 41]) rfl rfl rfl ?_
    refine pm_R_lo pm_M200 (pc_q := 3) rfl rfl rfl ?_
    refine pm_R_cv pm_M200 (pc_q := 6) (a := 41) (ra := [.int a0, .int 0]) (rest := []) (ls_q := [.ref 41, .int 0, .int a0]) rfl rfl (Or.inl rfl) pm_M177 T15.2.1 rfl (by decide) (Nat.lt_of_lt_of_le (by decide) T15.1) rfl rfl (Nat.le_of_ble_eq_true rfl) rfl rfl ?_
    refine pm_R_lo pm_M177 (pc_q := 1) rfl rfl rfl ?_
    refine pm_R_op pm_M177 (pc_q := 2) (st_q := [.int 0, .int a0]) rfl rfl rfl ?_
    refine pm_R_lo pm_M177 (pc_q := 3) rfl rfl rfl ?_
    refine rf_R_get pm_M177 T15 (pc_q := 6) (v := .ref 46) rfl rfl rfl rfl ?_
    refine pm_R_lo pm_M177 (pc_q := 7) rfl rfl rfl ?_
    obtain ⟨f23, e24, b25⟩ := T15.2.2.2.1 46 (by decide) (by decide)
    refine rf_R_ild pm_M177 T15 (pc_q := 8) rfl e24 (by decide) rfl rfl (fun z26 ez27 => ?_)
    have B28 : sf_B 0 2 z26 := ez27 ▸ (b25 0)
    refine pm_R_op pm_M177 (pc_q := 9) (st_q := [.int 1, .int z26, .int 0, .int a0]) rfl rfl rfl ?_
    refine sf_R_isub pm_M177 (pc_q := 10) rfl rfl B28 sf_k1 (by decide) (by decide) (fun z29 e30 B31 => ?_)
    refine pm_R_cs pm_M177 (pc_q := 13) (ra := [.int z29, .int 0, .int a0]) (rest := []) (ls_q := [.int a0, .int 0, .int z29]) rfl rfl (Or.inl rfl) pm_M174 rfl rfl (Nat.le_of_ble_eq_true rfl) rfl rfl ?_
    refine pm_R_lo pm_M174 (pc_q := 1) rfl rfl rfl ?_
    refine pm_R_lo pm_M174 (pc_q := 2) rfl rfl rfl ?_
    refine pm_R_icmp pm_M174 (t := 14) (pc_q := 5) rfl rfl rfl (fun c32 => ?_) (fun c32 => ?_)
    · have B33 : sf_B (-2147483648) (-1) a0 := sf_ltL c32 (sf_any a0) sf_k0
      refine pm_R_op pm_M174 (pc_q := 15) (st_q := [.int 0]) rfl rfl rfl ?_
      refine pm_R_ret pm_M174 (r := some (.int 0)) rfl rfl ?_
      show pm_R _ 177 13 [.ref 41, .int 0, .int a0] [.int 0] _ _
      refine pm_R_ret pm_M177 (r := some (.int 0)) rfl rfl ?_
      show pm_R _ 200 6 [.ref 41, .int a0, .int a1] [.int 0] _ _
      refine pm_R_br pm_M200 (pc_q := 18) (st_q := []) rfl rfl ?_
      refine pm_R_op pm_M200 (pc_q := 19) (st_q := [.int 0]) rfl rfl rfl ?_
      refine pm_R_ret pm_M200 (r := some (.int 0)) rfl rfl ?_
      show pm_R _ 268 28 [.ref 41, .int a0, .int a1, .int a2, .int a3, .int a4, .int r10] [.int 0] _ _
      refine pm_R_br pm_M268 (pc_q := 46) (st_q := []) rfl rfl ?_
      refine pm_R_op pm_M268 (pc_q := 47) (st_q := [.int 0]) rfl rfl rfl ?_
      exact pm_R_ret pm_M268 (r := some (.int 0)) rfl rfl (K 0 m12 w13 h14 T15 F18 W19 (sf_weak sf_k0 (by decide) (by decide)))
    · have B34 : sf_B 0 2147483647 a0 := sf_leR (Int32.not_lt.mp c32) sf_k0 (sf_any a0)
      refine pm_R_lo pm_M174 (pc_q := 6) rfl rfl rfl ?_
      refine pm_R_lo pm_M174 (pc_q := 7) rfl rfl rfl ?_
      refine pm_R_icmp pm_M174 (t := 14) (pc_q := 10) rfl rfl rfl (fun c35 => ?_) (fun c35 => ?_)
      · skip
        refine pm_R_op pm_M174 (pc_q := 15) (st_q := [.int 0]) rfl rfl rfl ?_
        refine pm_R_ret pm_M174 (r := some (.int 0)) rfl rfl ?_
        show pm_R _ 177 13 [.ref 41, .int 0, .int a0] [.int 0] _ _
        refine pm_R_ret pm_M177 (r := some (.int 0)) rfl rfl ?_
        show pm_R _ 200 6 [.ref 41, .int a0, .int a1] [.int 0] _ _
        refine pm_R_br pm_M200 (pc_q := 18) (st_q := []) rfl rfl ?_
        refine pm_R_op pm_M200 (pc_q := 19) (st_q := [.int 0]) rfl rfl rfl ?_
        refine pm_R_ret pm_M200 (r := some (.int 0)) rfl rfl ?_
        show pm_R _ 268 28 [.ref 41, .int a0, .int a1, .int a2, .int a3, .int a4, .int r10] [.int 0] _ _
        refine pm_R_br pm_M268 (pc_q := 46) (st_q := []) rfl rfl ?_
        refine pm_R_op pm_M268 (pc_q := 47) (st_q := [.int 0]) rfl rfl rfl ?_
        exact pm_R_ret pm_M268 (r := some (.int 0)) rfl rfl (K 0 m12 w13 h14 T15 F18 W19 (sf_weak sf_k0 (by decide) (by decide)))
      · have B36 : sf_B 0 1 a0 := sf_leL (Int32.not_lt.mp c35) B34 B31
        have B37 : sf_B 0 1 z29 := sf_leR (Int32.not_lt.mp c35) B34 B31
        refine pm_R_op pm_M174 (pc_q := 11) (st_q := [.int 1]) rfl rfl rfl ?_
        refine pm_R_br pm_M174 (pc_q := 15) rfl rfl ?_
        refine pm_R_ret pm_M174 (r := some (.int 1)) rfl rfl ?_
        show pm_R _ 177 13 [.ref 41, .int 0, .int a0] [.int 1] _ _
        refine pm_R_ret pm_M177 (r := some (.int 1)) rfl rfl ?_
        show pm_R _ 200 6 [.ref 41, .int a0, .int a1] [.int 1] _ _
        refine pm_R_br pm_M200 (pc_q := 9) (st_q := []) rfl rfl ?_
        refine pm_R_lo pm_M200 (pc_q := 10) rfl rfl rfl ?_
        refine pm_R_op pm_M200 (pc_q := 11) (st_q := [.int 1, .ref 41]) rfl rfl rfl ?_
        refine pm_R_lo pm_M200 (pc_q := 12) rfl rfl rfl ?_
        refine pm_R_cv pm_M200 (pc_q := 15) (a := 41) (ra := [.int a1, .int 1]) (rest := []) (ls_q := [.ref 41, .int 1, .int a1]) rfl rfl (Or.inl rfl) pm_M177 T15.2.1 rfl (by decide) (Nat.lt_of_lt_of_le (by decide) T15.1) rfl rfl (Nat.le_of_ble_eq_true rfl) rfl rfl ?_
        refine pm_R_lo pm_M177 (pc_q := 1) rfl rfl rfl ?_
        refine pm_R_op pm_M177 (pc_q := 2) (st_q := [.int 0, .int a1]) rfl rfl rfl ?_
        refine pm_R_lo pm_M177 (pc_q := 3) rfl rfl rfl ?_
        refine rf_R_get pm_M177 T15 (pc_q := 6) (v := .ref 46) rfl rfl rfl rfl ?_
        refine pm_R_lo pm_M177 (pc_q := 7) rfl rfl rfl ?_
        refine rf_R_ild pm_M177 T15 (pc_q := 8) rfl e24 (by decide) rfl rfl (fun z38 ez39 => ?_)
        have B40 : sf_B 0 3 z38 := ez39 ▸ (b25 1)
        refine pm_R_op pm_M177 (pc_q := 9) (st_q := [.int 1, .int z38, .int 0, .int a1]) rfl rfl rfl ?_
        refine sf_R_isub pm_M177 (pc_q := 10) rfl rfl B40 sf_k1 (by decide) (by decide) (fun z41 e42 B43 => ?_)
        refine pm_R_cs pm_M177 (pc_q := 13) (ra := [.int z41, .int 0, .int a1]) (rest := []) (ls_q := [.int a1, .int 0, .int z41]) rfl rfl (Or.inl rfl) pm_M174 rfl rfl (Nat.le_of_ble_eq_true rfl) rfl rfl ?_
        refine pm_R_lo pm_M174 (pc_q := 1) rfl rfl rfl ?_
        refine pm_R_lo pm_M174 (pc_q := 2) rfl rfl rfl ?_
        refine pm_R_icmp pm_M174 (t := 14) (pc_q := 5) rfl rfl rfl (fun c44 => ?_) (fun c44 => ?_)
        · have B45 : sf_B (-2147483648) (-1) a1 := sf_ltL c44 (sf_any a1) sf_k0
          refine pm_R_op pm_M174 (pc_q := 15) (st_q := [.int 0]) rfl rfl rfl ?_
          refine pm_R_ret pm_M174 (r := some (.int 0)) rfl rfl ?_
          show pm_R _ 177 13 [.ref 41, .int 1, .int a1] [.int 0] _ _
          refine pm_R_ret pm_M177 (r := some (.int 0)) rfl rfl ?_
          show pm_R _ 200 15 [.ref 41, .int a0, .int a1] [.int 0] _ _
          refine pm_R_br pm_M200 (pc_q := 18) (st_q := []) rfl rfl ?_
          refine pm_R_op pm_M200 (pc_q := 19) (st_q := [.int 0]) rfl rfl rfl ?_
          refine pm_R_ret pm_M200 (r := some (.int 0)) rfl rfl ?_
          show pm_R _ 268 28 [.ref 41, .int a0, .int a1, .int a2, .int a3, .int a4, .int r10] [.int 0] _ _
          refine pm_R_br pm_M268 (pc_q := 46) (st_q := []) rfl rfl ?_
          refine pm_R_op pm_M268 (pc_q := 47) (st_q := [.int 0]) rfl rfl rfl ?_
          exact pm_R_ret pm_M268 (r := some (.int 0)) rfl rfl (K 0 m12 w13 h14 T15 F18 W19 (sf_weak sf_k0 (by decide) (by decide)))
        · have B46 : sf_B 0 2147483647 a1 := sf_leR (Int32.not_lt.mp c44) sf_k0 (sf_any a1)
          refine pm_R_lo pm_M174 (pc_q := 6) rfl rfl rfl ?_
          refine pm_R_lo pm_M174 (pc_q := 7) rfl rfl rfl ?_
          refine pm_R_icmp pm_M174 (t := 14) (pc_q := 10) rfl rfl rfl (fun c47 => ?_) (fun c47 => ?_)
          · skip
            refine pm_R_op pm_M174 (pc_q := 15) (st_q := [.int 0]) rfl rfl rfl ?_
            refine pm_R_ret pm_M174 (r := some (.int 0)) rfl rfl ?_
            show pm_R _ 177 13 [.ref 41, .int 1, .int a1] [.int 0] _ _
            refine pm_R_ret pm_M177 (r := some (.int 0)) rfl rfl ?_
            show pm_R _ 200 15 [.ref 41, .int a0, .int a1] [.int 0] _ _
            refine pm_R_br pm_M200 (pc_q := 18) (st_q := []) rfl rfl ?_
            refine pm_R_op pm_M200 (pc_q := 19) (st_q := [.int 0]) rfl rfl rfl ?_
            refine pm_R_ret pm_M200 (r := some (.int 0)) rfl rfl ?_
            show pm_R _ 268 28 [.ref 41, .int a0, .int a1, .int a2, .int a3, .int a4, .int r10] [.int 0] _ _
            refine pm_R_br pm_M268 (pc_q := 46) (st_q := []) rfl rfl ?_
            refine pm_R_op pm_M268 (pc_q := 47) (st_q := [.int 0]) rfl rfl rfl ?_
            exact pm_R_ret pm_M268 (r := some (.int 0)) rfl rfl (K 0 m12 w13 h14 T15 F18 W19 (sf_weak sf_k0 (by decide) (by decide)))
          · have V48 := rf_V.mk e24 ez39 e42 (Int32.not_lt.mp c47) B46 (by decide)
            have V48 := V48.back F18 (by decide)
            have B49 : sf_B 0 2 a1 := sf_leL (Int32.not_lt.mp c47) B46 B43
            have B50 : sf_B 0 2 z41 := sf_leR (Int32.not_lt.mp c47) B46 B43
            refine pm_R_op pm_M174 (pc_q := 11) (st_q := [.int 1]) rfl rfl rfl ?_
            refine pm_R_br pm_M174 (pc_q := 15) rfl rfl ?_
            refine pm_R_ret pm_M174 (r := some (.int 1)) rfl rfl ?_
            show pm_R _ 177 13 [.ref 41, .int 1, .int a1] [.int 1] _ _
            refine pm_R_ret pm_M177 (r := some (.int 1)) rfl rfl ?_
            show pm_R _ 200 15 [.ref 41, .int a0, .int a1] [.int 1] _ _
            refine pm_R_br pm_M200 (pc_q := 20) (st_q := []) rfl rfl ?_
            refine pm_R_lo pm_M200 (pc_q := 21) rfl rfl rfl ?_
            refine pm_R_lo pm_M200 (pc_q := 22) rfl rfl rfl ?_
            refine pm_R_lo pm_M200 (pc_q := 23) rfl rfl rfl ?_
            refine pm_R_cv pm_M200 (pc_q := 26) (a := 41) (ra := [.int a1, .int a0]) (rest := []) (ls_q := [.ref 41, .int a0, .int a1, pm_no]) rfl rfl (Or.inl rfl) pm_M201 T15.2.1 rfl (by decide) (Nat.lt_of_lt_of_le (by decide) T15.1) rfl rfl (Nat.le_of_ble_eq_true rfl) rfl rfl ?_
            refine rf_c201 (d := d + 6) T15 B36 B49 (V48.F F18 (by decide)) (fun m53 w54 h55 T56 F57 W58 X59 B60 => ?_)
            have F61 := F18.trans F57 (by decide)
            have W62 : rf_W [0, 23, 24, 26, 42, 43, 44] m m53 := W19.trans W58 (by decide)
            show pm_R _ 200 26 [.ref 41, .int a0, .int a1] [] _ _
            refine pm_R_op pm_M200 (pc_q := 27) (st_q := [.int 1]) rfl rfl rfl ?_
            refine pm_R_ret pm_M200 (r := some (.int 1)) rfl rfl ?_
            show pm_R _ 268 28 [.ref 41, .int a0, .int a1, .int a2, .int a3, .int a4, .int r10] [.int 1] _ _
            refine pm_R_br pm_M268 (pc_q := 31) (st_q := []) rfl rfl ?_
            refine pm_R_lo pm_M268 (pc_q := 32) rfl rfl rfl ?_
            refine pm_R_lo pm_M268 (pc_q := 34) rfl rfl rfl ?_
            refine pm_R_op pm_M268 (pc_q := 35) (st_q := [.int 1, .int r10, .ref 41]) rfl rfl rfl ?_
            refine sf_R_isub pm_M268 (pc_q := 36) rfl rfl B22 sf_k1 (by decide) (by decide) (fun z63 e64 B65 => ?_)
            refine pm_R_cv pm_M268 (pc_q := 39) (a := 41) (ra := [.int z63]) (rest := []) (ls_q := [.ref 41, .int z63, pm_no, pm_no]) rfl rfl (Or.inl rfl) pm_M239 T56.2.1 rfl (by decide) (Nat.lt_of_lt_of_le (by decide) T56.1) rfl rfl (Nat.le_of_ble_eq_true rfl) rfl rfl ?_
            refine pm_R_lo pm_M239 (pc_q := 1) rfl rfl rfl ?_
            refine pm_R_cv pm_M239 (pc_q := 4) (a := 41) (ra := []) (rest := []) (ls_q := [.ref 41]) rfl rfl (Or.inl rfl) pm_M215 T56.2.1 rfl (by decide) (Nat.lt_of_lt_of_le (by decide) T56.1) rfl rfl (Nat.le_of_ble_eq_true rfl) rfl rfl ?_
            refine rf_c215 (d := d + 1) T56 B60 (fun r66 m68 w69 h70 T71 F72 W73 => ?_)
            have F74 := F61.trans F72 (by decide)
            have B75 : sf_B 1 12 (m68 24) := by rw [W73 24 (by decide)]; exact B60
            have W76 : rf_W [0, 23, 24, 26, 42, 43, 44] m m68 := W62.trans W73 (by decide)
            show pm_R _ 239 4 [.ref 41, .int z63, pm_no, pm_no] [.long r66] _ _
            refine pm_R_lo pm_M239 (pc_q := 5) (ls_q := [.ref 41, .int z63, .long r66, pm_no]) (st_q := []) rfl rfl rfl ?_
            refine pm_R_lo pm_M239 (pc_q := 6) rfl rfl rfl ?_
            refine pm_R_op pm_M239 (pc_q := 7) (st_q := [.long 0, .long r66]) rfl rfl rfl ?_
            refine sf_R_lcmp pm_M239 (pc_q := 8) rfl rfl (fun z77 e78 => ?_)
            refine pm_R_ifc pm_M239 (t := 25) (pc_q := 11) rfl rfl rfl (fun c79 => ?_) (fun c79 => ?_)
            · have B80 : sf_B 0 0 z77 := sf_eqL c79 sf_k0
              have B81 : lf_B 0 0 r66 := lf_eqB e78 B80 (⟨by decide, by decide⟩ : lf_B 0 0 0)
              refine pm_R_op pm_M239 (pc_q := 26) (st_q := [.int 0]) rfl rfl rfl ?_
              refine pm_R_ret pm_M239 (r := some (.int 0)) rfl rfl ?_
              show pm_R _ 268 39 [.ref 41, .int a0, .int a1, .int a2, .int a3, .int a4, .int r10] [.int 0] _ _
              refine pm_R_br pm_M268 (pc_q := 46) (st_q := []) rfl rfl ?_
              refine pm_R_op pm_M268 (pc_q := 47) (st_q := [.int 0]) rfl rfl rfl ?_
              exact pm_R_ret pm_M268 (r := some (.int 0)) rfl rfl (K 0 m68 w69 h70 T71 F74 W76 (sf_weak sf_k0 (by decide) (by decide)))
            · have k82 := sf_lneC e78 c79
              refine pm_R_lo pm_M239 (pc_q := 12) rfl rfl rfl ?_
              refine pm_R_lo pm_M239 (pc_q := 13) rfl rfl rfl ?_
              refine pm_R_cv pm_M239 (pc_q := 16) (a := 41) (ra := [.int z63]) (rest := []) (ls_q := [.ref 41, .int z63]) rfl rfl (Or.inl rfl) pm_M234 T71.2.1 rfl (by decide) (Nat.lt_of_lt_of_le (by decide) T71.1) rfl rfl (Nat.le_of_ble_eq_true rfl) rfl rfl ?_
              refine pm_R_lo pm_M234 (pc_q := 1) rfl rfl rfl ?_
              refine pm_R_lo pm_M234 (pc_q := 2) rfl rfl rfl ?_
              refine pm_R_cv pm_M234 (pc_q := 5) (a := 41) (ra := [.int z63]) (rest := []) (ls_q := [.ref 41, .int z63, pm_no, pm_no, pm_no, pm_no]) rfl rfl (Or.inl rfl) pm_M235 T71.2.1 rfl (by decide) (Nat.lt_of_lt_of_le (by decide) T71.1) rfl rfl (Nat.le_of_ble_eq_true rfl) rfl rfl ?_
              refine rf_c235 (d := d + 4) T71 (sf_weak B65 (by decide) (by decide)) (fun m85 w86 h87 T88 F89 W90 => ?_)
              have F91 := F74.trans F89 (by decide)
              have B92 : sf_B 1 12 (m85 24) := by rw [W90 24 (by decide)]; exact B75
              have W93 : rf_W [0, 23, 24, 26, 42, 43, 44] m m85 := W76.trans W90 (by decide)
              show pm_R _ 234 5 [.ref 41, .int z63] [] _ _
              refine pm_R_lo pm_M234 (pc_q := 6) rfl rfl rfl ?_
              refine pm_R_cv pm_M234 (pc_q := 9) (a := 41) (ra := []) (rest := []) (ls_q := [.ref 41]) rfl rfl (Or.inl rfl) pm_M215 T88.2.1 rfl (by decide) (Nat.lt_of_lt_of_le (by decide) T88.1) rfl rfl (Nat.le_of_ble_eq_true rfl) rfl rfl ?_
              refine rf_c215 (d := d + 0) T88 B92 (fun r94 m96 w97 h98 T99 F100 W101 => ?_)
              have F102 := F91.trans F100 (by decide)
              have B103 : sf_B 1 12 (m96 24) := by rw [W101 24 (by decide)]; exact B92
              have W104 : rf_W [0, 23, 24, 26, 42, 43, 44] m m96 := W93.trans W101 (by decide)
              show pm_R _ 234 9 [.ref 41, .int z63] [.long r94] _ _
              refine pm_R_ret pm_M234 (r := some (.long r94)) rfl rfl ?_
              show pm_R _ 239 16 [.ref 41, .int z63, .long r66, pm_no] [.long r94] _ _
              refine pm_R_lo pm_M239 (pc_q := 17) rfl rfl rfl ?_
              refine sf_R_lcmp pm_M239 (pc_q := 18) rfl rfl (fun z105 e106 => ?_)
              refine pm_R_ifc pm_M239 (t := 25) (pc_q := 21) rfl rfl rfl (fun c107 => ?_) (fun c107 => ?_)
              · have k108 := sf_lneC e106 c107
                refine pm_R_op pm_M239 (pc_q := 26) (st_q := [.int 0]) rfl rfl rfl ?_
                refine pm_R_ret pm_M239 (r := some (.int 0)) rfl rfl ?_
                show pm_R _ 268 39 [.ref 41, .int a0, .int a1, .int a2, .int a3, .int a4, .int r10] [.int 0] _ _
                refine pm_R_br pm_M268 (pc_q := 46) (st_q := []) rfl rfl ?_
                refine pm_R_op pm_M268 (pc_q := 47) (st_q := [.int 0]) rfl rfl rfl ?_
                exact pm_R_ret pm_M268 (r := some (.int 0)) rfl rfl (K 0 m96 w97 h98 T99 F102 W104 (sf_weak sf_k0 (by decide) (by decide)))
              · have B109 : sf_B 0 0 z105 := sf_eqL (Classical.not_not.mp c107) sf_k0
                have k110 := lf_ge e106 B109 (by decide)
                refine pm_R_op pm_M239 (pc_q := 22) (st_q := [.int 1]) rfl rfl rfl ?_
                refine pm_R_br pm_M239 (pc_q := 26) rfl rfl ?_
                refine pm_R_ret pm_M239 (r := some (.int 1)) rfl rfl ?_
                show pm_R _ 268 39 [.ref 41, .int a0, .int a1, .int a2, .int a3, .int a4, .int r10] [.int 1] _ _
                refine pm_R_br pm_M268 (pc_q := 42) (st_q := []) rfl rfl ?_
                refine pm_R_op pm_M268 (pc_q := 43) (st_q := [.int 1]) rfl rfl rfl ?_
                refine pm_R_br pm_M268 (pc_q := 47) rfl rfl ?_
                exact pm_R_ret pm_M268 (r := some (.int 1)) rfl rfl (K 1 m96 w97 h98 T99 F102 W104 (sf_weak sf_k1 (by decide) (by decide)))

set_option maxRecDepth 100000 in
set_option maxHeartbeats 4000000 in
/-- SilentTableModel.drawn -/
theorem rf_c284 {d : Nat} {m : Nat → Int32} {w : Int64} {h : pm_H} {Q : Option Value → pm_H → Prop} {a0 : Int32} {a1 : Int32} {a2 : Int32} {a3 : Int32} {a4 : Int32} (T : rf_T m w h)  (K : ∀ (r : Int32) (m_q : Nat → Int32) (w_q : Int64) (h_q : pm_H), rf_T m_q w_q h_q → rf_G [41, 53, 70] h h_q → rf_W [0, 23, 24, 26, 50] m m_q → sf_B (-1) 9 r → Q (some (.int r)) h_q) : pm_R (d + 3) 284 0 [.ref 41, .int a0, .int a1, .int a2, .int a3, .int a4, pm_no, pm_no] [] h Q := by
  refine pm_R_lo pm_M284 (pc_q := 1) rfl rfl rfl ?_
  refine pm_R_op pm_M284 (pc_q := 2) (st_q := [.int 0, .ref 41]) rfl rfl rfl ?_
  refine rf_R_put pm_M284 T (pc_q := 5) rfl rfl rfl (by decide) rfl rfl sf_k0 rfl rfl (fun h1 m4 em5 T2 F3 => ?_)
  have F6 := (rf_G.refl [41, 53, 70] h).trans F3 (by decide)
  have B7 : sf_B 0 0 (m4 0) := by rw [em5]; exact sf_k0
  have W9 : rf_W [0, 23, 24, 26, 50] m m4 := by rw [em5]; exact (rf_W.refl [0, 23, 24, 26, 50] m).put (by decide)
  refine pm_R_lo pm_M284 (pc_q := 6) rfl rfl rfl ?_
  refine pm_R_op pm_M284 (pc_q := 7) (st_q := [.int 0, .int a2]) rfl rfl rfl ?_
  refine pm_R_op pm_M284 (pc_q := 9) (st_q := [.int 9, .int 0, .int a2]) rfl rfl rfl ?_
  refine pm_R_cs pm_M284 (pc_q := 12) (ra := [.int 9, .int 0, .int a2]) (rest := []) (ls_q := [.int a2, .int 0, .int 9]) rfl rfl (Or.inl rfl) pm_M174 rfl rfl (Nat.le_of_ble_eq_true rfl) rfl rfl ?_
  refine pm_R_lo pm_M174 (pc_q := 1) rfl rfl rfl ?_
  refine pm_R_lo pm_M174 (pc_q := 2) rfl rfl rfl ?_
  refine pm_R_icmp pm_M174 (t := 14) (pc_q := 5) rfl rfl rfl (fun c10 => ?_) (fun c10 => ?_)
  · have B11 : sf_B (-2147483648) (-1) a2 := sf_ltL c10 (sf_any a2) sf_k0
    refine pm_R_op pm_M174 (pc_q := 15) (st_q := [.int 0]) rfl rfl rfl ?_
    refine pm_R_ret pm_M174 (r := some (.int 0)) rfl rfl ?_
    show pm_R _ 284 12 [.ref 41, .int a0, .int a1, .int a2, .int a3, .int a4, pm_no, pm_no] [.int 0] _ _
    refine pm_R_br pm_M284 (pc_q := 39) (st_q := []) rfl rfl ?_
    refine pm_R_op pm_M284 (pc_q := 40) (st_q := [.int (-1)]) rfl rfl rfl ?_
    exact pm_R_ret pm_M284 (r := some (.int (-1))) rfl rfl (K (-1) m4 w h1 T2 F6 W9 (sf_weak sf_kn1 (by decide) (by decide)))
  · have B12 : sf_B 0 2147483647 a2 := sf_leR (Int32.not_lt.mp c10) sf_k0 (sf_any a2)
    refine pm_R_lo pm_M174 (pc_q := 6) rfl rfl rfl ?_
    refine pm_R_lo pm_M174 (pc_q := 7) rfl rfl rfl ?_
    refine pm_R_icmp pm_M174 (t := 14) (pc_q := 10) rfl rfl rfl (fun c13 => ?_) (fun c13 => ?_)
    · have B14 : sf_B 10 2147483647 a2 := sf_ltR c13 sf_k9 B12
      refine pm_R_op pm_M174 (pc_q := 15) (st_q := [.int 0]) rfl rfl rfl ?_
      refine pm_R_ret pm_M174 (r := some (.int 0)) rfl rfl ?_
      show pm_R _ 284 12 [.ref 41, .int a0, .int a1, .int a2, .int a3, .int a4, pm_no, pm_no] [.int 0] _ _
      refine pm_R_br pm_M284 (pc_q := 39) (st_q := []) rfl rfl ?_
      refine pm_R_op pm_M284 (pc_q := 40) (st_q := [.int (-1)]) rfl rfl rfl ?_
      exact pm_R_ret pm_M284 (r := some (.int (-1))) rfl rfl (K (-1) m4 w h1 T2 F6 W9 (sf_weak sf_kn1 (by decide) (by decide)))
    · have B15 : sf_B 0 9 a2 := sf_leL (Int32.not_lt.mp c13) B12 sf_k9
      refine pm_R_op pm_M174 (pc_q := 11) (st_q := [.int 1]) rfl rfl rfl ?_
      refine pm_R_br pm_M174 (pc_q := 15) rfl rfl ?_
      refine pm_R_ret pm_M174 (r := some (.int 1)) rfl rfl ?_
      show pm_R _ 284 12 [.ref 41, .int a0, .int a1, .int a2, .int a3, .int a4, pm_no, pm_no] [.int 1] _ _
      refine pm_R_br pm_M284 (pc_q := 15) (st_q := []) rfl rfl ?_
      refine pm_R_lo pm_M284 (pc_q := 16) rfl rfl rfl ?_
      refine pm_R_lo pm_M284 (pc_q := 17) rfl rfl rfl ?_
      refine pm_R_lo pm_M284 (pc_q := 18) rfl rfl rfl ?_
      refine pm_R_cv pm_M284 (pc_q := 21) (a := 41) (ra := [.int a1, .int a0]) (rest := []) (ls_q := [.ref 41, .int a0, .int a1]) rfl rfl (Or.inl rfl) pm_M200 T2.2.1 rfl (by decide) (Nat.lt_of_lt_of_le (by decide) T2.1) rfl rfl (Nat.le_of_ble_eq_true rfl) rfl rfl ?_
      refine pm_R_lo pm_M200 (pc_q := 1) rfl rfl rfl ?_
      refine pm_R_op pm_M200 (pc_q := 2) (st_q := [.int 0, .ref 41]) rfl rfl rfl ?_
      refine pm_R_lo pm_M200 (pc_q := 3) rfl rfl rfl ?_
      refine pm_R_cv pm_M200 (pc_q := 6) (a := 41) (ra := [.int a0, .int 0]) (rest := []) (ls_q := [.ref 41, .int 0, .int a0]) rfl rfl (Or.inl rfl) pm_M177 T2.2.1 rfl (by decide) (Nat.lt_of_lt_of_le (by decide) T2.1) rfl rfl (Nat.le_of_ble_eq_true rfl) rfl rfl ?_
      refine pm_R_lo pm_M177 (pc_q := 1) rfl rfl rfl ?_
      refine pm_R_op pm_M177 (pc_q := 2) (st_q := [.int 0, .int a0]) rfl rfl rfl ?_
      refine pm_R_lo pm_M177 (pc_q := 3) rfl rfl rfl ?_
      refine rf_R_get pm_M177 T2 (pc_q := 6) (v := .ref 46) rfl rfl rfl rfl ?_
      refine pm_R_lo pm_M177 (pc_q := 7) rfl rfl rfl ?_
      obtain ⟨f16, e17, b18⟩ := T2.2.2.2.1 46 (by decide) (by decide)
      refine rf_R_ild pm_M177 T2 (pc_q := 8) rfl e17 (by decide) rfl rfl (fun z19 ez20 => ?_)
      have B21 : sf_B 0 2 z19 := ez20 ▸ (b18 0)
      refine pm_R_op pm_M177 (pc_q := 9) (st_q := [.int 1, .int z19, .int 0, .int a0]) rfl rfl rfl ?_
      refine sf_R_isub pm_M177 (pc_q := 10) rfl rfl B21 sf_k1 (by decide) (by decide) (fun z22 e23 B24 => ?_)
      refine pm_R_cs pm_M177 (pc_q := 13) (ra := [.int z22, .int 0, .int a0]) (rest := []) (ls_q := [.int a0, .int 0, .int z22]) rfl rfl (Or.inl rfl) pm_M174 rfl rfl (Nat.le_of_ble_eq_true rfl) rfl rfl ?_
      refine pm_R_lo pm_M174 (pc_q := 1) rfl rfl rfl ?_
      refine pm_R_lo pm_M174 (pc_q := 2) rfl rfl rfl ?_
      refine pm_R_icmp pm_M174 (t := 14) (pc_q := 5) rfl rfl rfl (fun c25 => ?_) (fun c25 => ?_)
      · have B26 : sf_B (-2147483648) (-1) a0 := sf_ltL c25 (sf_any a0) sf_k0
        refine pm_R_op pm_M174 (pc_q := 15) (st_q := [.int 0]) rfl rfl rfl ?_
        refine pm_R_ret pm_M174 (r := some (.int 0)) rfl rfl ?_
        show pm_R _ 177 13 [.ref 41, .int 0, .int a0] [.int 0] _ _
        refine pm_R_ret pm_M177 (r := some (.int 0)) rfl rfl ?_
        show pm_R _ 200 6 [.ref 41, .int a0, .int a1] [.int 0] _ _
        refine pm_R_br pm_M200 (pc_q := 18) (st_q := []) rfl rfl ?_
        refine pm_R_op pm_M200 (pc_q := 19) (st_q := [.int 0]) rfl rfl rfl ?_
        refine pm_R_ret pm_M200 (r := some (.int 0)) rfl rfl ?_
        show pm_R _ 284 21 [.ref 41, .int a0, .int a1, .int a2, .int a3, .int a4, pm_no, pm_no] [.int 0] _ _
        refine pm_R_br pm_M284 (pc_q := 39) (st_q := []) rfl rfl ?_
        refine pm_R_op pm_M284 (pc_q := 40) (st_q := [.int (-1)]) rfl rfl rfl ?_
        exact pm_R_ret pm_M284 (r := some (.int (-1))) rfl rfl (K (-1) m4 w h1 T2 F6 W9 (sf_weak sf_kn1 (by decide) (by decide)))
      · have B27 : sf_B 0 2147483647 a0 := sf_leR (Int32.not_lt.mp c25) sf_k0 (sf_any a0)
        refine pm_R_lo pm_M174 (pc_q := 6) rfl rfl rfl ?_
        refine pm_R_lo pm_M174 (pc_q := 7) rfl rfl rfl ?_
        refine pm_R_icmp pm_M174 (t := 14) (pc_q := 10) rfl rfl rfl (fun c28 => ?_) (fun c28 => ?_)
        · skip
          refine pm_R_op pm_M174 (pc_q := 15) (st_q := [.int 0]) rfl rfl rfl ?_
          refine pm_R_ret pm_M174 (r := some (.int 0)) rfl rfl ?_
          show pm_R _ 177 13 [.ref 41, .int 0, .int a0] [.int 0] _ _
          refine pm_R_ret pm_M177 (r := some (.int 0)) rfl rfl ?_
          show pm_R _ 200 6 [.ref 41, .int a0, .int a1] [.int 0] _ _
          refine pm_R_br pm_M200 (pc_q := 18) (st_q := []) rfl rfl ?_
          refine pm_R_op pm_M200 (pc_q := 19) (st_q := [.int 0]) rfl rfl rfl ?_
          refine pm_R_ret pm_M200 (r := some (.int 0)) rfl rfl ?_
          show pm_R _ 284 21 [.ref 41, .int a0, .int a1, .int a2, .int a3, .int a4, pm_no, pm_no] [.int 0] _ _
          refine pm_R_br pm_M284 (pc_q := 39) (st_q := []) rfl rfl ?_
          refine pm_R_op pm_M284 (pc_q := 40) (st_q := [.int (-1)]) rfl rfl rfl ?_
          exact pm_R_ret pm_M284 (r := some (.int (-1))) rfl rfl (K (-1) m4 w h1 T2 F6 W9 (sf_weak sf_kn1 (by decide) (by decide)))
        · have B29 : sf_B 0 1 a0 := sf_leL (Int32.not_lt.mp c28) B27 B24
          have B30 : sf_B 0 1 z22 := sf_leR (Int32.not_lt.mp c28) B27 B24
          refine pm_R_op pm_M174 (pc_q := 11) (st_q := [.int 1]) rfl rfl rfl ?_
          refine pm_R_br pm_M174 (pc_q := 15) rfl rfl ?_
          refine pm_R_ret pm_M174 (r := some (.int 1)) rfl rfl ?_
          show pm_R _ 177 13 [.ref 41, .int 0, .int a0] [.int 1] _ _
          refine pm_R_ret pm_M177 (r := some (.int 1)) rfl rfl ?_
          show pm_R _ 200 6 [.ref 41, .int a0, .int a1] [.int 1] _ _
          refine pm_R_br pm_M200 (pc_q := 9) (st_q := []) rfl rfl ?_
          refine pm_R_lo pm_M200 (pc_q := 10) rfl rfl rfl ?_
          refine pm_R_op pm_M200 (pc_q := 11) (st_q := [.int 1, .ref 41]) rfl rfl rfl ?_
          refine pm_R_lo pm_M200 (pc_q := 12) rfl rfl rfl ?_
          refine pm_R_cv pm_M200 (pc_q := 15) (a := 41) (ra := [.int a1, .int 1]) (rest := []) (ls_q := [.ref 41, .int 1, .int a1]) rfl rfl (Or.inl rfl) pm_M177 T2.2.1 rfl (by decide) (Nat.lt_of_lt_of_le (by decide) T2.1) rfl rfl (Nat.le_of_ble_eq_true rfl) rfl rfl ?_
          refine pm_R_lo pm_M177 (pc_q := 1) rfl rfl rfl ?_
          refine pm_R_op pm_M177 (pc_q := 2) (st_q := [.int 0, .int a1]) rfl rfl rfl ?_
          refine pm_R_lo pm_M177 (pc_q := 3) rfl rfl rfl ?_
          refine rf_R_get pm_M177 T2 (pc_q := 6) (v := .ref 46) rfl rfl rfl rfl ?_
          refine pm_R_lo pm_M177 (pc_q := 7) rfl rfl rfl ?_
          refine rf_R_ild pm_M177 T2 (pc_q := 8) rfl e17 (by decide) rfl rfl (fun z31 ez32 => ?_)
          have B33 : sf_B 0 3 z31 := ez32 ▸ (b18 1)
          refine pm_R_op pm_M177 (pc_q := 9) (st_q := [.int 1, .int z31, .int 0, .int a1]) rfl rfl rfl ?_
          refine sf_R_isub pm_M177 (pc_q := 10) rfl rfl B33 sf_k1 (by decide) (by decide) (fun z34 e35 B36 => ?_)
          refine pm_R_cs pm_M177 (pc_q := 13) (ra := [.int z34, .int 0, .int a1]) (rest := []) (ls_q := [.int a1, .int 0, .int z34]) rfl rfl (Or.inl rfl) pm_M174 rfl rfl (Nat.le_of_ble_eq_true rfl) rfl rfl ?_
          refine pm_R_lo pm_M174 (pc_q := 1) rfl rfl rfl ?_
          refine pm_R_lo pm_M174 (pc_q := 2) rfl rfl rfl ?_
          refine pm_R_icmp pm_M174 (t := 14) (pc_q := 5) rfl rfl rfl (fun c37 => ?_) (fun c37 => ?_)
          · have B38 : sf_B (-2147483648) (-1) a1 := sf_ltL c37 (sf_any a1) sf_k0
            refine pm_R_op pm_M174 (pc_q := 15) (st_q := [.int 0]) rfl rfl rfl ?_
            refine pm_R_ret pm_M174 (r := some (.int 0)) rfl rfl ?_
            show pm_R _ 177 13 [.ref 41, .int 1, .int a1] [.int 0] _ _
            refine pm_R_ret pm_M177 (r := some (.int 0)) rfl rfl ?_
            show pm_R _ 200 15 [.ref 41, .int a0, .int a1] [.int 0] _ _
            refine pm_R_br pm_M200 (pc_q := 18) (st_q := []) rfl rfl ?_
            refine pm_R_op pm_M200 (pc_q := 19) (st_q := [.int 0]) rfl rfl rfl ?_
            refine pm_R_ret pm_M200 (r := some (.int 0)) rfl rfl ?_
            show pm_R _ 284 21 [.ref 41, .int a0, .int a1, .int a2, .int a3, .int a4, pm_no, pm_no] [.int 0] _ _
            refine pm_R_br pm_M284 (pc_q := 39) (st_q := []) rfl rfl ?_
            refine pm_R_op pm_M284 (pc_q := 40) (st_q := [.int (-1)]) rfl rfl rfl ?_
            exact pm_R_ret pm_M284 (r := some (.int (-1))) rfl rfl (K (-1) m4 w h1 T2 F6 W9 (sf_weak sf_kn1 (by decide) (by decide)))
          · have B39 : sf_B 0 2147483647 a1 := sf_leR (Int32.not_lt.mp c37) sf_k0 (sf_any a1)
            refine pm_R_lo pm_M174 (pc_q := 6) rfl rfl rfl ?_
            refine pm_R_lo pm_M174 (pc_q := 7) rfl rfl rfl ?_
            refine pm_R_icmp pm_M174 (t := 14) (pc_q := 10) rfl rfl rfl (fun c40 => ?_) (fun c40 => ?_)
            · skip
              refine pm_R_op pm_M174 (pc_q := 15) (st_q := [.int 0]) rfl rfl rfl ?_
              refine pm_R_ret pm_M174 (r := some (.int 0)) rfl rfl ?_
              show pm_R _ 177 13 [.ref 41, .int 1, .int a1] [.int 0] _ _
              refine pm_R_ret pm_M177 (r := some (.int 0)) rfl rfl ?_
              show pm_R _ 200 15 [.ref 41, .int a0, .int a1] [.int 0] _ _
              refine pm_R_br pm_M200 (pc_q := 18) (st_q := []) rfl rfl ?_
              refine pm_R_op pm_M200 (pc_q := 19) (st_q := [.int 0]) rfl rfl rfl ?_
              refine pm_R_ret pm_M200 (r := some (.int 0)) rfl rfl ?_
              show pm_R _ 284 21 [.ref 41, .int a0, .int a1, .int a2, .int a3, .int a4, pm_no, pm_no] [.int 0] _ _
              refine pm_R_br pm_M284 (pc_q := 39) (st_q := []) rfl rfl ?_
              refine pm_R_op pm_M284 (pc_q := 40) (st_q := [.int (-1)]) rfl rfl rfl ?_
              exact pm_R_ret pm_M284 (r := some (.int (-1))) rfl rfl (K (-1) m4 w h1 T2 F6 W9 (sf_weak sf_kn1 (by decide) (by decide)))
            · have V41 := rf_V.mk e17 ez32 e35 (Int32.not_lt.mp c40) B39 (by decide)
              have V41 := V41.back F6 (by decide)
              have B42 : sf_B 0 2 a1 := sf_leL (Int32.not_lt.mp c40) B39 B36
              have B43 : sf_B 0 2 z34 := sf_leR (Int32.not_lt.mp c40) B39 B36
              refine pm_R_op pm_M174 (pc_q := 11) (st_q := [.int 1]) rfl rfl rfl ?_
              refine pm_R_br pm_M174 (pc_q := 15) rfl rfl ?_
              refine pm_R_ret pm_M174 (r := some (.int 1)) rfl rfl ?_
              show pm_R _ 177 13 [.ref 41, .int 1, .int a1] [.int 1] _ _
              refine pm_R_ret pm_M177 (r := some (.int 1)) rfl rfl ?_
              show pm_R _ 200 15 [.ref 41, .int a0, .int a1] [.int 1] _ _
              refine pm_R_br pm_M200 (pc_q := 20) (st_q := []) rfl rfl ?_
              refine pm_R_lo pm_M200 (pc_q := 21) rfl rfl rfl ?_
              refine pm_R_lo pm_M200 (pc_q := 22) rfl rfl rfl ?_
              refine pm_R_lo pm_M200 (pc_q := 23) rfl rfl rfl ?_
              refine pm_R_cv pm_M200 (pc_q := 26) (a := 41) (ra := [.int a1, .int a0]) (rest := []) (ls_q := [.ref 41, .int a0, .int a1, pm_no]) rfl rfl (Or.inl rfl) pm_M201 T2.2.1 rfl (by decide) (Nat.lt_of_lt_of_le (by decide) T2.1) rfl rfl (Nat.le_of_ble_eq_true rfl) rfl rfl ?_
              refine rf_c201 (d := d + 1) T2 B29 B42 (V41.F F6 (by decide)) (fun m46 w47 h48 T49 F50 W51 X52 B53 => ?_)
              have F54 := F6.trans F50 (by decide)
              have W55 : rf_W [0, 23, 24, 26, 50] m m46 := W9.trans W51 (by decide)
              show pm_R _ 200 26 [.ref 41, .int a0, .int a1] [] _ _
              refine pm_R_op pm_M200 (pc_q := 27) (st_q := [.int 1]) rfl rfl rfl ?_
              refine pm_R_ret pm_M200 (r := some (.int 1)) rfl rfl ?_
              show pm_R _ 284 21 [.ref 41, .int a0, .int a1, .int a2, .int a3, .int a4, pm_no, pm_no] [.int 1] _ _
              refine pm_R_br pm_M284 (pc_q := 24) (st_q := []) rfl rfl ?_
              refine pm_R_lo pm_M284 (pc_q := 26) rfl rfl rfl ?_
              refine pm_R_op pm_M284 (pc_q := 27) (st_q := [.int 0, .int a4]) rfl rfl rfl ?_
              refine pm_R_lo pm_M284 (pc_q := 28) rfl rfl rfl ?_
              refine rf_R_get pm_M284 T49 (pc_q := 31) (v := .int (m46 24)) rfl rfl rfl rfl ?_
              refine pm_R_op pm_M284 (pc_q := 32) (st_q := [.int 1, .int (m46 24), .int 0, .int a4]) rfl rfl rfl ?_
              refine sf_R_isub pm_M284 (pc_q := 33) rfl rfl B53 sf_k1 (by decide) (by decide) (fun z56 e57 B58 => ?_)
              refine pm_R_cs pm_M284 (pc_q := 36) (ra := [.int z56, .int 0, .int a4]) (rest := []) (ls_q := [.int a4, .int 0, .int z56]) rfl rfl (Or.inl rfl) pm_M174 rfl rfl (Nat.le_of_ble_eq_true rfl) rfl rfl ?_
              refine pm_R_lo pm_M174 (pc_q := 1) rfl rfl rfl ?_
              refine pm_R_lo pm_M174 (pc_q := 2) rfl rfl rfl ?_
              refine pm_R_icmp pm_M174 (t := 14) (pc_q := 5) rfl rfl rfl (fun c59 => ?_) (fun c59 => ?_)
              · have B60 : sf_B (-2147483648) (-1) a4 := sf_ltL c59 (sf_any a4) sf_k0
                refine pm_R_op pm_M174 (pc_q := 15) (st_q := [.int 0]) rfl rfl rfl ?_
                refine pm_R_ret pm_M174 (r := some (.int 0)) rfl rfl ?_
                show pm_R _ 284 36 [.ref 41, .int a0, .int a1, .int a2, .int a3, .int a4, pm_no, pm_no] [.int 0] _ _
                refine pm_R_br pm_M284 (pc_q := 39) (st_q := []) rfl rfl ?_
                refine pm_R_op pm_M284 (pc_q := 40) (st_q := [.int (-1)]) rfl rfl rfl ?_
                exact pm_R_ret pm_M284 (r := some (.int (-1))) rfl rfl (K (-1) m46 w47 h48 T49 F54 W55 (sf_weak sf_kn1 (by decide) (by decide)))
              · have B61 : sf_B 0 2147483647 a4 := sf_leR (Int32.not_lt.mp c59) sf_k0 (sf_any a4)
                refine pm_R_lo pm_M174 (pc_q := 6) rfl rfl rfl ?_
                refine pm_R_lo pm_M174 (pc_q := 7) rfl rfl rfl ?_
                refine pm_R_icmp pm_M174 (t := 14) (pc_q := 10) rfl rfl rfl (fun c62 => ?_) (fun c62 => ?_)
                · have B63 : sf_B 1 2147483647 a4 := sf_ltR c62 B58 B61
                  refine pm_R_op pm_M174 (pc_q := 15) (st_q := [.int 0]) rfl rfl rfl ?_
                  refine pm_R_ret pm_M174 (r := some (.int 0)) rfl rfl ?_
                  show pm_R _ 284 36 [.ref 41, .int a0, .int a1, .int a2, .int a3, .int a4, pm_no, pm_no] [.int 0] _ _
                  refine pm_R_br pm_M284 (pc_q := 39) (st_q := []) rfl rfl ?_
                  refine pm_R_op pm_M284 (pc_q := 40) (st_q := [.int (-1)]) rfl rfl rfl ?_
                  exact pm_R_ret pm_M284 (r := some (.int (-1))) rfl rfl (K (-1) m46 w47 h48 T49 F54 W55 (sf_weak sf_kn1 (by decide) (by decide)))
                · have B64 : sf_B 0 11 a4 := sf_leL (Int32.not_lt.mp c62) B61 B58
                  refine pm_R_op pm_M174 (pc_q := 11) (st_q := [.int 1]) rfl rfl rfl ?_
                  refine pm_R_br pm_M174 (pc_q := 15) rfl rfl ?_
                  refine pm_R_ret pm_M174 (r := some (.int 1)) rfl rfl ?_
                  show pm_R _ 284 36 [.ref 41, .int a0, .int a1, .int a2, .int a3, .int a4, pm_no, pm_no] [.int 1] _ _
                  refine pm_R_br pm_M284 (pc_q := 41) (st_q := []) rfl rfl ?_
                  refine pm_R_lo pm_M284 (pc_q := 42) rfl rfl rfl ?_
                  refine pm_R_lo pm_M284 (pc_q := 44) rfl rfl rfl ?_
                  refine rf_R_put pm_M284 T49 (pc_q := 47) rfl rfl rfl (by decide) rfl rfl (sf_any _) rfl rfl (fun h65 m68 em69 T66 F67 => ?_)
                  have F70 := F54.trans F67 (by decide)
                  have B71 : sf_B 1 12 (m68 24) := by rw [em69]; exact B53
                  have B72 : sf_B (-2147483648) 2147483647 (m68 50) := by rw [em69]; exact (sf_any a3)
                  have ek73 : (m68 50).toInt = (a3).toInt := by rw [em69]; rfl
                  have W74 : rf_W [0, 23, 24, 26, 50] m m68 := by rw [em69]; exact W55.put (by decide)
                  refine pm_R_op pm_M284 (pc_q := 48) (st_q := [.int 0]) rfl rfl rfl ?_
                  refine pm_R_lo pm_M284 (pc_q := 50) (ls_q := [.ref 41, .int a0, .int a1, .int a2, .int a3, .int a4, .int 0, pm_no]) (st_q := []) rfl rfl rfl ?_
                  have L_11221 : ∀ (N : Nat) (h_11221 : pm_H) (m_11221 : Nat → Int32) (w_11221 : Int64) (x6_11221 : Int32), rf_T m_11221 w_11221 h_11221 → rf_G [41, 53, 70] h h_11221 → rf_W [] m68 m_11221 → sf_B 0 12 x6_11221 → (12 - x6_11221.toInt).toNat = N → pm_R (d + 3) 284 50 [.ref 41, .int a0, .int a1, .int a2, .int a3, .int a4, .int x6_11221, pm_no] [] h_11221 Q := by
                    intro N
                    induction N using Nat.strongRecOn with
                    | ind N ih_11221 =>
                      intro h_11221 m_11221 w_11221 x6_11221 T_11221 F_11221 W_11221 Bx6_11221 hN_11221
                      have B11224 : sf_B 1 12 (m_11221 24) := by rw [W_11221 24 (by decide)]; exact B71
                      have W11225 : rf_W [0, 23, 24, 26, 50] m m_11221 := W74.trans W_11221 (by decide)
                      refine pm_R_lo pm_M284 (pc_q := 52) rfl rfl rfl ?_
                      refine pm_R_lo pm_M284 (pc_q := 53) rfl rfl rfl ?_
                      refine rf_R_get pm_M284 T_11221 (pc_q := 56) (v := .int (m_11221 24)) rfl rfl rfl rfl ?_
                      refine pm_R_icmp pm_M284 (t := 86) (pc_q := 59) rfl rfl rfl (fun c11226 => ?_) (fun c11226 => ?_)
                      · have B11227 : sf_B 1 12 x6_11221 := sf_leR c11226 B11224 Bx6_11221
                        refine pm_R_op pm_M284 (pc_q := 87) (st_q := [.int 0]) rfl rfl rfl ?_
                        refine pm_R_lo pm_M284 (pc_q := 89) (ls_q := [.ref 41, .int a0, .int a1, .int a2, .int a3, .int a4, .int 0, pm_no]) (st_q := []) rfl rfl rfl ?_
                        have L_13848 : ∀ (N : Nat) (h_13848 : pm_H) (m_13848 : Nat → Int32) (w_13848 : Int64) (x6_13848 : Int32) (g7_13848 : Value), rf_T m_13848 w_13848 h_13848 → rf_G [41, 53, 70] h h_13848 → rf_W [50] m_11221 m_13848 → sf_B 0 9 x6_13848 → g7_13848.category = 1 → (9 - x6_13848.toInt).toNat = N → pm_R (d + 3) 284 89 [.ref 41, .int a0, .int a1, .int a2, .int a3, .int a4, .int x6_13848, g7_13848] [] h_13848 Q := by
                          intro N
                          induction N using Nat.strongRecOn with
                          | ind N ih_13848 =>
                            intro h_13848 m_13848 w_13848 x6_13848 g7_13848 T_13848 F_13848 W_13848 Bx6_13848 Cg7_13848 hN_13848
                            have B13851 : sf_B 1 12 (m_13848 24) := by rw [W_13848 24 (by decide)]; exact B11224
                            have W13852 : rf_W [0, 23, 24, 26, 50] m m_13848 := W11225.trans W_13848 (by decide)
                            refine pm_R_lo pm_M284 (pc_q := 91) rfl rfl rfl ?_
                            refine pm_R_lo pm_M284 (pc_q := 92) rfl rfl rfl ?_
                            refine pm_R_icmp pm_M284 (t := 158) (pc_q := 95) rfl rfl rfl (fun c13853 => ?_) (fun c13853 => ?_)
                            · skip
                              refine pm_R_lo pm_M284 (pc_q := 159) (pm_q284_1 (Nat.le_of_ble_eq_true rfl)) rfl rfl ?_
                              refine rf_R_get pm_M284 T_13848 (pc_q := 162) (v := .ref 70) (pm_q284_1 (Nat.le_of_ble_eq_true rfl)) rfl rfl rfl ?_
                              refine pm_R_lo pm_M284 (pc_q := 164) (pm_q284_1 (Nat.le_of_ble_eq_true rfl)) rfl rfl ?_
                              obtain ⟨f13854, e13855, b13856⟩ := T_13848.2.2.2.1 70 (by decide) (by decide)
                              refine rf_R_ild pm_M284 T_13848 (pc_q := 165) (pm_q284_1 (Nat.le_of_ble_eq_true rfl)) e13855 (by decide) (sf_in B64 (by decide) (by decide)) rfl (fun z13857 ez13858 => ?_)
                              have B13859 : sf_B 0 9 z13857 := ez13858 ▸ b13856 _
                              exact pm_R_ret pm_M284 (r := some (.int z13857)) (pm_q284_1 (Nat.le_of_ble_eq_true rfl)) (pm_ret_i _) (K z13857 m_13848 w_13848 h_13848 T_13848 F_13848 W13852 (sf_weak B13859 (by decide) (by decide)))
                            · have B13860 : sf_B 0 8 x6_13848 := sf_ltL (Int32.not_le.mp c13853) Bx6_13848 B15
                              have B13861 : sf_B 1 9 a2 := sf_ltR (Int32.not_le.mp c13853) Bx6_13848 B15
                              refine pm_R_op pm_M284 (pc_q := 96) (st_q := [.int 0]) rfl rfl rfl ?_
                              refine pm_R_lo pm_M284 (pc_q := 98) (ls_q := [.ref 41, .int a0, .int a1, .int a2, .int a3, .int a4, .int x6_13848, .int 0]) (st_q := []) rfl rfl rfl ?_
                              have L_14379 : ∀ (N : Nat) (h_14379 : pm_H) (m_14379 : Nat → Int32) (w_14379 : Int64) (x7_14379 : Int32), rf_T m_14379 w_14379 h_14379 → rf_G [41, 53, 70] h h_14379 → rf_W [50] m_13848 m_14379 → sf_B 0 12 x7_14379 → (12 - x7_14379.toInt).toNat = N → pm_R (d + 3) 284 98 [.ref 41, .int a0, .int a1, .int a2, .int a3, .int a4, .int x6_13848, .int x7_14379] [] h_14379 Q := by
                                intro N
                                induction N using Nat.strongRecOn with
                                | ind N ih_14379 =>
                                  intro h_14379 m_14379 w_14379 x7_14379 T_14379 F_14379 W_14379 Bx7_14379 hN_14379
                                  have B14382 : sf_B 1 12 (m_14379 24) := by rw [W_14379 24 (by decide)]; exact B13851
                                  have W14383 : rf_W [0, 23, 24, 26, 50] m m_14379 := W13852.trans W_14379 (by decide)
                                  have W14384 : rf_W [50] m_11221 m_14379 := W_13848.trans W_14379 (by decide)
                                  refine pm_R_lo pm_M284 (pc_q := 100) rfl rfl rfl ?_
                                  refine pm_R_lo pm_M284 (pc_q := 101) rfl rfl rfl ?_
                                  refine rf_R_get pm_M284 T_14379 (pc_q := 104) (v := .int (m_14379 24)) rfl rfl rfl rfl ?_
                                  refine pm_R_icmp pm_M284 (t := 152) (pc_q := 107) rfl rfl rfl (fun c14385 => ?_) (fun c14385 => ?_)
                                  · have B14386 : sf_B 1 12 x7_14379 := sf_leR c14385 B14382 Bx7_14379
                                    refine sf_R_iinc pm_M284 (pc_q := 155) (ls_q := fun z => [.ref 41, .int a0, .int a1, .int a2, .int a3, .int a4, .int z, .int x7_14379]) (pm_q284_1 (Nat.le_of_ble_eq_true rfl)) B13860 rfl (by decide) (by decide) (by decide) (fun _ => rfl) rfl (fun z14387 e14388 B14389 => ?_)
                                    show pm_R _ 284 155 [.ref 41, .int a0, .int a1, .int a2, .int a3, .int a4, .int z14387, .int x7_14379] [] _ _
                                    refine pm_R_br pm_M284 (pc_q := 89) (pm_q284_1 (Nat.le_of_ble_eq_true rfl)) rfl ?_
                                    exact ih_13848 _ (sf_up hN_13848 e14388 B13860 (by decide) (by decide)) h_14379 m_14379 w_14379 z14387 (.int x7_14379) T_14379 F_14379 W14384 (sf_weak B14389 (by decide) (by decide)) rfl rfl
                                  · have B14390 : sf_B 0 11 x7_14379 := sf_ltL (Int32.not_le.mp c14385) Bx7_14379 B14382
                                    refine pm_R_lo pm_M284 (pc_q := 108) rfl rfl rfl ?_
                                    refine rf_R_get pm_M284 T_14379 (pc_q := 111) (v := .ref 70) (pm_q284_1 (Nat.le_of_ble_eq_true rfl)) rfl rfl rfl ?_
                                    refine pm_R_lo pm_M284 (pc_q := 113) (pm_q284_1 (Nat.le_of_ble_eq_true rfl)) rfl rfl ?_
                                    refine pm_R_lo pm_M284 (pc_q := 114) (pm_q284_1 (Nat.le_of_ble_eq_true rfl)) rfl rfl ?_
                                    refine pm_R_lo pm_M284 (pc_q := 115) (pm_q284_1 (Nat.le_of_ble_eq_true rfl)) rfl rfl ?_
                                    refine rf_R_get pm_M284 T_14379 (pc_q := 118) (v := .ref 70) (pm_q284_1 (Nat.le_of_ble_eq_true rfl)) rfl rfl rfl ?_
                                    refine pm_R_lo pm_M284 (pc_q := 120) (pm_q284_1 (Nat.le_of_ble_eq_true rfl)) rfl rfl ?_
                                    obtain ⟨f14391, e14392, b14393⟩ := T_14379.2.2.2.1 70 (by decide) (by decide)
                                    refine rf_R_ild pm_M284 T_14379 (pc_q := 121) (pm_q284_1 (Nat.le_of_ble_eq_true rfl)) e14392 (by decide) (sf_in B14390 (by decide) (by decide)) rfl (fun z14394 ez14395 => ?_)
                                    have B14396 : sf_B 0 9 z14394 := ez14395 ▸ b14393 _
                                    refine pm_R_lo pm_M284 (pc_q := 122) (pm_q284_1 (Nat.le_of_ble_eq_true rfl)) rfl rfl ?_
                                    refine pm_R_op pm_M284 (pc_q := 123) (st_q := [.int 1, .ref 41, .int z14394, .ref 41, .int x7_14379, .ref 70]) (pm_q284_1 (Nat.le_of_ble_eq_true rfl)) rfl rfl ?_
                                    refine pm_R_lo pm_M284 (pc_q := 124) (pm_q284_1 (Nat.le_of_ble_eq_true rfl)) rfl rfl ?_
                                    refine pm_R_lo pm_M284 (pc_q := 125) (pm_q284_1 (Nat.le_of_ble_eq_true rfl)) rfl rfl ?_
                                    refine rf_R_get pm_M284 T_14379 (pc_q := 128) (v := .ref 70) (pm_q284_1 (Nat.le_of_ble_eq_true rfl)) rfl rfl rfl ?_
                                    refine pm_R_lo pm_M284 (pc_q := 130) (pm_q284_1 (Nat.le_of_ble_eq_true rfl)) rfl rfl ?_
                                    refine pm_R_iald pm_M284 (pc_q := 131) (v := z14394) (pm_q284_1 (Nat.le_of_ble_eq_true rfl)) e14392 (Nat.lt_of_lt_of_le (by decide) T_14379.1) (sf_in B14390 (by decide) (by decide)) ez14395 rfl ?_
                                    refine pm_R_cv pm_M284 (pc_q := 134) (a := 41) (ra := [.int z14394]) (rest := [.int 1, .ref 41, .int z14394, .ref 41, .int x7_14379, .ref 70]) (ls_q := [.ref 41, .int z14394]) (pm_q284_1 (Nat.le_of_ble_eq_true rfl)) rfl (Or.inl rfl) pm_M236 T_14379.2.1 rfl (by decide) (Nat.lt_of_lt_of_le (by decide) T_14379.1) rfl rfl (Nat.le_of_ble_eq_true rfl) rfl rfl ?_
                                    refine pm_R_lo pm_M236 (pc_q := 1) rfl rfl rfl ?_
                                    refine rf_R_get pm_M236 T_14379 (pc_q := 4) (v := .ref 47) rfl rfl rfl rfl ?_
                                    refine pm_R_op pm_M236 (pc_q := 6) (st_q := [.int 100, .ref 47]) rfl rfl rfl ?_
                                    refine pm_R_lo pm_M236 (pc_q := 7) rfl rfl rfl ?_
                                    have B14399 : sf_B 0 1 (m_14379 23) := T_14379.2.2.1 23
                                    refine rf_R_get pm_M236 T_14379 (pc_q := 10) (v := .int (m_14379 23)) rfl rfl rfl rfl ?_
                                    refine sf_R_imul pm_M236 (pc_q := 11) rfl rfl sf_k100 B14399 (by decide) (by decide) (by decide) (fun z14400 e14401 B14402 => ?_)
                                    refine pm_R_op pm_M236 (pc_q := 13) (st_q := [.int 90, .int z14400, .ref 47]) rfl rfl rfl ?_
                                    refine sf_R_iadd pm_M236 (pc_q := 14) rfl rfl B14402 sf_k90 (by decide) (by decide) (fun z14403 e14404 B14405 => ?_)
                                    refine pm_R_lo pm_M236 (pc_q := 15) rfl rfl rfl ?_
                                    refine sf_R_iadd pm_M236 (pc_q := 16) rfl rfl B14405 B14396 (by decide) (by decide) (fun z14406 e14407 B14408 => ?_)
                                    obtain ⟨f14409, e14410, b14411⟩ := T_14379.2.2.2.1 47 (by decide) (by decide)
                                    refine rf_R_ild pm_M236 T_14379 (pc_q := 17) rfl e14410 (by decide) (sf_in B14408 (by decide) (by decide)) rfl (fun z14412 ez14413 => ?_)
                                    refine pm_R_ret pm_M236 (r := some (.int z14412)) rfl (pm_ret_i _) ?_
                                    show pm_R _ 284 134 [.ref 41, .int a0, .int a1, .int a2, .int a3, .int a4, .int x6_13848, .int x7_14379] [.int z14412, .int 1, .ref 41, .int z14394, .ref 41, .int x7_14379, .ref 70] _ _
                                    refine sf_R_lany pm_M284 (pc_q := 135) (st := [.int 1, .ref 41, .int z14394, .ref 41, .int x7_14379, .ref 70]) (pm_q284_1 (Nat.le_of_ble_eq_true rfl)) rfl rfl (fun z14414 => ?_)
                                    refine pm_R_cs pm_M284 (pc_q := 138) (ra := [.long z14414]) (rest := [.int 1, .ref 41, .int z14394, .ref 41, .int x7_14379, .ref 70]) (ls_q := [.long z14414, pm_no, pm_no, pm_no]) (pm_q284_1 (Nat.le_of_ble_eq_true rfl)) rfl (Or.inl rfl) pm_M222 rfl rfl (Nat.le_of_ble_eq_true rfl) rfl rfl ?_
                                    refine rf_c222 (d := d + 1)  (fun r14415 B14416 => ?_)
                                    show pm_R _ 284 138 [.ref 41, .int a0, .int a1, .int a2, .int a3, .int a4, .int x6_13848, .int x7_14379] [.int r14415, .int 1, .ref 41, .int z14394, .ref 41, .int x7_14379, .ref 70] _ _
                                    refine sf_R_iadd pm_M284 (pc_q := 139) (pm_q284_1 (Nat.le_of_ble_eq_true rfl)) rfl sf_k1 B14416 (by decide) (by decide) (fun z14423 e14424 B14425 => ?_)
                                    refine pm_R_cv pm_M284 (pc_q := 142) (a := 41) (ra := [.int z14423]) (rest := [.int z14394, .ref 41, .int x7_14379, .ref 70]) (ls_q := [.ref 41, .int z14423]) (pm_q284_1 (Nat.le_of_ble_eq_true rfl)) rfl (Or.inl rfl) pm_M285 T_14379.2.1 rfl (by decide) (Nat.lt_of_lt_of_le (by decide) T_14379.1) rfl rfl (Nat.le_of_ble_eq_true rfl) rfl rfl ?_
                                    refine pm_R_lo pm_M285 (pc_q := 1) rfl rfl rfl ?_
                                    refine pm_R_lo pm_M285 (pc_q := 2) rfl rfl rfl ?_
                                    refine rf_R_get pm_M285 T_14379 (pc_q := 5) (v := .int (m_14379 50)) rfl rfl rfl rfl ?_
                                    refine pm_R_ldcw pm_M285 (pc_q := 8) rfl rfl rfl ?_
                                    refine sf_R_iany pm_M285 (pc_q := 9) (st := [.ref 41]) rfl rfl rfl (fun z14429 => ?_)
                                    refine pm_R_op pm_M285 (pc_q := 12) (st_q := [.int 12345, .int z14429, .ref 41]) rfl rfl rfl ?_
                                    refine sf_R_iany pm_M285 (pc_q := 13) (st := [.ref 41]) rfl rfl rfl (fun z14433 => ?_)
                                    refine rf_R_put pm_M285 T_14379 (pc_q := 16) rfl rfl rfl (by decide) rfl rfl (sf_any _) rfl rfl (fun h14434 m14437 em14438 T14435 F14436 => ?_)
                                    have F14439 := F_14379.trans F14436 (by decide)
                                    have B14440 : sf_B 1 12 (m14437 24) := by rw [em14438]; exact B14382
                                    have B14441 : sf_B (-2147483648) 2147483647 (m14437 50) := by rw [em14438]; exact (sf_any z14433)
                                    have ek14442 : (m14437 50).toInt = (z14433).toInt := by rw [em14438]; rfl
                                    have W14443 : rf_W [0, 23, 24, 26, 50] m m14437 := by rw [em14438]; exact W14383.put (by decide)
                                    have W14444 : rf_W [50] m_11221 m14437 := by rw [em14438]; exact W14384.put (by decide)
                                    have W14445 : rf_W [50] m_13848 m14437 := by rw [em14438]; exact W_14379.put (by decide)
                                    refine pm_R_lo pm_M285 (pc_q := 17) rfl rfl rfl ?_
                                    refine rf_R_get pm_M285 T14435 (pc_q := 20) (v := .int (m14437 50)) rfl rfl rfl rfl ?_
                                    refine pm_R_op pm_M285 (pc_q := 22) (st_q := [.int 16, .int (m14437 50)]) rfl rfl rfl ?_
                                    refine sf_R_iany pm_M285 (pc_q := 23) (st := []) rfl rfl rfl (fun z14449 => ?_)
                                    refine pm_R_lo pm_M285 (pc_q := 24) rfl rfl rfl ?_
                                    refine sf_R_iremA pm_M285 (pc_q := 25) rfl rfl (sf_neq1 B14425 sf_k0 (by decide)) (fun z14450 => ?_)
                                    refine pm_R_ret pm_M285 (r := some (.int z14450)) rfl (pm_ret_i _) ?_
                                    show pm_R _ 284 142 [.ref 41, .int a0, .int a1, .int a2, .int a3, .int a4, .int x6_13848, .int x7_14379] [.int z14450, .int z14394, .ref 41, .int x7_14379, .ref 70] _ _
                                    refine pm_R_cv pm_M284 (pc_q := 145) (a := 41) (ra := [.int z14450, .int z14394]) (rest := [.int x7_14379, .ref 70]) (ls_q := [.ref 41, .int z14394, .int z14450, pm_no, pm_no]) (pm_q284_1 (Nat.le_of_ble_eq_true rfl)) rfl (Or.inl rfl) pm_M286 T14435.2.1 rfl (by decide) (Nat.lt_of_lt_of_le (by decide) T14435.1) rfl rfl (Nat.le_of_ble_eq_true rfl) rfl rfl ?_
                                    refine rf_c286 (d := d + 1) T14435 B14396 (fun r14453 B14454 => ?_)
                                    show pm_R _ 284 145 [.ref 41, .int a0, .int a1, .int a2, .int a3, .int a4, .int x6_13848, .int x7_14379] [.int r14453, .int x7_14379, .ref 70] _ _
                                    have e14461 := (F14436.cell (by decide) e14392)
                                    refine rf_R_ist pm_M284 T14435 (pc_q := 146) (pm_q284_1 (Nat.le_of_ble_eq_true rfl)) e14461 (by decide) (by decide) (sf_in B14390 (by decide) (by decide)) ⟨_, rfl, sf_upd b14393 B14454 _⟩ rfl (fun h14462 T14463 F14464 e14465 => ?_)
                                    have F14466 := F14439.trans F14464 (by decide)
                                    refine sf_R_iinc pm_M284 (pc_q := 149) (ls_q := fun z => [.ref 41, .int a0, .int a1, .int a2, .int a3, .int a4, .int x6_13848, .int z]) (pm_q284_1 (Nat.le_of_ble_eq_true rfl)) B14390 rfl (by decide) (by decide) (by decide) (fun _ => rfl) rfl (fun z14467 e14468 B14469 => ?_)
                                    show pm_R _ 284 149 [.ref 41, .int a0, .int a1, .int a2, .int a3, .int a4, .int x6_13848, .int z14467] [] _ _
                                    refine pm_R_br pm_M284 (pc_q := 98) (pm_q284_1 (Nat.le_of_ble_eq_true rfl)) rfl ?_
                                    exact ih_14379 _ (sf_up hN_14379 e14468 B14390 (by decide) (by decide)) h14462 m14437 w_14379 z14467 T14463 F14466 W14445 (sf_weak B14469 (by decide) (by decide)) rfl
                              exact L_14379 _ h_13848 m_13848 w_13848 0 T_13848 F_13848 (rf_W.refl _ _) (sf_weak sf_k0 (by decide) (by decide)) rfl
                        exact L_13848 _ h_11221 m_11221 w_11221 0 (pm_no) T_11221 F_11221 (rf_W.refl _ _) (sf_weak sf_k0 (by decide) (by decide)) rfl rfl
                      · have B14470 : sf_B 0 11 x6_11221 := sf_ltL (Int32.not_le.mp c11226) Bx6_11221 B11224
                        refine pm_R_lo pm_M284 (pc_q := 60) rfl rfl rfl ?_
                        refine rf_R_get pm_M284 T_11221 (pc_q := 63) (v := .ref 70) rfl rfl rfl rfl ?_
                        refine pm_R_lo pm_M284 (pc_q := 65) rfl rfl rfl ?_
                        refine pm_R_lo pm_M284 (pc_q := 66) rfl rfl rfl ?_
                        refine rf_R_get pm_M284 T_11221 (pc_q := 69) (v := .ref 48) rfl rfl rfl rfl ?_
                        refine pm_R_op pm_M284 (pc_q := 71) (st_q := [.int 13, .ref 48, .int x6_11221, .ref 70]) rfl rfl rfl ?_
                        refine pm_R_lo pm_M284 (pc_q := 72) rfl rfl rfl ?_
                        refine sf_R_imul pm_M284 (pc_q := 73) rfl rfl sf_k13 B42 (by decide) (by decide) (by decide) (fun z14471 e14472 B14473 => ?_)
                        refine pm_R_op pm_M284 (pc_q := 74) (st_q := [.int 1, .int z14471, .ref 48, .int x6_11221, .ref 70]) rfl rfl rfl ?_
                        refine sf_R_iadd pm_M284 (pc_q := 75) rfl rfl B14473 sf_k1 (by decide) (by decide) (fun z14474 e14475 B14476 => ?_)
                        refine pm_R_lo pm_M284 (pc_q := 77) rfl rfl rfl ?_
                        refine sf_R_iadd pm_M284 (pc_q := 78) rfl rfl B14476 B14470 (by decide) (by decide) (fun z14477 e14478 B14479 => ?_)
                        obtain ⟨f14480, e14481, b14482⟩ := T_11221.2.2.2.1 48 (by decide) (by decide)
                        refine rf_R_ild pm_M284 T_11221 (pc_q := 79) rfl e14481 (by decide) (sf_in B14479 (by decide) (by decide)) rfl (fun z14483 ez14484 => ?_)
                        have e14485 : (z14477).toInt = 13 * (a1).toInt + 1 * (x6_11221).toInt + 1 := (sf_aux14 _ _ _ _ _ e14472 e14475 e14478)
                        have B14486 : sf_B 0 9 z14483 := ez14484 ▸ rf_p48s b14482 e14485 B42 B14470 (by decide) (by decide) (by decide)
                        obtain ⟨f14487, e14488, b14489⟩ := T_11221.2.2.2.1 70 (by decide) (by decide)
                        refine rf_R_ist pm_M284 T_11221 (pc_q := 80) rfl e14488 (by decide) (by decide) (sf_in B14470 (by decide) (by decide)) ⟨_, rfl, sf_upd b14489 B14486 _⟩ rfl (fun h14490 T14491 F14492 e14493 => ?_)
                        have F14494 := F_11221.trans F14492 (by decide)
                        refine sf_R_iinc pm_M284 (pc_q := 83) (ls_q := fun z => [.ref 41, .int a0, .int a1, .int a2, .int a3, .int a4, .int z, pm_no]) rfl B14470 rfl (by decide) (by decide) (by decide) (fun _ => rfl) rfl (fun z14495 e14496 B14497 => ?_)
                        show pm_R _ 284 83 [.ref 41, .int a0, .int a1, .int a2, .int a3, .int a4, .int z14495, pm_no] [] _ _
                        refine pm_R_br pm_M284 (pc_q := 50) rfl rfl ?_
                        exact ih_11221 _ (sf_up hN_11221 e14496 B14470 (by decide) (by decide)) h14490 m_11221 w_11221 z14495 T14491 F14494 W_11221 (sf_weak B14497 (by decide) (by decide)) rfl
                  exact L_11221 _ h65 m68 w47 0 T66 F70 (rf_W.refl _ _) (sf_weak sf_k0 (by decide) (by decide)) rfl

set_option maxRecDepth 100000 in
set_option maxHeartbeats 4000000 in
/-- SilentTableModel.all -/
theorem rf_c287 {d : Nat} {m : Nat → Int32} {w : Int64} {h : pm_H} {Q : Option Value → pm_H → Prop} {a0 : Int32} {a1 : Int32} {a2 : Int32} (T : rf_T m w h)  (K : ∀ (r : Int64) (m_q : Nat → Int32) (w_q : Int64) (h_q : pm_H), rf_T m_q w_q h_q → rf_G [41, 53, 55] h h_q → rf_W [0, 23, 24, 26] m m_q → Q (some (.long r)) h_q) : pm_R (d + 5) 287 0 [.ref 41, .int a0, .int a1, .int a2, pm_no, pm_no, pm_no, pm_no, pm_no, pm_no, pm_no, pm_no, pm_no] [] h Q := by
  refine pm_R_lo pm_M287 (pc_q := 1) rfl rfl rfl ?_
  refine pm_R_op pm_M287 (pc_q := 2) (st_q := [.int 0, .ref 41]) rfl rfl rfl ?_
  refine rf_R_put pm_M287 T (pc_q := 5) rfl rfl rfl (by decide) rfl rfl sf_k0 rfl rfl (fun h1 m4 em5 T2 F3 => ?_)
  have F6 := (rf_G.refl [41, 53, 55] h).trans F3 (by decide)
  have B7 : sf_B 0 0 (m4 0) := by rw [em5]; exact sf_k0
  have W9 : rf_W [0, 23, 24, 26] m m4 := by rw [em5]; exact (rf_W.refl [0, 23, 24, 26] m).put (by decide)
  refine pm_R_lo pm_M287 (pc_q := 6) rfl rfl rfl ?_
  refine pm_R_op pm_M287 (pc_q := 7) (st_q := [.int 0, .ref 41]) rfl rfl rfl ?_
  refine pm_R_lo pm_M287 (pc_q := 8) rfl rfl rfl ?_
  refine pm_R_cv pm_M287 (pc_q := 11) (a := 41) (ra := [.int a0, .int 0]) (rest := []) (ls_q := [.ref 41, .int 0, .int a0]) rfl rfl (Or.inl rfl) pm_M177 T2.2.1 rfl (by decide) (Nat.lt_of_lt_of_le (by decide) T2.1) rfl rfl (Nat.le_of_ble_eq_true rfl) rfl rfl ?_
  refine pm_R_lo pm_M177 (pc_q := 1) rfl rfl rfl ?_
  refine pm_R_op pm_M177 (pc_q := 2) (st_q := [.int 0, .int a0]) rfl rfl rfl ?_
  refine pm_R_lo pm_M177 (pc_q := 3) rfl rfl rfl ?_
  refine rf_R_get pm_M177 T2 (pc_q := 6) (v := .ref 46) rfl rfl rfl rfl ?_
  refine pm_R_lo pm_M177 (pc_q := 7) rfl rfl rfl ?_
  obtain ⟨f10, e11, b12⟩ := T2.2.2.2.1 46 (by decide) (by decide)
  refine rf_R_ild pm_M177 T2 (pc_q := 8) rfl e11 (by decide) rfl rfl (fun z13 ez14 => ?_)
  have B15 : sf_B 0 2 z13 := ez14 ▸ (b12 0)
  refine pm_R_op pm_M177 (pc_q := 9) (st_q := [.int 1, .int z13, .int 0, .int a0]) rfl rfl rfl ?_
  refine sf_R_isub pm_M177 (pc_q := 10) rfl rfl B15 sf_k1 (by decide) (by decide) (fun z16 e17 B18 => ?_)
  refine pm_R_cs pm_M177 (pc_q := 13) (ra := [.int z16, .int 0, .int a0]) (rest := []) (ls_q := [.int a0, .int 0, .int z16]) rfl rfl (Or.inl rfl) pm_M174 rfl rfl (Nat.le_of_ble_eq_true rfl) rfl rfl ?_
  refine pm_R_lo pm_M174 (pc_q := 1) rfl rfl rfl ?_
  refine pm_R_lo pm_M174 (pc_q := 2) rfl rfl rfl ?_
  refine pm_R_icmp pm_M174 (t := 14) (pc_q := 5) rfl rfl rfl (fun c19 => ?_) (fun c19 => ?_)
  · have B20 : sf_B (-2147483648) (-1) a0 := sf_ltL c19 (sf_any a0) sf_k0
    refine pm_R_op pm_M174 (pc_q := 15) (st_q := [.int 0]) rfl rfl rfl ?_
    refine pm_R_ret pm_M174 (r := some (.int 0)) rfl rfl ?_
    show pm_R _ 177 13 [.ref 41, .int 0, .int a0] [.int 0] _ _
    refine pm_R_ret pm_M177 (r := some (.int 0)) rfl rfl ?_
    show pm_R _ 287 11 [.ref 41, .int a0, .int a1, .int a2, pm_no, pm_no, pm_no, pm_no, pm_no, pm_no, pm_no, pm_no, pm_no] [.int 0] _ _
    refine pm_R_br pm_M287 (pc_q := 32) (st_q := []) rfl rfl ?_
    refine pm_R_ldc2 pm_M287 (pc_q := 35) rfl rfl rfl ?_
    exact pm_R_ret pm_M287 (r := some (.long (-1))) rfl rfl (K (-1) m4 w h1 T2 F6 W9)
  · have B21 : sf_B 0 2147483647 a0 := sf_leR (Int32.not_lt.mp c19) sf_k0 (sf_any a0)
    refine pm_R_lo pm_M174 (pc_q := 6) rfl rfl rfl ?_
    refine pm_R_lo pm_M174 (pc_q := 7) rfl rfl rfl ?_
    refine pm_R_icmp pm_M174 (t := 14) (pc_q := 10) rfl rfl rfl (fun c22 => ?_) (fun c22 => ?_)
    · skip
      refine pm_R_op pm_M174 (pc_q := 15) (st_q := [.int 0]) rfl rfl rfl ?_
      refine pm_R_ret pm_M174 (r := some (.int 0)) rfl rfl ?_
      show pm_R _ 177 13 [.ref 41, .int 0, .int a0] [.int 0] _ _
      refine pm_R_ret pm_M177 (r := some (.int 0)) rfl rfl ?_
      show pm_R _ 287 11 [.ref 41, .int a0, .int a1, .int a2, pm_no, pm_no, pm_no, pm_no, pm_no, pm_no, pm_no, pm_no, pm_no] [.int 0] _ _
      refine pm_R_br pm_M287 (pc_q := 32) (st_q := []) rfl rfl ?_
      refine pm_R_ldc2 pm_M287 (pc_q := 35) rfl rfl rfl ?_
      exact pm_R_ret pm_M287 (r := some (.long (-1))) rfl rfl (K (-1) m4 w h1 T2 F6 W9)
    · have B23 : sf_B 0 1 a0 := sf_leL (Int32.not_lt.mp c22) B21 B18
      have B24 : sf_B 0 1 z16 := sf_leR (Int32.not_lt.mp c22) B21 B18
      refine pm_R_op pm_M174 (pc_q := 11) (st_q := [.int 1]) rfl rfl rfl ?_
      refine pm_R_br pm_M174 (pc_q := 15) rfl rfl ?_
      refine pm_R_ret pm_M174 (r := some (.int 1)) rfl rfl ?_
      show pm_R _ 177 13 [.ref 41, .int 0, .int a0] [.int 1] _ _
      refine pm_R_ret pm_M177 (r := some (.int 1)) rfl rfl ?_
      show pm_R _ 287 11 [.ref 41, .int a0, .int a1, .int a2, pm_no, pm_no, pm_no, pm_no, pm_no, pm_no, pm_no, pm_no, pm_no] [.int 1] _ _
      refine pm_R_br pm_M287 (pc_q := 14) (st_q := []) rfl rfl ?_
      refine pm_R_lo pm_M287 (pc_q := 15) rfl rfl rfl ?_
      refine pm_R_op pm_M287 (pc_q := 16) (st_q := [.int 1, .int a1]) rfl rfl rfl ?_
      refine pm_R_op pm_M287 (pc_q := 17) (st_q := [.int 4, .int 1, .int a1]) rfl rfl rfl ?_
      refine pm_R_cs pm_M287 (pc_q := 20) (ra := [.int 4, .int 1, .int a1]) (rest := []) (ls_q := [.int a1, .int 1, .int 4]) rfl rfl (Or.inl rfl) pm_M174 rfl rfl (Nat.le_of_ble_eq_true rfl) rfl rfl ?_
      refine pm_R_lo pm_M174 (pc_q := 1) rfl rfl rfl ?_
      refine pm_R_lo pm_M174 (pc_q := 2) rfl rfl rfl ?_
      refine pm_R_icmp pm_M174 (t := 14) (pc_q := 5) rfl rfl rfl (fun c25 => ?_) (fun c25 => ?_)
      · have B26 : sf_B (-2147483648) 0 a1 := sf_ltL c25 (sf_any a1) sf_k1
        refine pm_R_op pm_M174 (pc_q := 15) (st_q := [.int 0]) rfl rfl rfl ?_
        refine pm_R_ret pm_M174 (r := some (.int 0)) rfl rfl ?_
        show pm_R _ 287 20 [.ref 41, .int a0, .int a1, .int a2, pm_no, pm_no, pm_no, pm_no, pm_no, pm_no, pm_no, pm_no, pm_no] [.int 0] _ _
        refine pm_R_br pm_M287 (pc_q := 32) (st_q := []) rfl rfl ?_
        refine pm_R_ldc2 pm_M287 (pc_q := 35) rfl rfl rfl ?_
        exact pm_R_ret pm_M287 (r := some (.long (-1))) rfl rfl (K (-1) m4 w h1 T2 F6 W9)
      · have B27 : sf_B 1 2147483647 a1 := sf_leR (Int32.not_lt.mp c25) sf_k1 (sf_any a1)
        refine pm_R_lo pm_M174 (pc_q := 6) rfl rfl rfl ?_
        refine pm_R_lo pm_M174 (pc_q := 7) rfl rfl rfl ?_
        refine pm_R_icmp pm_M174 (t := 14) (pc_q := 10) rfl rfl rfl (fun c28 => ?_) (fun c28 => ?_)
        · have B29 : sf_B 5 2147483647 a1 := sf_ltR c28 sf_k4 B27
          refine pm_R_op pm_M174 (pc_q := 15) (st_q := [.int 0]) rfl rfl rfl ?_
          refine pm_R_ret pm_M174 (r := some (.int 0)) rfl rfl ?_
          show pm_R _ 287 20 [.ref 41, .int a0, .int a1, .int a2, pm_no, pm_no, pm_no, pm_no, pm_no, pm_no, pm_no, pm_no, pm_no] [.int 0] _ _
          refine pm_R_br pm_M287 (pc_q := 32) (st_q := []) rfl rfl ?_
          refine pm_R_ldc2 pm_M287 (pc_q := 35) rfl rfl rfl ?_
          exact pm_R_ret pm_M287 (r := some (.long (-1))) rfl rfl (K (-1) m4 w h1 T2 F6 W9)
        · have B30 : sf_B 1 4 a1 := sf_leL (Int32.not_lt.mp c28) B27 sf_k4
          refine pm_R_op pm_M174 (pc_q := 11) (st_q := [.int 1]) rfl rfl rfl ?_
          refine pm_R_br pm_M174 (pc_q := 15) rfl rfl ?_
          refine pm_R_ret pm_M174 (r := some (.int 1)) rfl rfl ?_
          show pm_R _ 287 20 [.ref 41, .int a0, .int a1, .int a2, pm_no, pm_no, pm_no, pm_no, pm_no, pm_no, pm_no, pm_no, pm_no] [.int 1] _ _
          refine pm_R_br pm_M287 (pc_q := 23) (st_q := []) rfl rfl ?_
          refine pm_R_lo pm_M287 (pc_q := 24) rfl rfl rfl ?_
          refine pm_R_op pm_M287 (pc_q := 25) (st_q := [.int 0, .int a2]) rfl rfl rfl ?_
          refine pm_R_op pm_M287 (pc_q := 26) (st_q := [.int 2, .int 0, .int a2]) rfl rfl rfl ?_
          refine pm_R_cs pm_M287 (pc_q := 29) (ra := [.int 2, .int 0, .int a2]) (rest := []) (ls_q := [.int a2, .int 0, .int 2]) rfl rfl (Or.inl rfl) pm_M174 rfl rfl (Nat.le_of_ble_eq_true rfl) rfl rfl ?_
          refine pm_R_lo pm_M174 (pc_q := 1) rfl rfl rfl ?_
          refine pm_R_lo pm_M174 (pc_q := 2) rfl rfl rfl ?_
          refine pm_R_icmp pm_M174 (t := 14) (pc_q := 5) rfl rfl rfl (fun c31 => ?_) (fun c31 => ?_)
          · have B32 : sf_B (-2147483648) (-1) a2 := sf_ltL c31 (sf_any a2) sf_k0
            refine pm_R_op pm_M174 (pc_q := 15) (st_q := [.int 0]) rfl rfl rfl ?_
            refine pm_R_ret pm_M174 (r := some (.int 0)) rfl rfl ?_
            show pm_R _ 287 29 [.ref 41, .int a0, .int a1, .int a2, pm_no, pm_no, pm_no, pm_no, pm_no, pm_no, pm_no, pm_no, pm_no] [.int 0] _ _
            refine pm_R_br pm_M287 (pc_q := 32) (st_q := []) rfl rfl ?_
            refine pm_R_ldc2 pm_M287 (pc_q := 35) rfl rfl rfl ?_
            exact pm_R_ret pm_M287 (r := some (.long (-1))) rfl rfl (K (-1) m4 w h1 T2 F6 W9)
          · have B33 : sf_B 0 2147483647 a2 := sf_leR (Int32.not_lt.mp c31) sf_k0 (sf_any a2)
            refine pm_R_lo pm_M174 (pc_q := 6) rfl rfl rfl ?_
            refine pm_R_lo pm_M174 (pc_q := 7) rfl rfl rfl ?_
            refine pm_R_icmp pm_M174 (t := 14) (pc_q := 10) rfl rfl rfl (fun c34 => ?_) (fun c34 => ?_)
            · have B35 : sf_B 3 2147483647 a2 := sf_ltR c34 sf_k2 B33
              refine pm_R_op pm_M174 (pc_q := 15) (st_q := [.int 0]) rfl rfl rfl ?_
              refine pm_R_ret pm_M174 (r := some (.int 0)) rfl rfl ?_
              show pm_R _ 287 29 [.ref 41, .int a0, .int a1, .int a2, pm_no, pm_no, pm_no, pm_no, pm_no, pm_no, pm_no, pm_no, pm_no] [.int 0] _ _
              refine pm_R_br pm_M287 (pc_q := 32) (st_q := []) rfl rfl ?_
              refine pm_R_ldc2 pm_M287 (pc_q := 35) rfl rfl rfl ?_
              exact pm_R_ret pm_M287 (r := some (.long (-1))) rfl rfl (K (-1) m4 w h1 T2 F6 W9)
            · have B36 : sf_B 0 2 a2 := sf_leL (Int32.not_lt.mp c34) B33 sf_k2
              refine pm_R_op pm_M174 (pc_q := 11) (st_q := [.int 1]) rfl rfl rfl ?_
              refine pm_R_br pm_M174 (pc_q := 15) rfl rfl ?_
              refine pm_R_ret pm_M174 (r := some (.int 1)) rfl rfl ?_
              show pm_R _ 287 29 [.ref 41, .int a0, .int a1, .int a2, pm_no, pm_no, pm_no, pm_no, pm_no, pm_no, pm_no, pm_no, pm_no] [.int 1] _ _
              refine pm_R_br pm_M287 (pc_q := 36) (st_q := []) rfl rfl ?_
              refine pm_R_lo pm_M287 (pc_q := 37) rfl rfl rfl ?_
              refine pm_R_lo pm_M287 (pc_q := 38) rfl rfl rfl ?_
              refine rf_R_put pm_M287 T2 (pc_q := 41) rfl rfl rfl (by decide) rfl rfl B23 rfl rfl (fun h37 m40 em41 T38 F39 => ?_)
              have F42 := F6.trans F39 (by decide)
              have B43 : sf_B 0 1 (m40 23) := by rw [em41]; exact B23
              have ek44 : (m40 23).toInt = (a0).toInt := by rw [em41]; rfl
              have W45 : rf_W [0, 23, 24, 26] m m40 := by rw [em41]; exact W9.put (by decide)
              refine pm_R_op pm_M287 (pc_q := 42) (st_q := [.long 0]) rfl rfl rfl ?_
              refine pm_R_lo pm_M287 (pc_q := 44) (ls_q := [.ref 41, .int a0, .int a1, .int a2, .long 0, pm_no, pm_no, pm_no, pm_no, pm_no, pm_no, pm_no, pm_no]) (st_q := []) rfl rfl rfl ?_
              refine pm_R_op pm_M287 (pc_q := 45) (st_q := [.long 0]) rfl rfl rfl ?_
              refine pm_R_lo pm_M287 (pc_q := 47) (ls_q := [.ref 41, .int a0, .int a1, .int a2, .long 0, pm_no, .long 0, pm_no, pm_no, pm_no, pm_no, pm_no, pm_no]) (st_q := []) rfl rfl rfl ?_
              refine pm_R_op pm_M287 (pc_q := 48) (st_q := [.long 0]) rfl rfl rfl ?_
              refine pm_R_lo pm_M287 (pc_q := 50) (ls_q := [.ref 41, .int a0, .int a1, .int a2, .long 0, pm_no, .long 0, pm_no, .long 0, pm_no, pm_no, pm_no, pm_no]) (st_q := []) rfl rfl rfl ?_
              refine pm_R_op pm_M287 (pc_q := 51) (st_q := [.int 0]) rfl rfl rfl ?_
              refine pm_R_lo pm_M287 (pc_q := 53) (ls_q := [.ref 41, .int a0, .int a1, .int a2, .long 0, pm_no, .long 0, pm_no, .long 0, pm_no, .int 0, pm_no, pm_no]) (st_q := []) rfl rfl rfl ?_
              have L_783 : ∀ (N : Nat) (h_783 : pm_H) (m_783 : Nat → Int32) (w_783 : Int64) (x10_783 : Int32) (y4_783 : Int64) (y6_783 : Int64) (y8_783 : Int64) (g11_783 : Value) (g12_783 : Value), rf_T m_783 w_783 h_783 → rf_G [41, 53, 55] h h_783 → rf_W [24, 26] m40 m_783 → sf_B 0 2147483647 x10_783 → lf_B 0 1000000000000 y8_783 → g12_783.category = 1 → (2147483647 - x10_783.toInt).toNat = N → pm_R (d + 5) 287 53 [.ref 41, .int a0, .int a1, .int a2, .long y4_783, pm_no, .long y6_783, pm_no, .long y8_783, pm_no, .int x10_783, g11_783, g12_783] [] h_783 Q := by
                intro N
                induction N using Nat.strongRecOn with
                | ind N ih_783 =>
                  intro h_783 m_783 w_783 x10_783 y4_783 y6_783 y8_783 g11_783 g12_783 T_783 F_783 W_783 Bx10_783 By8_783 Cg12_783 hN_783
                  have W786 : rf_W [0, 23, 24, 26] m m_783 := W45.trans W_783 (by decide)
                  refine pm_R_lo pm_M287 (pc_q := 55) rfl rfl rfl ?_
                  refine pm_R_lo pm_M287 (pc_q := 56) rfl rfl rfl ?_
                  refine pm_R_cs pm_M287 (pc_q := 59) (ra := [.int a1]) (rest := [.int x10_783]) (ls_q := [.int a1, pm_no, pm_no]) rfl rfl (Or.inl rfl) pm_M242 rfl rfl (Nat.le_of_ble_eq_true rfl) rfl rfl ?_
                  refine rf_c242 (d := d + 4) (sf_weak B30 (by decide) (by decide)) (fun r787 => ?_)
                  show pm_R _ 287 59 [.ref 41, .int a0, .int a1, .int a2, .long y4_783, pm_no, .long y6_783, pm_no, .long y8_783, pm_no, .int x10_783, g11_783, g12_783] [.int r787, .int x10_783] _ _
                  refine pm_R_icmp pm_M287 (t := 145) (pc_q := 62) rfl rfl rfl (fun c795 => ?_) (fun c795 => ?_)
                  · skip
                    refine pm_R_lo pm_M287 (pc_q := 146) (pm_q287_1 (Nat.le_of_ble_eq_true rfl)) rfl rfl ?_
                    refine pm_R_ifc pm_M287 (t := 154) (pc_q := 149) (pm_q287_1 (Nat.le_of_ble_eq_true rfl)) rfl rfl (fun c796 => ?_) (fun c796 => ?_)
                    · have B797 : sf_B 1 2 a2 := sf_neL0 c796 sf_k0 B36
                      refine pm_R_lo pm_M287 (pc_q := 155) (pm_q287_1 (Nat.le_of_ble_eq_true rfl)) rfl rfl ?_
                      refine pm_R_op pm_M287 (pc_q := 156) (st_q := [.int 1, .int a2]) (pm_q287_1 (Nat.le_of_ble_eq_true rfl)) rfl rfl ?_
                      refine pm_R_icmp pm_M287 (t := 164) (pc_q := 159) (pm_q287_1 (Nat.le_of_ble_eq_true rfl)) rfl rfl (fun c798 => ?_) (fun c798 => ?_)
                      · have B799 : sf_B 2 2 a2 := sf_neL0 c798 sf_k1 B797
                        refine pm_R_lo pm_M287 (pc_q := 166) (pm_q287_1 (Nat.le_of_ble_eq_true rfl)) rfl rfl ?_
                        exact pm_R_ret pm_M287 (r := some (.long y8_783)) (pm_q287_1 (Nat.le_of_ble_eq_true rfl)) rfl (K y8_783 m_783 w_783 h_783 T_783 F_783 W786)
                      · have B800 : sf_B 1 1 a2 := sf_eqL (Classical.not_not.mp c798) sf_k1
                        refine pm_R_lo pm_M287 (pc_q := 161) (pm_q287_1 (Nat.le_of_ble_eq_true rfl)) rfl rfl ?_
                        refine pm_R_br pm_M287 (pc_q := 166) (pm_q287_1 (Nat.le_of_ble_eq_true rfl)) rfl ?_
                        exact pm_R_ret pm_M287 (r := some (.long y6_783)) (pm_q287_1 (Nat.le_of_ble_eq_true rfl)) rfl (K y6_783 m_783 w_783 h_783 T_783 F_783 W786)
                    · have B801 : sf_B 0 0 a2 := sf_eqL (Classical.not_not.mp c796) sf_k0
                      refine pm_R_lo pm_M287 (pc_q := 151) (pm_q287_1 (Nat.le_of_ble_eq_true rfl)) rfl rfl ?_
                      refine pm_R_br pm_M287 (pc_q := 166) (pm_q287_1 (Nat.le_of_ble_eq_true rfl)) rfl ?_
                      exact pm_R_ret pm_M287 (r := some (.long y4_783)) (pm_q287_1 (Nat.le_of_ble_eq_true rfl)) rfl (K y4_783 m_783 w_783 h_783 T_783 F_783 W786)
                  · have B802 : sf_B 0 2147483646 x10_783 := sf_ltL (Int32.not_le.mp c795) Bx10_783 (sf_any r787)
                    have B803 : sf_B 1 2147483647 r787 := sf_ltR (Int32.not_le.mp c795) Bx10_783 (sf_any r787)
                    refine pm_R_lo pm_M287 (pc_q := 63) rfl rfl rfl ?_
                    refine pm_R_lo pm_M287 (pc_q := 64) rfl rfl rfl ?_
                    refine pm_R_lo pm_M287 (pc_q := 66) rfl rfl rfl ?_
                    refine pm_R_cv pm_M287 (pc_q := 69) (a := 41) (ra := [.int x10_783, .int a1]) (rest := []) (ls_q := [.ref 41, .int a1, .int x10_783, pm_no, pm_no]) rfl rfl (Or.inl rfl) pm_M244 T_783.2.1 rfl (by decide) (Nat.lt_of_lt_of_le (by decide) T_783.1) rfl rfl (Nat.le_of_ble_eq_true rfl) rfl rfl ?_
                    refine rf_c244 (d := d + 4) T_783 B30 (sf_weak B802 (by decide) (by decide)) (fun m806 w807 h808 T809 F810 W811 B812 => ?_)
                    have F813 := F_783.trans F810 (by decide)
                    have W814 : rf_W [0, 23, 24, 26] m m806 := W786.trans W811 (by decide)
                    have W815 : rf_W [24, 26] m40 m806 := W_783.trans W811 (by decide)
                    show pm_R _ 287 69 [.ref 41, .int a0, .int a1, .int a2, .long y4_783, pm_no, .long y6_783, pm_no, .long y8_783, pm_no, .int x10_783, g11_783, g12_783] [] _ _
                    refine pm_R_lo pm_M287 (pc_q := 70) rfl rfl rfl ?_
                    refine pm_R_cv pm_M287 (pc_q := 73) (a := 41) (ra := []) (rest := []) (ls_q := [.ref 41, pm_no, pm_no, pm_no, pm_no, pm_no]) rfl rfl (Or.inl rfl) pm_M202 T809.2.1 rfl (by decide) (Nat.lt_of_lt_of_le (by decide) T809.1) rfl rfl (Nat.le_of_ble_eq_true rfl) rfl rfl ?_
                    refine rf_c202 (d := d + 0) T809  (fun m818 w819 h820 T821 F822 W823 => ?_)
                    have F824 := F813.trans F822 (by decide)
                    have B825 : sf_B 1 4 (m818 24) := by rw [W823 24 (by decide)]; exact B812
                    have W826 : rf_W [0, 23, 24, 26] m m818 := W814.trans W823 (by decide)
                    have W827 : rf_W [24, 26] m40 m818 := W815.trans W823 (by decide)
                    show pm_R _ 287 73 [.ref 41, .int a0, .int a1, .int a2, .long y4_783, pm_no, .long y6_783, pm_no, .long y8_783, pm_no, .int x10_783, g11_783, g12_783] [] _ _
                    refine pm_R_lo pm_M287 (pc_q := 74) rfl rfl rfl ?_
                    refine rf_R_get pm_M287 T821 (pc_q := 77) (v := .ref 55) rfl rfl rfl rfl ?_
                    refine pm_R_op pm_M287 (pc_q := 78) (st_q := [.int 0, .ref 55]) rfl rfl rfl ?_
                    refine pm_R_op pm_M287 (pc_q := 79) (st_q := [.int 0, .int 0, .ref 55]) rfl rfl rfl ?_
                    refine pm_R_lo pm_M287 (pc_q := 80) rfl rfl rfl ?_
                    refine pm_R_op pm_M287 (pc_q := 81) (st_q := [.int 1, .int a1, .int 0, .int 0, .ref 55]) rfl rfl rfl ?_
                    refine sf_R_isub pm_M287 (pc_q := 82) rfl rfl B30 sf_k1 (by decide) (by decide) (fun z828 e829 B830 => ?_)
                    refine pm_R_cs pm_M287 (pc_q := 85) (ra := [.int z828, .int 0, .int 0]) (rest := [.ref 55]) (ls_q := [.int 0, .int 0, .int z828]) rfl rfl (Or.inl rfl) pm_M207 rfl rfl (Nat.le_of_ble_eq_true rfl) rfl rfl ?_
                    refine pm_R_op pm_M207 (pc_q := 3) (st_q := [.int 144]) rfl rfl rfl ?_
                    refine pm_R_lo pm_M207 (pc_q := 4) rfl rfl rfl ?_
                    refine pm_R_op pm_M207 (pc_q := 5) (st_q := [.int 0]) rfl rfl rfl ?_
                    refine pm_R_op pm_M207 (pc_q := 7) (st_q := [.int 12, .int 0]) rfl rfl rfl ?_
                    refine pm_R_lo pm_M207 (pc_q := 8) rfl rfl rfl ?_
                    refine pm_R_op pm_M207 (pc_q := 9) (st_q := [.int 0, .int 0]) rfl rfl rfl ?_
                    refine pm_R_op pm_M207 (pc_q := 10) (st_q := [.int 0]) rfl rfl rfl ?_
                    refine pm_R_lo pm_M207 (pc_q := 11) rfl rfl rfl ?_
                    refine sf_R_iadd pm_M207 (pc_q := 12) rfl rfl sf_k0 B830 (by decide) (by decide) (fun z831 e832 B833 => ?_)
                    refine pm_R_ret pm_M207 (r := some (.int z831)) rfl (pm_ret_i _) ?_
                    show pm_R _ 287 85 [.ref 41, .int a0, .int a1, .int a2, .long y4_783, pm_no, .long y6_783, pm_no, .long y8_783, pm_no, .int x10_783, g11_783, g12_783] [.int z831, .ref 55] _ _
                    obtain ⟨f834, e835, b836⟩ := T821.2.2.2.1 55 (by decide) (by decide)
                    refine rf_R_lld pm_M287 T821 (pc_q := 86) rfl e835 (by decide) (by decide) (sf_in B833 (by decide) (by decide)) rfl (fun z837 ez838 => ?_)
                    have B839 : lf_B 0 1000000000000 z837 := ez838 ▸ b836 _
                    refine pm_R_lo pm_M287 (pc_q := 88) (ls_q := [.ref 41, .int a0, .int a1, .int a2, .long y4_783, pm_no, .long y6_783, pm_no, .long y8_783, pm_no, .int x10_783, .long z837, pm_no]) (st_q := []) rfl rfl rfl ?_
                    refine pm_R_lo pm_M287 (pc_q := 90) rfl rfl rfl ?_
                    refine pm_R_lo pm_M287 (pc_q := 92) rfl rfl rfl ?_
                    refine pm_R_op pm_M287 (pc_q := 93) (st_q := [.long 0, .long z837, .long y4_783]) rfl rfl rfl ?_
                    refine sf_R_lcmp pm_M287 (pc_q := 94) rfl rfl (fun z840 e841 => ?_)
                    have B842 : sf_B 0 2147483647 z840 := sf_leR (Int32.not_lt.mp (lf_cmpGe e841 B839 (⟨by decide, by decide⟩ : lf_B 0 0 0) (by decide))) sf_k0 (sf_any z840)
                    refine pm_R_ifc pm_M287 (t := 101) (pc_q := 97) rfl rfl rfl (fun c843 => ?_) (fun c843 => ?_)
                    · have B844 : sf_B 0 0 z840 := sf_leL c843 B842 sf_k0
                      have B845 : lf_B 0 0 z837 := lf_eqB e841 B844 (⟨by decide, by decide⟩ : lf_B 0 0 0)
                      refine pm_R_op pm_M287 (pc_q := 102) (st_q := [.long 0, .long y4_783]) rfl rfl rfl ?_
                      refine sf_R_lany pm_M287 (pc_q := 103) (st := []) rfl rfl rfl (fun z846 => ?_)
                      refine pm_R_lo pm_M287 (pc_q := 105) (ls_q := [.ref 41, .int a0, .int a1, .int a2, .long z846, pm_no, .long y6_783, pm_no, .long y8_783, pm_no, .int x10_783, .long z837, pm_no]) (st_q := []) (pm_q287_1 (Nat.le_of_ble_eq_true rfl)) rfl rfl ?_
                      refine pm_R_lo pm_M287 (pc_q := 107) (pm_q287_1 (Nat.le_of_ble_eq_true rfl)) rfl rfl ?_
                      refine pm_R_lo pm_M287 (pc_q := 109) (pm_q287_1 (Nat.le_of_ble_eq_true rfl)) rfl rfl ?_
                      refine pm_R_op pm_M287 (pc_q := 110) (st_q := [.long 1, .long z837, .long y6_783]) (pm_q287_1 (Nat.le_of_ble_eq_true rfl)) rfl rfl ?_
                      refine sf_R_lcmp pm_M287 (pc_q := 111) (pm_q287_1 (Nat.le_of_ble_eq_true rfl)) rfl (fun z847 e848 => ?_)
                      have B849 : sf_B (-2147483648) (-1) z847 := lf_cmpLt e848 B845 (⟨by decide, by decide⟩ : lf_B 1 1 1) (by decide)
                      refine pm_R_ifc pm_M287 (t := 118) (pc_q := 114) (pm_q287_1 (Nat.le_of_ble_eq_true rfl)) rfl rfl (fun c850 => ?_) (fun c850 => absurd (Classical.not_not.mp c850) (sf_neq2 B849 sf_k0 (by decide)))
                      have k851 := sf_lneC e848 c850
                      refine pm_R_op pm_M287 (pc_q := 119) (st_q := [.long 0, .long y6_783]) (pm_q287_1 (Nat.le_of_ble_eq_true rfl)) rfl rfl ?_
                      refine sf_R_lany pm_M287 (pc_q := 120) (st := []) (pm_q287_1 (Nat.le_of_ble_eq_true rfl)) rfl rfl (fun z852 => ?_)
                      refine pm_R_lo pm_M287 (pc_q := 122) (ls_q := [.ref 41, .int a0, .int a1, .int a2, .long z846, pm_no, .long z852, pm_no, .long y8_783, pm_no, .int x10_783, .long z837, pm_no]) (st_q := []) (pm_q287_1 (Nat.le_of_ble_eq_true rfl)) rfl rfl ?_
                      refine pm_R_lo pm_M287 (pc_q := 124) (pm_q287_1 (Nat.le_of_ble_eq_true rfl)) rfl rfl ?_
                      refine pm_R_lo pm_M287 (pc_q := 126) (pm_q287_1 (Nat.le_of_ble_eq_true rfl)) rfl rfl ?_
                      refine sf_R_lcmp pm_M287 (pc_q := 127) (pm_q287_1 (Nat.le_of_ble_eq_true rfl)) rfl (fun z853 e854 => ?_)
                      have B855 : sf_B (-2147483648) 0 z853 := sf_leL (Int32.not_lt.mp (lf_cmpLe e854 B845 By8_783 (by decide))) (sf_any z853) sf_k0
                      refine pm_R_ifc pm_M287 (t := 135) (pc_q := 130) (pm_q287_1 (Nat.le_of_ble_eq_true rfl)) rfl rfl (fun c856 => ?_) (fun c856 => absurd (Int32.not_le.mp c856) (sf_nlt sf_k0 B855 (by decide)))
                      skip
                      refine pm_R_lo pm_M287 (pc_q := 137) (pm_q287_1 (Nat.le_of_ble_eq_true rfl)) rfl rfl ?_
                      refine pm_R_lo pm_M287 (pc_q := 139) (ls_q := [.ref 41, .int a0, .int a1, .int a2, .long z846, pm_no, .long z852, pm_no, .long y8_783, pm_no, .int x10_783, .long z837, pm_no]) (st_q := []) (pm_q287_1 (Nat.le_of_ble_eq_true rfl)) rfl rfl ?_
                      refine sf_R_iinc pm_M287 (pc_q := 142) (ls_q := fun z => [.ref 41, .int a0, .int a1, .int a2, .long z846, pm_no, .long z852, pm_no, .long y8_783, pm_no, .int z, .long z837, pm_no]) (pm_q287_1 (Nat.le_of_ble_eq_true rfl)) B802 rfl (by decide) (by decide) (by decide) (fun _ => rfl) rfl (fun z857 e858 B859 => ?_)
                      show pm_R _ 287 142 [.ref 41, .int a0, .int a1, .int a2, .long z846, pm_no, .long z852, pm_no, .long y8_783, pm_no, .int z857, .long z837, pm_no] [] _ _
                      refine pm_R_br pm_M287 (pc_q := 53) (pm_q287_1 (Nat.le_of_ble_eq_true rfl)) rfl ?_
                      exact ih_783 _ (sf_up hN_783 e858 B802 (by decide) (by decide)) h820 m818 w819 z857 z846 z852 y8_783 (.long z837) (pm_no) T821 F824 W827 (sf_weak B859 (by decide) (by decide)) By8_783 rfl rfl
                    · have B860 : sf_B 1 2147483647 z840 := sf_ltR (Int32.not_le.mp c843) sf_k0 B842
                      have k861 := lf_ge e841 B860 (by decide)
                      have k862 := sf_lneA e841 B860 (by decide)
                      refine pm_R_op pm_M287 (pc_q := 98) (st_q := [.long 1, .long y4_783]) rfl rfl rfl ?_
                      refine pm_R_br pm_M287 (pc_q := 102) rfl rfl ?_
                      refine sf_R_lany pm_M287 (pc_q := 103) (st := []) rfl rfl rfl (fun z863 => ?_)
                      refine pm_R_lo pm_M287 (pc_q := 105) (ls_q := [.ref 41, .int a0, .int a1, .int a2, .long z863, pm_no, .long y6_783, pm_no, .long y8_783, pm_no, .int x10_783, .long z837, pm_no]) (st_q := []) (pm_q287_1 (Nat.le_of_ble_eq_true rfl)) rfl rfl ?_
                      refine pm_R_lo pm_M287 (pc_q := 107) (pm_q287_1 (Nat.le_of_ble_eq_true rfl)) rfl rfl ?_
                      refine pm_R_lo pm_M287 (pc_q := 109) (pm_q287_1 (Nat.le_of_ble_eq_true rfl)) rfl rfl ?_
                      refine pm_R_op pm_M287 (pc_q := 110) (st_q := [.long 1, .long z837, .long y6_783]) (pm_q287_1 (Nat.le_of_ble_eq_true rfl)) rfl rfl ?_
                      refine sf_R_lcmp pm_M287 (pc_q := 111) (pm_q287_1 (Nat.le_of_ble_eq_true rfl)) rfl (fun z864 e865 => ?_)
                      refine pm_R_ifc pm_M287 (t := 118) (pc_q := 114) (pm_q287_1 (Nat.le_of_ble_eq_true rfl)) rfl rfl (fun c866 => ?_) (fun c866 => ?_)
                      · have k867 := sf_lneC e865 c866
                        refine pm_R_op pm_M287 (pc_q := 119) (st_q := [.long 0, .long y6_783]) (pm_q287_1 (Nat.le_of_ble_eq_true rfl)) rfl rfl ?_
                        refine sf_R_lany pm_M287 (pc_q := 120) (st := []) (pm_q287_1 (Nat.le_of_ble_eq_true rfl)) rfl rfl (fun z868 => ?_)
                        refine pm_R_lo pm_M287 (pc_q := 122) (ls_q := [.ref 41, .int a0, .int a1, .int a2, .long z863, pm_no, .long z868, pm_no, .long y8_783, pm_no, .int x10_783, .long z837, pm_no]) (st_q := []) (pm_q287_1 (Nat.le_of_ble_eq_true rfl)) rfl rfl ?_
                        refine pm_R_lo pm_M287 (pc_q := 124) (pm_q287_1 (Nat.le_of_ble_eq_true rfl)) rfl rfl ?_
                        refine pm_R_lo pm_M287 (pc_q := 126) (pm_q287_1 (Nat.le_of_ble_eq_true rfl)) rfl rfl ?_
                        refine sf_R_lcmp pm_M287 (pc_q := 127) (pm_q287_1 (Nat.le_of_ble_eq_true rfl)) rfl (fun z869 e870 => ?_)
                        refine pm_R_ifc pm_M287 (t := 135) (pc_q := 130) (pm_q287_1 (Nat.le_of_ble_eq_true rfl)) rfl rfl (fun c871 => ?_) (fun c871 => ?_)
                        · have B872 : sf_B (-2147483648) 0 z869 := sf_leL c871 (sf_any z869) sf_k0
                          refine pm_R_lo pm_M287 (pc_q := 137) (pm_q287_1 (Nat.le_of_ble_eq_true rfl)) rfl rfl ?_
                          refine pm_R_lo pm_M287 (pc_q := 139) (ls_q := [.ref 41, .int a0, .int a1, .int a2, .long z863, pm_no, .long z868, pm_no, .long y8_783, pm_no, .int x10_783, .long z837, pm_no]) (st_q := []) (pm_q287_1 (Nat.le_of_ble_eq_true rfl)) rfl rfl ?_
                          refine sf_R_iinc pm_M287 (pc_q := 142) (ls_q := fun z => [.ref 41, .int a0, .int a1, .int a2, .long z863, pm_no, .long z868, pm_no, .long y8_783, pm_no, .int z, .long z837, pm_no]) (pm_q287_1 (Nat.le_of_ble_eq_true rfl)) B802 rfl (by decide) (by decide) (by decide) (fun _ => rfl) rfl (fun z873 e874 B875 => ?_)
                          show pm_R _ 287 142 [.ref 41, .int a0, .int a1, .int a2, .long z863, pm_no, .long z868, pm_no, .long y8_783, pm_no, .int z873, .long z837, pm_no] [] _ _
                          refine pm_R_br pm_M287 (pc_q := 53) (pm_q287_1 (Nat.le_of_ble_eq_true rfl)) rfl ?_
                          exact ih_783 _ (sf_up hN_783 e874 B802 (by decide) (by decide)) h820 m818 w819 z873 z863 z868 y8_783 (.long z837) (pm_no) T821 F824 W827 (sf_weak B875 (by decide) (by decide)) By8_783 rfl rfl
                        · have B876 : sf_B 1 2147483647 z869 := sf_ltR (Int32.not_le.mp c871) sf_k0 (sf_any z869)
                          have k877 := lf_ge e870 B876 (by decide)
                          have k878 := sf_lneA e870 B876 (by decide)
                          refine pm_R_lo pm_M287 (pc_q := 132) (pm_q287_1 (Nat.le_of_ble_eq_true rfl)) rfl rfl ?_
                          refine pm_R_br pm_M287 (pc_q := 137) (pm_q287_1 (Nat.le_of_ble_eq_true rfl)) rfl ?_
                          refine pm_R_lo pm_M287 (pc_q := 139) (ls_q := [.ref 41, .int a0, .int a1, .int a2, .long z863, pm_no, .long z868, pm_no, .long z837, pm_no, .int x10_783, .long z837, pm_no]) (st_q := []) (pm_q287_1 (Nat.le_of_ble_eq_true rfl)) rfl rfl ?_
                          refine sf_R_iinc pm_M287 (pc_q := 142) (ls_q := fun z => [.ref 41, .int a0, .int a1, .int a2, .long z863, pm_no, .long z868, pm_no, .long z837, pm_no, .int z, .long z837, pm_no]) (pm_q287_1 (Nat.le_of_ble_eq_true rfl)) B802 rfl (by decide) (by decide) (by decide) (fun _ => rfl) rfl (fun z879 e880 B881 => ?_)
                          show pm_R _ 287 142 [.ref 41, .int a0, .int a1, .int a2, .long z863, pm_no, .long z868, pm_no, .long z837, pm_no, .int z879, .long z837, pm_no] [] _ _
                          refine pm_R_br pm_M287 (pc_q := 53) (pm_q287_1 (Nat.le_of_ble_eq_true rfl)) rfl ?_
                          exact ih_783 _ (sf_up hN_783 e880 B802 (by decide) (by decide)) h820 m818 w819 z879 z863 z868 z837 (.long z837) (pm_no) T821 F824 W827 (sf_weak B881 (by decide) (by decide)) B839 rfl rfl
                      · have B882 : sf_B 0 0 z864 := sf_eqL (Classical.not_not.mp c866) sf_k0
                        have B883 : lf_B 1 1 z837 := lf_eqB e865 B882 (⟨by decide, by decide⟩ : lf_B 1 1 1)
                        refine pm_R_op pm_M287 (pc_q := 115) (st_q := [.long 1, .long y6_783]) (pm_q287_1 (Nat.le_of_ble_eq_true rfl)) rfl rfl ?_
                        refine pm_R_br pm_M287 (pc_q := 119) (pm_q287_1 (Nat.le_of_ble_eq_true rfl)) rfl ?_
                        refine sf_R_lany pm_M287 (pc_q := 120) (st := []) (pm_q287_1 (Nat.le_of_ble_eq_true rfl)) rfl rfl (fun z884 => ?_)
                        refine pm_R_lo pm_M287 (pc_q := 122) (ls_q := [.ref 41, .int a0, .int a1, .int a2, .long z863, pm_no, .long z884, pm_no, .long y8_783, pm_no, .int x10_783, .long z837, pm_no]) (st_q := []) (pm_q287_1 (Nat.le_of_ble_eq_true rfl)) rfl rfl ?_
                        refine pm_R_lo pm_M287 (pc_q := 124) (pm_q287_1 (Nat.le_of_ble_eq_true rfl)) rfl rfl ?_
                        refine pm_R_lo pm_M287 (pc_q := 126) (pm_q287_1 (Nat.le_of_ble_eq_true rfl)) rfl rfl ?_
                        refine sf_R_lcmp pm_M287 (pc_q := 127) (pm_q287_1 (Nat.le_of_ble_eq_true rfl)) rfl (fun z885 e886 => ?_)
                        refine pm_R_ifc pm_M287 (t := 135) (pc_q := 130) (pm_q287_1 (Nat.le_of_ble_eq_true rfl)) rfl rfl (fun c887 => ?_) (fun c887 => ?_)
                        · have B888 : sf_B (-2147483648) 0 z885 := sf_leL c887 (sf_any z885) sf_k0
                          refine pm_R_lo pm_M287 (pc_q := 137) (pm_q287_1 (Nat.le_of_ble_eq_true rfl)) rfl rfl ?_
                          refine pm_R_lo pm_M287 (pc_q := 139) (ls_q := [.ref 41, .int a0, .int a1, .int a2, .long z863, pm_no, .long z884, pm_no, .long y8_783, pm_no, .int x10_783, .long z837, pm_no]) (st_q := []) (pm_q287_1 (Nat.le_of_ble_eq_true rfl)) rfl rfl ?_
                          refine sf_R_iinc pm_M287 (pc_q := 142) (ls_q := fun z => [.ref 41, .int a0, .int a1, .int a2, .long z863, pm_no, .long z884, pm_no, .long y8_783, pm_no, .int z, .long z837, pm_no]) (pm_q287_1 (Nat.le_of_ble_eq_true rfl)) B802 rfl (by decide) (by decide) (by decide) (fun _ => rfl) rfl (fun z889 e890 B891 => ?_)
                          show pm_R _ 287 142 [.ref 41, .int a0, .int a1, .int a2, .long z863, pm_no, .long z884, pm_no, .long y8_783, pm_no, .int z889, .long z837, pm_no] [] _ _
                          refine pm_R_br pm_M287 (pc_q := 53) (pm_q287_1 (Nat.le_of_ble_eq_true rfl)) rfl ?_
                          exact ih_783 _ (sf_up hN_783 e890 B802 (by decide) (by decide)) h820 m818 w819 z889 z863 z884 y8_783 (.long z837) (pm_no) T821 F824 W827 (sf_weak B891 (by decide) (by decide)) By8_783 rfl rfl
                        · have B892 : sf_B 1 2147483647 z885 := sf_ltR (Int32.not_le.mp c887) sf_k0 (sf_any z885)
                          have k893 := lf_ge e886 B892 (by decide)
                          have k894 := sf_lneA e886 B892 (by decide)
                          refine pm_R_lo pm_M287 (pc_q := 132) (pm_q287_1 (Nat.le_of_ble_eq_true rfl)) rfl rfl ?_
                          refine pm_R_br pm_M287 (pc_q := 137) (pm_q287_1 (Nat.le_of_ble_eq_true rfl)) rfl ?_
                          refine pm_R_lo pm_M287 (pc_q := 139) (ls_q := [.ref 41, .int a0, .int a1, .int a2, .long z863, pm_no, .long z884, pm_no, .long z837, pm_no, .int x10_783, .long z837, pm_no]) (st_q := []) (pm_q287_1 (Nat.le_of_ble_eq_true rfl)) rfl rfl ?_
                          refine sf_R_iinc pm_M287 (pc_q := 142) (ls_q := fun z => [.ref 41, .int a0, .int a1, .int a2, .long z863, pm_no, .long z884, pm_no, .long z837, pm_no, .int z, .long z837, pm_no]) (pm_q287_1 (Nat.le_of_ble_eq_true rfl)) B802 rfl (by decide) (by decide) (by decide) (fun _ => rfl) rfl (fun z895 e896 B897 => ?_)
                          show pm_R _ 287 142 [.ref 41, .int a0, .int a1, .int a2, .long z863, pm_no, .long z884, pm_no, .long z837, pm_no, .int z895, .long z837, pm_no] [] _ _
                          refine pm_R_br pm_M287 (pc_q := 53) (pm_q287_1 (Nat.le_of_ble_eq_true rfl)) rfl ?_
                          exact ih_783 _ (sf_up hN_783 e896 B802 (by decide) (by decide)) h820 m818 w819 z895 z863 z884 z837 (.long z837) (pm_no) T821 F824 W827 (sf_weak B897 (by decide) (by decide)) (lf_weak B883 (by decide) (by decide)) rfl rfl
              exact L_783 _ h37 m40 w 0 0 0 0 (pm_no) (pm_no) T38 F42 (rf_W.refl _ _) (sf_weak sf_k0 (by decide) (by decide)) (lf_weak (⟨by decide, by decide⟩ : lf_B 0 0 0) (by decide) (by decide)) rfl rfl
